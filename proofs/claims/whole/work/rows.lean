section
-- ===== PART A: goes FIRST, ahead of the names: the tables' words, and 'selects' of the private methods out of them =====
/-- a private method of a class that the tables say can be made, by its rows of tables_1 -/
def lw_okq (q : MethodName × Nat) : Prop := (q.1.cls ≠ "java/lang/invoke/MethodHandle" ∧ q.1.cls ≠ "java/lang/invoke/VarHandle") ∧ Cond.instantiable q.1.cls q.2 ∈ tables_1 ∧ Cond.privateMethod q.1 ∈ tables_1 ∧ Cond.instanceMethod q.1 ∈ tables_1
theorem lw_p0 : lw_okq (⟨"ReleaseLeaves$Digester", "spreadSchedule", "()V"⟩, 3) := ⟨⟨by decide +kernel, by decide +kernel⟩, List.mem_of_getElem? (i := 25) (by decide +kernel), List.mem_of_getElem? (i := 126) (by decide +kernel), List.mem_of_getElem? (i := 127) (by decide +kernel)⟩
theorem lw_p1 : lw_okq (⟨"ReleaseLeaves$Digester", "mixBlock", "()V"⟩, 3) := ⟨⟨by decide +kernel, by decide +kernel⟩, List.mem_of_getElem? (i := 25) (by decide +kernel), List.mem_of_getElem? (i := 133) (by decide +kernel), List.mem_of_getElem? (i := 134) (by decide +kernel)⟩
theorem lw_p2 : lw_okq (⟨"ReleaseLeaves$Tree", "pairUp", "(ILReleaseLeaves$Digester;)V"⟩, 3) := ⟨⟨by decide +kernel, by decide +kernel⟩, List.mem_of_getElem? (i := 53) (by decide +kernel), List.mem_of_getElem? (i := 235) (by decide +kernel), List.mem_of_getElem? (i := 236) (by decide +kernel)⟩
theorem lw_p3 : lw_okq (⟨"ReleaseLeaves$Claim", "stepCountAt", "()I"⟩, 2) := ⟨⟨by decide +kernel, by decide +kernel⟩, List.mem_of_getElem? (i := 159) (by decide +kernel), List.mem_of_getElem? (i := 273) (by decide +kernel), List.mem_of_getElem? (i := 274) (by decide +kernel)⟩
theorem lw_p4 : lw_okq (⟨"ReleaseLeaves$Claim", "stepAt", "(I)I"⟩, 2) := ⟨⟨by decide +kernel, by decide +kernel⟩, List.mem_of_getElem? (i := 159) (by decide +kernel), List.mem_of_getElem? (i := 277) (by decide +kernel), List.mem_of_getElem? (i := 278) (by decide +kernel)⟩
theorem lw_p5 : lw_okq (⟨"ReleaseLeaves$Claim", "climbStep", "(ILReleaseLeaves$Digester;[I)V"⟩, 2) := ⟨⟨by decide +kernel, by decide +kernel⟩, List.mem_of_getElem? (i := 159) (by decide +kernel), List.mem_of_getElem? (i := 293) (by decide +kernel), List.mem_of_getElem? (i := 294) (by decide +kernel)⟩
theorem lw_p6 : lw_okq (⟨"java/lang/Throwable", "fillInStackTrace", "(I)Ljava/lang/Throwable;"⟩, 6) := ⟨⟨by decide +kernel, by decide +kernel⟩, List.mem_of_getElem? (i := 359) (by decide +kernel), List.mem_of_getElem? (i := 357) (by decide +kernel), List.mem_of_getElem? (i := 358) (by decide +kernel)⟩
theorem lw_p7 : lw_okq (⟨"ReleaseLeaves", "closedRelease", "(I)LReleaseLeaves$Release;"⟩, 10) := ⟨⟨by decide +kernel, by decide +kernel⟩, List.mem_of_getElem? (i := 17) (by decide +kernel), List.mem_of_getElem? (i := 437) (by decide +kernel), List.mem_of_getElem? (i := 438) (by decide +kernel)⟩
theorem lw_p8 : lw_okq (⟨"ReleaseLeaves", "releaseWithLeaf", "(II)LReleaseLeaves$Release;"⟩, 10) := ⟨⟨by decide +kernel, by decide +kernel⟩, List.mem_of_getElem? (i := 17) (by decide +kernel), List.mem_of_getElem? (i := 453) (by decide +kernel), List.mem_of_getElem? (i := 454) (by decide +kernel)⟩
theorem lw_p9 : lw_okq (⟨"ReleaseLeaves$Tree", "countSteps", "(I)I"⟩, 3) := ⟨⟨by decide +kernel, by decide +kernel⟩, List.mem_of_getElem? (i := 53) (by decide +kernel), List.mem_of_getElem? (i := 463) (by decide +kernel), List.mem_of_getElem? (i := 464) (by decide +kernel)⟩
theorem lw_p10 : lw_okq (⟨"ReleaseLeaves$Tree", "hasOther", "(II)Z"⟩, 3) := ⟨⟨by decide +kernel, by decide +kernel⟩, List.mem_of_getElem? (i := 53) (by decide +kernel), List.mem_of_getElem? (i := 467) (by decide +kernel), List.mem_of_getElem? (i := 468) (by decide +kernel)⟩
theorem lw_p11 : lw_okq (⟨"ReleaseLeaves$Tree", "findStepRow", "(II)I"⟩, 3) := ⟨⟨by decide +kernel, by decide +kernel⟩, List.mem_of_getElem? (i := 53) (by decide +kernel), List.mem_of_getElem? (i := 474) (by decide +kernel), List.mem_of_getElem? (i := 475) (by decide +kernel)⟩
theorem lw_p12 : lw_okq (⟨"ReleaseLeavesModel", "tell", "(IJJJJ)V"⟩, 32) := ⟨⟨by decide +kernel, by decide +kernel⟩, List.mem_of_getElem? (i := 569) (by decide +kernel), List.mem_of_getElem? (i := 579) (by decide +kernel), List.mem_of_getElem? (i := 580) (by decide +kernel)⟩
theorem lw_p13 : lw_okq (⟨"ReleaseLeavesModel", "tellTwo", "(IJ)V"⟩, 32) := ⟨⟨by decide +kernel, by decide +kernel⟩, List.mem_of_getElem? (i := 569) (by decide +kernel), List.mem_of_getElem? (i := 583) (by decide +kernel), List.mem_of_getElem? (i := 584) (by decide +kernel)⟩
theorem lw_p14 : lw_okq (⟨"ReleaseLeavesModel", "fileWith", "(II)I"⟩, 32) := ⟨⟨by decide +kernel, by decide +kernel⟩, List.mem_of_getElem? (i := 569) (by decide +kernel), List.mem_of_getElem? (i := 722) (by decide +kernel), List.mem_of_getElem? (i := 723) (by decide +kernel)⟩
theorem lw_p15 : lw_okq (⟨"ReleaseLeavesModel", "nextFile", "(I)I"⟩, 32) := ⟨⟨by decide +kernel, by decide +kernel⟩, List.mem_of_getElem? (i := 569) (by decide +kernel), List.mem_of_getElem? (i := 737) (by decide +kernel), List.mem_of_getElem? (i := 738) (by decide +kernel)⟩
def lw_privs_1 : List (MethodName × Nat) := [(⟨"ReleaseLeaves$Digester", "spreadSchedule", "()V"⟩, 3), (⟨"ReleaseLeaves$Digester", "mixBlock", "()V"⟩, 3), (⟨"ReleaseLeaves$Tree", "pairUp", "(ILReleaseLeaves$Digester;)V"⟩, 3), (⟨"ReleaseLeaves$Claim", "stepCountAt", "()I"⟩, 2), (⟨"ReleaseLeaves$Claim", "stepAt", "(I)I"⟩, 2), (⟨"ReleaseLeaves$Claim", "climbStep", "(ILReleaseLeaves$Digester;[I)V"⟩, 2), (⟨"java/lang/Throwable", "fillInStackTrace", "(I)Ljava/lang/Throwable;"⟩, 6), (⟨"ReleaseLeaves", "closedRelease", "(I)LReleaseLeaves$Release;"⟩, 10), (⟨"ReleaseLeaves", "releaseWithLeaf", "(II)LReleaseLeaves$Release;"⟩, 10), (⟨"ReleaseLeaves$Tree", "countSteps", "(I)I"⟩, 3), (⟨"ReleaseLeaves$Tree", "hasOther", "(II)Z"⟩, 3), (⟨"ReleaseLeaves$Tree", "findStepRow", "(II)I"⟩, 3), (⟨"ReleaseLeavesModel", "tell", "(IJJJJ)V"⟩, 32), (⟨"ReleaseLeavesModel", "tellTwo", "(IJ)V"⟩, 32), (⟨"ReleaseLeavesModel", "fileWith", "(II)I"⟩, 32), (⟨"ReleaseLeavesModel", "nextFile", "(I)I"⟩, 32)]
theorem lw_r1 : ∀ q ∈ lw_privs_1, lw_okq q := List.forall_mem_cons.mpr ⟨lw_p0, List.forall_mem_cons.mpr ⟨lw_p1, List.forall_mem_cons.mpr ⟨lw_p2, List.forall_mem_cons.mpr ⟨lw_p3, List.forall_mem_cons.mpr ⟨lw_p4, List.forall_mem_cons.mpr ⟨lw_p5, List.forall_mem_cons.mpr ⟨lw_p6, List.forall_mem_cons.mpr ⟨lw_p7, List.forall_mem_cons.mpr ⟨lw_p8, List.forall_mem_cons.mpr ⟨lw_p9, List.forall_mem_cons.mpr ⟨lw_p10, List.forall_mem_cons.mpr ⟨lw_p11, List.forall_mem_cons.mpr ⟨lw_p12, List.forall_mem_cons.mpr ⟨lw_p13, List.forall_mem_cons.mpr ⟨lw_p14, List.forall_mem_cons.mpr ⟨lw_p15, fun _ h => absurd h List.not_mem_nil⟩⟩⟩⟩⟩⟩⟩⟩⟩⟩⟩⟩⟩⟩⟩⟩
theorem lw_p16 : lw_okq (⟨"ReleaseLeavesModel", "digestLeaf", "(I)V"⟩, 32) := ⟨⟨by decide +kernel, by decide +kernel⟩, List.mem_of_getElem? (i := 569) (by decide +kernel), List.mem_of_getElem? (i := 741) (by decide +kernel), List.mem_of_getElem? (i := 742) (by decide +kernel)⟩
theorem lw_p17 : lw_okq (⟨"ReleaseLeavesModel", "put", "(I)V"⟩, 32) := ⟨⟨by decide +kernel, by decide +kernel⟩, List.mem_of_getElem? (i := 569) (by decide +kernel), List.mem_of_getElem? (i := 745) (by decide +kernel), List.mem_of_getElem? (i := 746) (by decide +kernel)⟩
theorem lw_p18 : lw_okq (⟨"ReleaseLeavesModel", "digestInput", "()V"⟩, 32) := ⟨⟨by decide +kernel, by decide +kernel⟩, List.mem_of_getElem? (i := 569) (by decide +kernel), List.mem_of_getElem? (i := 749) (by decide +kernel), List.mem_of_getElem? (i := 750) (by decide +kernel)⟩
theorem lw_p19 : lw_okq (⟨"ReleaseLeavesModel", "block", "(I)V"⟩, 32) := ⟨⟨by decide +kernel, by decide +kernel⟩, List.mem_of_getElem? (i := 569) (by decide +kernel), List.mem_of_getElem? (i := 761) (by decide +kernel), List.mem_of_getElem? (i := 762) (by decide +kernel)⟩
theorem lw_p20 : lw_okq (⟨"ReleaseLeavesModel", "layRow", "(I)V"⟩, 32) := ⟨⟨by decide +kernel, by decide +kernel⟩, List.mem_of_getElem? (i := 569) (by decide +kernel), List.mem_of_getElem? (i := 768) (by decide +kernel), List.mem_of_getElem? (i := 769) (by decide +kernel)⟩
theorem lw_p21 : lw_okq (⟨"ReleaseLeavesModel", "goUp", "()V"⟩, 32) := ⟨⟨by decide +kernel, by decide +kernel⟩, List.mem_of_getElem? (i := 569) (by decide +kernel), List.mem_of_getElem? (i := 772) (by decide +kernel), List.mem_of_getElem? (i := 773) (by decide +kernel)⟩
theorem lw_p22 : lw_okq (⟨"ReleaseLeavesModel", "putDigest", "([II)V"⟩, 32) := ⟨⟨by decide +kernel, by decide +kernel⟩, List.mem_of_getElem? (i := 569) (by decide +kernel), List.mem_of_getElem? (i := 776) (by decide +kernel), List.mem_of_getElem? (i := 777) (by decide +kernel)⟩
theorem lw_p23 : lw_okq (⟨"ReleaseLeavesModel", "isRelease", "(I)Z"⟩, 32) := ⟨⟨by decide +kernel, by decide +kernel⟩, List.mem_of_getElem? (i := 569) (by decide +kernel), List.mem_of_getElem? (i := 788) (by decide +kernel), List.mem_of_getElem? (i := 789) (by decide +kernel)⟩
theorem lw_p24 : lw_okq (⟨"ReleaseLeavesModel", "isLeaf", "(II)Z"⟩, 32) := ⟨⟨by decide +kernel, by decide +kernel⟩, List.mem_of_getElem? (i := 569) (by decide +kernel), List.mem_of_getElem? (i := 796) (by decide +kernel), List.mem_of_getElem? (i := 797) (by decide +kernel)⟩
theorem lw_p25 : lw_okq (⟨"ReleaseLeavesModel", "begin", "(I)V"⟩, 32) := ⟨⟨by decide +kernel, by decide +kernel⟩, List.mem_of_getElem? (i := 569) (by decide +kernel), List.mem_of_getElem? (i := 804) (by decide +kernel), List.mem_of_getElem? (i := 805) (by decide +kernel)⟩
theorem lw_p26 : lw_okq (⟨"ReleaseLeavesModel", "say", "(I)V"⟩, 32) := ⟨⟨by decide +kernel, by decide +kernel⟩, List.mem_of_getElem? (i := 569) (by decide +kernel), List.mem_of_getElem? (i := 811) (by decide +kernel), List.mem_of_getElem? (i := 812) (by decide +kernel)⟩
theorem lw_p27 : lw_okq (⟨"ReleaseLeavesModel", "holds", "()Z"⟩, 32) := ⟨⟨by decide +kernel, by decide +kernel⟩, List.mem_of_getElem? (i := 569) (by decide +kernel), List.mem_of_getElem? (i := 831) (by decide +kernel), List.mem_of_getElem? (i := 832) (by decide +kernel)⟩
theorem lw_p28 : lw_okq (⟨"ReleaseLeavesModel", "note", "(IIII)V"⟩, 32) := ⟨⟨by decide +kernel, by decide +kernel⟩, List.mem_of_getElem? (i := 569) (by decide +kernel), List.mem_of_getElem? (i := 839) (by decide +kernel), List.mem_of_getElem? (i := 840) (by decide +kernel)⟩
theorem lw_p29 : lw_okq (⟨"ReleaseLeavesModel", "isApproved", "(I)Z"⟩, 32) := ⟨⟨by decide +kernel, by decide +kernel⟩, List.mem_of_getElem? (i := 569) (by decide +kernel), List.mem_of_getElem? (i := 843) (by decide +kernel), List.mem_of_getElem? (i := 844) (by decide +kernel)⟩
theorem lw_p30 : lw_okq (⟨"ReleaseLeavesModel", "digestList", "(I)V"⟩, 32) := ⟨⟨by decide +kernel, by decide +kernel⟩, List.mem_of_getElem? (i := 569) (by decide +kernel), List.mem_of_getElem? (i := 863) (by decide +kernel), List.mem_of_getElem? (i := 864) (by decide +kernel)⟩
def lw_privs_2 : List (MethodName × Nat) := [(⟨"ReleaseLeavesModel", "digestLeaf", "(I)V"⟩, 32), (⟨"ReleaseLeavesModel", "put", "(I)V"⟩, 32), (⟨"ReleaseLeavesModel", "digestInput", "()V"⟩, 32), (⟨"ReleaseLeavesModel", "block", "(I)V"⟩, 32), (⟨"ReleaseLeavesModel", "layRow", "(I)V"⟩, 32), (⟨"ReleaseLeavesModel", "goUp", "()V"⟩, 32), (⟨"ReleaseLeavesModel", "putDigest", "([II)V"⟩, 32), (⟨"ReleaseLeavesModel", "isRelease", "(I)Z"⟩, 32), (⟨"ReleaseLeavesModel", "isLeaf", "(II)Z"⟩, 32), (⟨"ReleaseLeavesModel", "begin", "(I)V"⟩, 32), (⟨"ReleaseLeavesModel", "say", "(I)V"⟩, 32), (⟨"ReleaseLeavesModel", "holds", "()Z"⟩, 32), (⟨"ReleaseLeavesModel", "note", "(IIII)V"⟩, 32), (⟨"ReleaseLeavesModel", "isApproved", "(I)Z"⟩, 32), (⟨"ReleaseLeavesModel", "digestList", "(I)V"⟩, 32)]
theorem lw_r2 : ∀ q ∈ lw_privs_2, lw_okq q := List.forall_mem_cons.mpr ⟨lw_p16, List.forall_mem_cons.mpr ⟨lw_p17, List.forall_mem_cons.mpr ⟨lw_p18, List.forall_mem_cons.mpr ⟨lw_p19, List.forall_mem_cons.mpr ⟨lw_p20, List.forall_mem_cons.mpr ⟨lw_p21, List.forall_mem_cons.mpr ⟨lw_p22, List.forall_mem_cons.mpr ⟨lw_p23, List.forall_mem_cons.mpr ⟨lw_p24, List.forall_mem_cons.mpr ⟨lw_p25, List.forall_mem_cons.mpr ⟨lw_p26, List.forall_mem_cons.mpr ⟨lw_p27, List.forall_mem_cons.mpr ⟨lw_p28, List.forall_mem_cons.mpr ⟨lw_p29, List.forall_mem_cons.mpr ⟨lw_p30, fun _ h => absurd h List.not_mem_nil⟩⟩⟩⟩⟩⟩⟩⟩⟩⟩⟩⟩⟩⟩⟩
def lw_privs : List (MethodName × Nat) := lw_privs_1 ++ (lw_privs_2)
def lw_tbl : List Cond := k2_sels lw_privs ++ tables_1
theorem lw_privs_ok : ∀ q ∈ lw_privs, lw_okq q := by
  show ∀ q ∈ lw_privs_1 ++ (lw_privs_2), lw_okq q
  exact List.forall_mem_append.mpr ⟨lw_r1, lw_r2⟩
end
section
/-! TABLES of this claim for the logical machine, written by program (wip/whole/gen/tables.py) out of the Statement's words and javap's listing. -/
def zcnL : List String := ["ReleaseLeaves", "ReleaseLeaves$Digester", "ReleaseLeaves$Release", "ReleaseLeaves$Tree", "ReleaseLeaves$StoredFile", "ReleaseLeaves$EventLog", "ReleaseLeaves$Claim", "ReleaseLeavesModel", "ReleaseLeavesLaw", "java/lang/Math"]
def zcn (i : Nat) : String := zcnL.getD i ""
abbrev zNc : Nat := 8
abbrev zNm : Nat := 121
def zfTL : List (List (String × String × String × Bool)) := [[("ReleaseLeaves", "digester", "LReleaseLeaves$Digester;", true), ("ReleaseLeaves", "releases", "[LReleaseLeaves$Release;", true), ("ReleaseLeaves", "closedCount", "I", false), ("ReleaseLeaves", "lists", "[[I", true), ("ReleaseLeaves", "withdrawnCount", "I", false), ("ReleaseLeaves", "serialReleases", "[I", true), ("ReleaseLeaves", "serialCount", "I", false), ("ReleaseLeaves", "log", "LReleaseLeaves$EventLog;", true), ("ReleaseLeaves", "claim", "LReleaseLeaves$Claim;", true), ("ReleaseLeaves", "climbed", "[I", true)], [("ReleaseLeaves$Digester", "state", "[I", true), ("ReleaseLeaves$Digester", "schedule", "[I", true), ("ReleaseLeaves$Digester", "length", "I", false)], [("ReleaseLeaves$Release", "files", "[LReleaseLeaves$StoredFile;", true), ("ReleaseLeaves$Release", "fileCount", "I", false), ("ReleaseLeaves$Release", "tree", "LReleaseLeaves$Tree;", true), ("ReleaseLeaves$Release", "roles", "[I", true), ("ReleaseLeaves$Release", "withdrawn", "Z", false)], [("ReleaseLeaves$Tree", "nodes", "[[I", true), ("ReleaseLeaves$Tree", "widths", "[I", true), ("ReleaseLeaves$Tree", "topRow", "I", false)], [("ReleaseLeaves$StoredFile", "name", "I", false), ("ReleaseLeaves$StoredFile", "bytes", "[I", true), ("ReleaseLeaves$StoredFile", "length", "I", false)], [("ReleaseLeaves$EventLog", "owners", "[I", true), ("ReleaseLeaves$EventLog", "kinds", "[I", true), ("ReleaseLeaves$EventLog", "subjects", "[I", true), ("ReleaseLeaves$EventLog", "roles", "[I", true), ("ReleaseLeaves$EventLog", "count", "I", false)], [("ReleaseLeaves$Claim", "bytes", "[I", true), ("ReleaseLeaves$Claim", "count", "I", false)], [("ReleaseLeavesModel", "thrown", "I", false), ("ReleaseLeavesModel", "constants", "[I", true), ("ReleaseLeavesModel", "size", "I", false), ("ReleaseLeavesModel", "input", "[I", true), ("ReleaseLeavesModel", "words", "[I", true), ("ReleaseLeavesModel", "state", "[I", true), ("ReleaseLeavesModel", "work", "[I", true), ("ReleaseLeavesModel", "output", "[I", true), ("ReleaseLeavesModel", "releases", "I", false), ("ReleaseLeavesModel", "counts", "[I", true), ("ReleaseLeavesModel", "names", "[I", true), ("ReleaseLeavesModel", "lengths", "[I", true), ("ReleaseLeavesModel", "bytes", "[I", true), ("ReleaseLeavesModel", "leafDigests", "[I", true), ("ReleaseLeavesModel", "roots", "[I", true), ("ReleaseLeavesModel", "width", "I", false), ("ReleaseLeavesModel", "row", "[I", true), ("ReleaseLeavesModel", "checkSize", "I", false), ("ReleaseLeavesModel", "check", "[I", true), ("ReleaseLeavesModel", "roles", "[I", true), ("ReleaseLeavesModel", "withdrawn", "[Z", true), ("ReleaseLeavesModel", "withdrawals", "I", false), ("ReleaseLeavesModel", "serials", "I", false), ("ReleaseLeavesModel", "serialOf", "[I", true), ("ReleaseLeavesModel", "events", "I", false), ("ReleaseLeavesModel", "eventRelease", "[I", true), ("ReleaseLeavesModel", "eventKind", "[I", true), ("ReleaseLeavesModel", "eventA", "[I", true), ("ReleaseLeavesModel", "eventB", "[I", true), ("ReleaseLeavesModel", "wanted", "I", false), ("ReleaseLeavesModel", "written", "I", false), ("ReleaseLeavesModel", "found", "I", false)]]
def zfT (ci : Nat) : u_T := fun k => (zfTL.getD ci []).getD k ("", "", "", false)
def zfNL : List Nat := [10, 3, 5, 3, 3, 5, 2, 32]
def zfN (ci : Nat) : Nat := zfNL.getD ci 0
def zftL : List (List FieldType) := [[.object "ReleaseLeaves$Digester", .array (.object "ReleaseLeaves$Release"), .int, .array (.array .int), .int, .array .int, .int, .object "ReleaseLeaves$EventLog", .object "ReleaseLeaves$Claim", .array .int], [.array .int, .array .int, .int], [.array (.object "ReleaseLeaves$StoredFile"), .int, .object "ReleaseLeaves$Tree", .array .int, .boolean], [.array (.array .int), .array .int, .int], [.int, .array .int, .int], [.array .int, .array .int, .array .int, .array .int, .int], [.array .int, .int], [.int, .array .int, .int, .array .int, .array .int, .array .int, .array .int, .array .int, .int, .array .int, .array .int, .array .int, .array .int, .array .int, .array .int, .int, .array .int, .int, .array .int, .array .int, .array .boolean, .int, .int, .array .int, .int, .array .int, .array .int, .array .int, .array .int, .int, .int, .int]]
def zft (ci k : Nat) : FieldType := (zftL.getD ci []).getD k .int
abbrev zcls : List vw_C := [(zcn 0, zfT 0, zfN 0), (zcn 1, zfT 1, zfN 1), (zcn 2, zfT 2, zfN 2), (zcn 3, zfT 3, zfN 3), (zcn 4, zfT 4, zfN 4), (zcn 5, zfT 5, zfN 5), (zcn 6, zfT 6, zfN 6), (zcn 7, zfT 7, zfN 7)]
def zlayP : List (List Nat) := [[212, 214, 216, 218, 220, 222, 224, 226, 228, 230], [66, 68, 70], [127, 129, 131, 133, 135], [94, 96, 98], [111, 113, 115], [178, 180, 182, 184, 186], [197, 199], [677, 679, 681, 683, 685, 687, 689, 691, 693, 695, 697, 699, 701, 703, 705, 707, 709, 711, 713, 715, 717, 719, 721, 723, 725, 727, 729, 731, 733, 735, 737, 739]]
def zyL : List MethodName := [⟨"ReleaseLeavesLaw", "law", "([I)Z"⟩, ⟨"ReleaseLeaves", "<init>", "()V"⟩, ⟨"ReleaseLeaves$Digester", "<init>", "()V"⟩, ⟨"ReleaseLeaves$Release", "<init>", "()V"⟩, ⟨"ReleaseLeaves$Tree", "<init>", "()V"⟩, ⟨"ReleaseLeaves$StoredFile", "<init>", "()V"⟩, ⟨"ReleaseLeaves$Digester", "begin", "()V"⟩, ⟨"ReleaseLeaves$Digester", "finish", "([I)V"⟩, ⟨"ReleaseLeaves$Digester", "put", "(I)V"⟩, ⟨"ReleaseLeaves$Digester", "spreadSchedule", "()V"⟩, ⟨"ReleaseLeaves$Digester", "turn", "(II)I"⟩, ⟨"ReleaseLeaves$Digester", "mixBlock", "()V"⟩, ⟨"ReleaseLeaves$EventLog", "<init>", "()V"⟩, ⟨"ReleaseLeaves$Claim", "<init>", "()V"⟩, ⟨"ReleaseLeaves", "close", "()I"⟩, ⟨"ReleaseLeaves$Release", "sortFiles", "()V"⟩, ⟨"ReleaseLeaves$Tree", "grow", "([LReleaseLeaves$StoredFile;ILReleaseLeaves$Digester;)V"⟩, ⟨"ReleaseLeaves$Tree", "node", "(II)[I"⟩, ⟨"ReleaseLeaves$StoredFile", "digestInto", "(LReleaseLeaves$Digester;[I)V"⟩, ⟨"ReleaseLeaves$Digester", "putPart", "([III)V"⟩, ⟨"ReleaseLeaves$Tree", "pairUp", "(ILReleaseLeaves$Digester;)V"⟩, ⟨"ReleaseLeaves$Digester", "putAll", "([I)V"⟩, ⟨"ReleaseLeaves$Tree", "top", "()[I"⟩, ⟨"ReleaseLeaves", "check", "(I)Z"⟩, ⟨"ReleaseLeaves", "isByte", "(I)Z"⟩, ⟨"ReleaseLeaves$Claim", "addByte", "(I)Z"⟩, ⟨"ReleaseLeaves", "checked", "()I"⟩, ⟨"ReleaseLeaves$Claim", "isWellFormed", "()Z"⟩, ⟨"ReleaseLeaves$Claim", "hasByte", "(I)Z"⟩, ⟨"ReleaseLeaves$Claim", "stepCountAt", "()I"⟩, ⟨"ReleaseLeaves$Claim", "stepAt", "(I)I"⟩, ⟨"ReleaseLeaves$Claim", "releaseNumber", "()I"⟩, ⟨"ReleaseLeaves$Claim", "climb", "(LReleaseLeaves$Digester;[I)V"⟩, ⟨"ReleaseLeaves$Claim", "climbStep", "(ILReleaseLeaves$Digester;[I)V"⟩, ⟨"ReleaseLeaves", "sameNumbers", "([I[II)Z"⟩, ⟨"ReleaseLeaves", "made", "()I"⟩, ⟨"ReleaseLeaves", "clearCheck", "()V"⟩, ⟨"ReleaseLeaves$Claim", "empty", "()V"⟩, ⟨"ReleaseLeavesLaw", "file", "(LReleaseLeaves;I[J)I"⟩, ⟨"ReleaseLeaves", "file", "(I)I"⟩, ⟨"ReleaseLeaves$Release", "addFile", "(I)I"⟩, ⟨"ReleaseLeaves$Release", "findName", "(I)I"⟩, ⟨"ReleaseLeavesLaw", "byteOf", "(LReleaseLeaves;II[J)I"⟩, ⟨"ReleaseLeaves", "byteOf", "(II)Z"⟩, ⟨"ReleaseLeaves$Release", "hasFile", "(I)Z"⟩, ⟨"ReleaseLeaves$StoredFile", "addByte", "(I)Z"⟩, ⟨"ReleaseLeavesLaw", "root", "(LReleaseLeaves;II[J)I"⟩, ⟨"ReleaseLeaves", "root", "(II)I"⟩, ⟨"ReleaseLeaves", "closedRelease", "(I)LReleaseLeaves$Release;"⟩, ⟨"ReleaseLeaves", "requireDigestPlace", "(I)V"⟩, ⟨"ReleaseLeavesLaw", "proof", "(LReleaseLeaves;III[J)I"⟩, ⟨"ReleaseLeaves", "proof", "(III)I"⟩, ⟨"ReleaseLeaves", "releaseWithLeaf", "(II)LReleaseLeaves$Release;"⟩, ⟨"ReleaseLeaves$Tree", "proofByte", "(II)I"⟩, ⟨"ReleaseLeaves$Tree", "countSteps", "(I)I"⟩, ⟨"ReleaseLeaves$Tree", "hasOther", "(II)Z"⟩, ⟨"ReleaseLeaves$Tree", "otherOf", "(I)I"⟩, ⟨"ReleaseLeaves$Tree", "findStepRow", "(II)I"⟩, ⟨"ReleaseLeavesLaw", "approve", "(LReleaseLeaves;III[J)I"⟩, ⟨"ReleaseLeaves", "approve", "(III)I"⟩, ⟨"ReleaseLeaves$EventLog", "record", "(IIII)V"⟩, ⟨"ReleaseLeaves$Release", "isApproved", "()Z"⟩, ⟨"ReleaseLeavesLaw", "withdraw", "(LReleaseLeaves;I[J)I"⟩, ⟨"ReleaseLeaves", "withdraw", "(I)I"⟩, ⟨"ReleaseLeavesLaw", "serial", "(LReleaseLeaves;I[J)I"⟩, ⟨"ReleaseLeaves", "serial", "(I)I"⟩, ⟨"ReleaseLeavesLaw", "history", "(LReleaseLeaves;III[J)I"⟩, ⟨"ReleaseLeaves", "history", "(III)I"⟩, ⟨"ReleaseLeaves$EventLog", "find", "(II)I"⟩, ⟨"ReleaseLeaves$EventLog", "tell", "(II)I"⟩, ⟨"ReleaseLeavesLaw", "digest", "(LReleaseLeaves;III[J)I"⟩, ⟨"ReleaseLeaves", "digest", "(III)I"⟩, ⟨"ReleaseLeavesLaw", "growth", "(LReleaseLeaves;III[J)I"⟩, ⟨"ReleaseLeaves", "growth", "(III)I"⟩, ⟨"ReleaseLeavesLaw", "poke", "(LReleaseLeaves;II[J)I"⟩, ⟨"ReleaseLeaves", "poke", "(II)Z"⟩, ⟨"ReleaseLeaves$Claim", "flip", "(II)Z"⟩, ⟨"ReleaseLeavesLaw", "changed", "(LReleaseLeaves;II[J)I"⟩, ⟨"ReleaseLeaves", "changed", "(II)I"⟩, ⟨"ReleaseLeaves$StoredFile", "hasBytesOf", "(LReleaseLeaves$StoredFile;)Z"⟩, ⟨"ReleaseLeavesModel", "<init>", "()V"⟩, ⟨"ReleaseLeavesModel", "tell", "(IJJJJ)V"⟩, ⟨"ReleaseLeavesModel", "tellTwo", "(IJ)V"⟩, ⟨"ReleaseLeavesModel", "thrown", "()I"⟩, ⟨"ReleaseLeavesModel", "file", "(I)I"⟩, ⟨"ReleaseLeavesModel", "fileWith", "(II)I"⟩, ⟨"ReleaseLeavesModel", "byteOf", "(II)Z"⟩, ⟨"ReleaseLeavesModel", "isByte", "(I)Z"⟩, ⟨"ReleaseLeavesModel", "close", "()I"⟩, ⟨"ReleaseLeavesModel", "nextFile", "(I)I"⟩, ⟨"ReleaseLeavesModel", "digestLeaf", "(I)V"⟩, ⟨"ReleaseLeavesModel", "put", "(I)V"⟩, ⟨"ReleaseLeavesModel", "digestInput", "()V"⟩, ⟨"ReleaseLeavesModel", "block", "(I)V"⟩, ⟨"ReleaseLeavesModel", "turned", "(II)I"⟩, ⟨"ReleaseLeavesModel", "layRow", "(I)V"⟩, ⟨"ReleaseLeavesModel", "goUp", "()V"⟩, ⟨"ReleaseLeavesModel", "putDigest", "([II)V"⟩, ⟨"ReleaseLeavesModel", "made", "()I"⟩, ⟨"ReleaseLeavesModel", "root", "(II)I"⟩, ⟨"ReleaseLeavesModel", "isRelease", "(I)Z"⟩, ⟨"ReleaseLeavesModel", "digest", "(III)I"⟩, ⟨"ReleaseLeavesModel", "isLeaf", "(II)Z"⟩, ⟨"ReleaseLeavesModel", "proof", "(III)I"⟩, ⟨"ReleaseLeavesModel", "begin", "(I)V"⟩, ⟨"ReleaseLeavesModel", "stepsOf", "(II)I"⟩, ⟨"ReleaseLeavesModel", "say", "(I)V"⟩, ⟨"ReleaseLeavesModel", "check", "(I)Z"⟩, ⟨"ReleaseLeavesModel", "clearCheck", "()V"⟩, ⟨"ReleaseLeavesModel", "poke", "(II)Z"⟩, ⟨"ReleaseLeavesModel", "checked", "()I"⟩, ⟨"ReleaseLeavesModel", "holds", "()Z"⟩, ⟨"ReleaseLeavesModel", "approve", "(III)I"⟩, ⟨"ReleaseLeavesModel", "note", "(IIII)V"⟩, ⟨"ReleaseLeavesModel", "isApproved", "(I)Z"⟩, ⟨"ReleaseLeavesModel", "withdraw", "(I)I"⟩, ⟨"ReleaseLeavesModel", "serial", "(I)I"⟩, ⟨"ReleaseLeavesModel", "history", "(III)I"⟩, ⟨"ReleaseLeavesModel", "growth", "(III)I"⟩, ⟨"ReleaseLeavesModel", "digestList", "(I)V"⟩, ⟨"ReleaseLeavesModel", "changed", "(II)I"⟩]
def zy (i : Nat) : MethodName := zyL.getD i x
def zcdL : List ByteArray := [code, prog_1_method_1_code, prog_3_method_1_code, prog_5_method_1_code, prog_7_method_1_code, prog_6_method_1_code, prog_3_method_2_code, prog_3_method_6_code, prog_3_method_3_code, prog_3_method_7_code, prog_3_method_9_code, prog_3_method_8_code, prog_4_method_1_code, prog_2_method_1_code, prog_1_method_4_code, prog_5_method_5_code, prog_7_method_4_code, prog_7_method_2_code, prog_6_method_4_code, prog_3_method_5_code, prog_7_method_5_code, prog_3_method_4_code, prog_7_method_3_code, prog_1_method_7_code, prog_1_method_22_code, prog_2_method_2_code, prog_1_method_8_code, prog_2_method_9_code, prog_2_method_3_code, prog_2_method_7_code, prog_2_method_8_code, prog_2_method_6_code, prog_2_method_10_code, prog_2_method_11_code, prog_1_method_23_code, prog_1_method_17_code, prog_1_method_18_code, prog_2_method_5_code, method_3_code, prog_1_method_2_code, prog_5_method_3_code, prog_5_method_4_code, method_4_code, prog_1_method_3_code, prog_5_method_2_code, prog_6_method_2_code, method_5_code, prog_1_method_5_code, prog_1_method_19_code, prog_1_method_21_code, method_6_code, prog_1_method_6_code, prog_1_method_20_code, prog_7_method_6_code, prog_7_method_7_code, prog_7_method_9_code, prog_7_method_10_code, prog_7_method_8_code, method_7_code, prog_1_method_9_code, prog_4_method_2_code, prog_5_method_6_code, method_8_code, prog_1_method_10_code, method_9_code, prog_1_method_11_code, method_10_code, prog_1_method_12_code, prog_4_method_3_code, prog_4_method_4_code, method_11_code, prog_1_method_13_code, method_12_code, prog_1_method_14_code, method_13_code, prog_1_method_15_code, prog_2_method_4_code, method_14_code, prog_1_method_16_code, prog_6_method_3_code, prog_9_method_1_code, prog_9_method_2_code, prog_9_method_3_code, prog_9_method_4_code, prog_9_method_14_code, prog_9_method_13_code, prog_9_method_15_code, prog_9_method_12_code, prog_9_method_18_code, prog_9_method_16_code, prog_9_method_17_code, prog_9_method_5_code, prog_9_method_8_code, prog_9_method_7_code, prog_9_method_6_code, prog_9_method_20_code, prog_9_method_21_code, prog_9_method_9_code, prog_9_method_19_code, prog_9_method_25_code, prog_9_method_10_code, prog_9_method_26_code, prog_9_method_11_code, prog_9_method_27_code, prog_9_method_23_code, prog_9_method_24_code, prog_9_method_22_code, prog_9_method_28_code, prog_9_method_29_code, prog_9_method_30_code, prog_9_method_32_code, prog_9_method_31_code, prog_9_method_35_code, prog_9_method_33_code, prog_9_method_34_code, prog_9_method_36_code, prog_9_method_37_code, prog_9_method_38_code, prog_9_method_40_code, prog_9_method_39_code, prog_9_method_41_code]
def zcd (i : Nat) : ByteArray := zcdL.getD i code
def zmxL : List Nat := [7, 2, 1, 2, 1, 1, 1, 5, 4, 6, 2, 15, 1, 1, 3, 4, 5, 3, 3, 6, 6, 6, 1, 2, 1, 2, 1, 3, 2, 1, 2, 1, 5, 4, 4, 1, 1, 1, 4, 2, 3, 3, 5, 4, 2, 2, 5, 4, 2, 1, 6, 5, 4, 7, 4, 3, 1, 5, 6, 5, 5, 6, 4, 3, 4, 4, 6, 5, 5, 3, 6, 5, 6, 7, 5, 3, 4, 5, 6, 2, 1, 10, 4, 1, 2, 4, 4, 1, 7, 5, 3, 2, 3, 11, 2, 3, 3, 4, 1, 3, 2, 4, 3, 7, 2, 5, 2, 2, 1, 3, 1, 5, 4, 5, 4, 2, 2, 6, 5, 3, 8]
def zmx (i : Nat) : Nat := zmxL.getD i 0
def zrtL : List (Option FieldType) := [(some .boolean), none, none, none, none, none, none, none, none, none, (some .int), none, none, none, (some .int), none, none, (some (.array .int)), none, none, none, none, (some (.array .int)), (some .boolean), (some .boolean), (some .boolean), (some .int), (some .boolean), (some .boolean), (some .int), (some .int), (some .int), none, none, (some .boolean), (some .int), none, none, (some .int), (some .int), (some .int), (some .int), (some .int), (some .boolean), (some .boolean), (some .boolean), (some .int), (some .int), (some (.object "ReleaseLeaves$Release")), none, (some .int), (some .int), (some (.object "ReleaseLeaves$Release")), (some .int), (some .int), (some .boolean), (some .int), (some .int), (some .int), (some .int), none, (some .boolean), (some .int), (some .int), (some .int), (some .int), (some .int), (some .int), (some .int), (some .int), (some .int), (some .int), (some .int), (some .int), (some .int), (some .boolean), (some .boolean), (some .int), (some .int), (some .boolean), none, none, none, (some .int), (some .int), (some .int), (some .boolean), (some .boolean), (some .int), (some .int), none, none, none, none, (some .int), none, none, none, (some .int), (some .int), (some .boolean), (some .int), (some .boolean), (some .int), none, (some .int), none, (some .boolean), none, (some .boolean), (some .int), (some .boolean), (some .int), none, (some .boolean), (some .int), (some .int), (some .int), (some .int), none, (some .int)]
def zrt (i : Nat) : Option FieldType := zrtL.getD i none
def zocL : List Nat := [8, 0, 1, 2, 3, 4, 1, 1, 1, 1, 1, 1, 5, 6, 0, 2, 3, 3, 4, 1, 3, 1, 3, 0, 0, 6, 0, 6, 6, 6, 6, 6, 6, 6, 0, 0, 0, 6, 8, 0, 2, 2, 8, 0, 2, 4, 8, 0, 0, 0, 8, 0, 0, 3, 3, 3, 3, 3, 8, 0, 5, 2, 8, 0, 8, 0, 8, 0, 5, 5, 8, 0, 8, 0, 8, 0, 6, 8, 0, 4, 7, 7, 7, 7, 7, 7, 7, 7, 7, 7, 7, 7, 7, 7, 7, 7, 7, 7, 7, 7, 7, 7, 7, 7, 7, 7, 7, 7, 7, 7, 7, 7, 7, 7, 7, 7, 7, 7, 7, 7, 7]
def zoc (i : Nat) : Nat := zocL.getD i 0
def zatL : List Bool := [true, false, false, false, false, false, false, false, false, false, true, false, false, false, false, false, false, false, false, false, false, false, false, false, true, false, false, false, false, false, false, false, false, false, true, false, false, false, true, false, false, false, true, false, false, false, true, false, false, true, true, false, false, false, false, false, true, false, true, false, false, false, true, false, true, false, true, false, false, false, true, false, true, false, true, false, false, true, false, false, false, false, false, false, false, false, false, true, false, false, false, false, false, false, true, false, false, false, false, false, false, false, false, false, false, true, false, false, false, false, false, false, false, false, false, false, false, false, false, false, false]
def zat (i : Nat) : Bool := zatL.getD i true
def znpL : List Nat := [1, 0, 0, 0, 0, 0, 0, 1, 1, 0, 2, 0, 0, 0, 0, 0, 3, 2, 2, 3, 2, 1, 0, 1, 1, 1, 0, 0, 1, 0, 1, 0, 2, 3, 3, 0, 0, 0, 3, 1, 1, 1, 4, 2, 1, 1, 4, 2, 1, 1, 5, 3, 2, 2, 1, 2, 1, 2, 5, 3, 4, 0, 3, 1, 3, 1, 5, 3, 2, 2, 5, 3, 5, 3, 4, 2, 2, 4, 2, 1, 0, 5, 2, 0, 1, 2, 2, 1, 0, 1, 1, 1, 0, 1, 2, 1, 0, 2, 0, 2, 1, 3, 2, 3, 1, 2, 1, 1, 0, 2, 0, 0, 3, 4, 1, 1, 1, 3, 3, 1, 2]
def znp (i : Nat) : Nat := znpL.getD i 0
def zrkL : List Nat := [10, 4, 1, 2, 1, 1, 1, 3, 2, 1, 0, 1, 1, 1, 6, 0, 5, 0, 4, 3, 4, 3, 1, 1, 0, 0, 6, 2, 0, 0, 1, 0, 5, 4, 0, 0, 1, 0, 7, 6, 1, 0, 7, 6, 0, 0, 8, 7, 6, 6, 9, 8, 7, 3, 2, 1, 0, 2, 8, 7, 0, 0, 8, 7, 8, 7, 7, 6, 0, 0, 9, 8, 7, 6, 7, 6, 0, 9, 8, 1, 2, 1, 0, 0, 1, 0, 1, 0, 4, 0, 3, 0, 2, 1, 0, 0, 3, 1, 0, 1, 0, 2, 1, 4, 0, 0, 0, 1, 0, 0, 4, 3, 1, 0, 0, 1, 1, 0, 4, 3, 2]
def zrk (i : Nat) : Nat := zrkL.getD i 0
def zloL : List Nat := [183, 102, 20, 40, 20, 20, 26, 78, 55, 21, 0, 21, 20, 20, 152, 0, 128, 0, 103, 78, 103, 78, 22, 21, 0, 0, 150, 41, 0, 0, 20, 0, 126, 103, 0, 0, 20, 0, 111, 90, 22, 0, 113, 90, 0, 0, 134, 111, 90, 90, 158, 134, 111, 66, 42, 20, 0, 42, 135, 111, 0, 0, 133, 111, 134, 111, 114, 90, 0, 0, 158, 134, 116, 90, 112, 90, 0, 159, 134, 23, 52, 23, 0, 0, 23, 0, 20, 0, 95, 0, 73, 0, 51, 21, 0, 0, 73, 21, 0, 21, 0, 43, 21, 95, 0, 0, 0, 20, 0, 0, 97, 73, 24, 0, 0, 24, 24, 0, 95, 73, 43]
def zlo (i : Nat) : Nat := zloL.getD i 0
/-- methods whose locals hold longs -/
def zlg (i : Nat) : Bool := i == 81 || i == 82
/-- handlers; the law itself has a row that covers nothing: nothing is thrown through it -/
def zhdL : List (List (Nat × Nat × Nat × Nat)) := [[(0, 0, 0, 0)], [], [], [], [], [], [], [], [], [], [], [], [], [], [], [], [], [], [], [], [], [], [], [], [], [], [], [], [], [], [], [], [], [], [], [], [], [], [(0, 9, 12, 13)], [], [], [], [(0, 17, 20, 19), (0, 17, 24, 13)], [], [], [], [(0, 10, 13, 19)], [], [], [], [(0, 12, 15, 19)], [], [], [], [], [], [], [], [(0, 12, 15, 19), (0, 12, 19, 13)], [], [], [], [(0, 9, 12, 19)], [], [(0, 9, 12, 19)], [], [(0, 12, 15, 19)], [], [], [], [(0, 12, 15, 19)], [], [(0, 12, 15, 19)], [], [(0, 17, 20, 19)], [], [], [(0, 10, 13, 19)], [], [], [], [], [], [], [], [], [], [], [], [], [], [], [], [], [], [], [], [], [], [], [], [], [], [], [], [], [], [], [], [], [], [], [], [], [], [], [], [], [], [], []]
def zhd (i : Nat) : List (Nat × Nat × Nat × Nat) := zhdL.getD i []
/-- links: by the owner: index, class, field, of a nest mate or not, place of the word -/
def zflL : List (List (Nat × Nat × Nat × Nat × Nat)) := [[(12, 0, 0, 0, 202), (18, 0, 1, 0, 203), (25, 0, 3, 0, 205), (35, 0, 5, 0, 207), (42, 0, 7, 0, 209), (49, 0, 8, 0, 210), (53, 0, 9, 0, 211), (64, 0, 2, 0, 204), (86, 2, 0, 1, 119), (98, 2, 2, 1, 123), (102, 2, 1, 1, 121), (157, 2, 3, 1, 125), (167, 2, 4, 1, 126), (171, 0, 4, 0, 206), (174, 0, 6, 0, 208), (204, 4, 0, 1, 108)], [(11, 1, 0, 0, 63), (18, 1, 1, 0, 64), (30, 1, 2, 0, 65)], [(11, 2, 0, 0, 118), (20, 2, 2, 0, 122), (24, 2, 3, 0, 124), (29, 2, 1, 0, 120), (37, 4, 0, 1, 106)], [(13, 3, 0, 0, 91), (16, 3, 1, 0, 92), (20, 3, 2, 0, 93)], [(9, 4, 1, 0, 109), (15, 4, 2, 0, 110), (32, 4, 0, 0, 107)], [(9, 5, 0, 0, 173), (15, 5, 1, 0, 174), (18, 5, 2, 0, 175), (21, 5, 3, 0, 176), (24, 5, 4, 0, 177)], [(9, 6, 0, 0, 195), (15, 6, 1, 0, 196)], [(7, 7, 1, 0, 646), (13, 7, 3, 0, 648), (16, 7, 4, 0, 649), (19, 7, 5, 0, 650), (22, 7, 6, 0, 651), (25, 7, 7, 0, 652), (28, 7, 9, 0, 654), (31, 7, 10, 0, 655), (34, 7, 11, 0, 656), (37, 7, 12, 0, 657), (40, 7, 13, 0, 658), (43, 7, 14, 0, 659), (46, 7, 16, 0, 661), (49, 7, 18, 0, 663), (52, 7, 19, 0, 664), (55, 7, 20, 0, 665), (59, 7, 23, 0, 668), (62, 7, 25, 0, 670), (65, 7, 26, 0, 671), (68, 7, 27, 0, 672), (71, 7, 28, 0, 673), (146, 7, 0, 0, 645), (150, 7, 2, 0, 647), (172, 7, 8, 0, 653), (199, 7, 15, 0, 660), (209, 7, 30, 0, 675), (212, 7, 29, 0, 674), (215, 7, 31, 0, 676), (231, 7, 17, 0, 662), (238, 7, 24, 0, 669), (248, 7, 21, 0, 666), (251, 7, 22, 0, 667)], [], []]
def zfl (oc k : Nat) : Option (Nat × Nat) := ((zflL.getD oc []).find? (fun q => q.1 == k)).map (fun q => (q.2.1, q.2.2.1))
def zmlL : List (List (Nat × Nat × Nat × Nat)) := [[(11, 2, 1, 57), (22, 3, 0, 77), (28, 6, 0, 139), (31, 7, 0, 148), (41, 12, 1, 169), (48, 13, 1, 191), (68, 40, 0, 419), (72, 44, 0, 435), (81, 24, 0, 284), (90, 45, 0, 456), (95, 15, 0, 237), (105, 16, 0, 241), (111, 21, 0, 275), (114, 22, 0, 276), (118, 48, 0, 467), (122, 49, 0, 472), (126, 52, 0, 483), (132, 53, 0, 489), (136, 25, 0, 287), (137, 27, 0, 295), (141, 31, 0, 311), (145, 32, 0, 315), (149, 34, 0, 328), (160, 60, 0, 517), (164, 61, 0, 521), (181, 68, 0, 548), (184, 69, 0, 552), (187, 17, 0, 563), (195, 28, 0, 580), (200, 76, 0, 582), (207, 41, 0, 593), (210, 79, 0, 594), (214, 37, 0, 339)], [(34, 9, 0, 156), (37, 11, 0, 163), (40, 8, 0, 152), (50, 10, 0, 160)], [(19, 4, 1, 85), (28, 5, 1, 102), (33, 41, 0, 423)], [(24, 17, 0, 246), (28, 6, 0, 245), (33, 7, 0, 250), (37, 18, 0, 251), (43, 20, 0, 265), (47, 8, 0, 269), (51, 21, 0, 270), (60, 54, 0, 493), (64, 57, 0, 504), (68, 56, 0, 501), (71, 55, 0, 497)], [(19, 34, 1, 598), (23, 6, 0, 255), (28, 8, 0, 256), (35, 19, 0, 257), (39, 7, 0, 264)], [], [(19, 29, 0, 303), (23, 28, 0, 299), (27, 30, 0, 307), (31, 6, 0, 319), (36, 8, 0, 320), (40, 19, 0, 321), (44, 7, 0, 322), (48, 33, 0, 323), (52, 21, 0, 327)], [(82, 81, 0, 609), (142, 82, 0, 613), (153, 94, 0, 795), (157, 91, 0, 775), (169, 93, 0, 791), (175, 100, 0, 818), (180, 85, 0, 752), (183, 87, 0, 760), (186, 92, 0, 779), (189, 89, 0, 767), (193, 90, 0, 771), (196, 95, 0, 798), (202, 96, 0, 802), (205, 97, 0, 806), (218, 102, 0, 826), (222, 104, 0, 834), (225, 105, 0, 838), (228, 106, 0, 841), (234, 111, 0, 861), (241, 113, 0, 869), (245, 114, 0, 873), (254, 119, 0, 893)], [(7, 39, 0, 347), (15, 43, 0, 431), (21, 47, 0, 463), (25, 51, 0, 479), (29, 59, 0, 511), (32, 63, 0, 528), (35, 65, 0, 535), (38, 67, 0, 542), (41, 71, 0, 559), (44, 73, 0, 567), (47, 75, 0, 576), (50, 78, 0, 589), (53, 1, 0, 49), (56, 80, 0, 601), (57, 38, 0, 343), (62, 84, 0, 747), (63, 83, 0, 743), (67, 42, 0, 427), (70, 86, 0, 756), (71, 14, 0, 233), (74, 88, 0, 763), (75, 46, 0, 460), (77, 99, 0, 814), (78, 50, 0, 476), (81, 103, 0, 830), (82, 23, 0, 280), (86, 107, 0, 845), (87, 26, 0, 291), (90, 110, 0, 857), (91, 58, 0, 508), (93, 112, 0, 865), (94, 62, 0, 525), (96, 115, 0, 877), (97, 64, 0, 532), (99, 116, 0, 881), (100, 66, 0, 539), (102, 117, 0, 885), (103, 70, 0, 556), (105, 101, 0, 822), (106, 72, 0, 564), (108, 118, 0, 889), (109, 74, 0, 573), (111, 109, 0, 853), (112, 77, 0, 586), (114, 120, 0, 897), (115, 35, 0, 331), (118, 98, 0, 810), (119, 36, 0, 335), (122, 108, 0, 849)], []]
def zml (oc k : Nat) : Option Nat := ((zmlL.getD oc []).find? (fun q => q.1 == k)).map (fun q => q.2.1)
def zclL : List (List (Nat × (Nat ⊕ Nat) × Nat)) := [[(9, .inl 1, 55), (16, .inl 2, 74), (39, .inl 5, 167), (46, .inl 6, 189), (57, .inr 0, 352), (76, .inr 1, 439)], [], [(9, .inl 4, 81), (17, .inl 3, 83)], [], [], [], [], [], [(8, .inl 0, 47), (54, .inl 7, 599)], []]
def zcl (oc k : Nat) : Option (Nat ⊕ Nat) := ((zclL.getD oc []).find? (fun q => q.1 == k)).map (fun q => q.2.1)
def zklL : List (List (Nat × Int32 × Nat)) := [[(56, 65535, 351)], [], [], [], [], [], [], [(161, 1779033703, 783), (162, -1150833019, 784), (163, 1013904242, 785), (164, -1521486534, 786), (165, 1359893119, 787), (166, -1694144372, 788), (167, 528734635, 789), (168, 1541459225, 790), (179, 65536, 751)], [], []]
def zkl (oc k : Nat) : Option Int32 := ((zklL.getD oc []).find? (fun q => q.1 == k)).map (fun q => q.2.1)
def zkLL : List (List (Nat × Int64 × Nat)) := [[], [], [], [], [], [], [], [(74, 4794697085070296209, 605), (76, -5349999486918337627, 606), (78, 4131703405765792241, 607), (80, -7908458776882290987, 608), (86, -2880145866557793535, 617), (88, 2608012711741390275, 618), (90, 8268148720858477054, 619), (92, -7215885185376849548, 620), (94, -1973867730000001146, 621), (96, 1135362055407968716, 622), (98, 3308224257782482090, 623), (100, 6679025011744409818, 624), (102, -7476448915937442195, 625), (104, -5763719354946846777, 626), (106, -4116276917527146169, 627), (108, 489312709404862823, 628), (110, 2861767655337697592, 629), (112, 5560940570391088403, 630), (114, 7280758554198936251, 631), (116, -9096487095472345979, 632), (118, -6719396338005809589, 633), (120, -4446306890599870045, 634), (122, -3345356375510677980, 635), (124, -860691633158840208, 636), (126, 1847814047869135880, 637), (128, 2830643534987574453, 638), (130, 4115178123771292234, 639), (132, 6601373596217405427, 640), (134, 8399075790807196527, 641), (136, -8878714635704401400, 642), (138, -8016688834709263125, 643), (140, -4685533652720715534, 644)], [], []]
def zkL (oc k : Nat) : Option Int64 := ((zkLL.getD oc []).find? (fun q => q.1 == k)).map (fun q => q.2.1)
def zslL : List (List (Nat × Nat × Nat × String × String × String)) := [[], [(15, 2, 61, "ReleaseLeaves$Digester", "ROUNDS", "[I"), (21, 1, 143, "ReleaseLeaves$Digester", "START", "[I")], [], [], [], [], [], [], [], []]
def zsl (oc k : Nat) : Option Nat := ((zslL.getD oc []).find? (fun q => q.1 == k)).map (fun q => q.2.1)
def zalL : List (List (Nat × String × Nat × Nat)) := [[(16, "ReleaseLeaves$Release", 74, 75)], [], [(9, "ReleaseLeaves$StoredFile", 81, 82)], [], [], [], [], [], [], []]
def zal (oc k : Nat) : Option String := ((zalL.getD oc []).find? (fun q => q.1 == k)).map (fun q => q.2.1)
def zmuL : List (Nat × Nat × Nat) := [(3, 11, 89), (0, 23, 138)]
def zmu (oc k : Nat) : Bool := zmuL.any (fun q => q.1 == oc && q.2.1 == k)
def zobL : List (Nat × Nat × Nat) := [(0, 3, 52), (1, 3, 60), (2, 3, 80), (3, 3, 88), (4, 3, 105), (5, 3, 172), (6, 3, 194), (7, 1, 604)]
def zob (oc k : Nat) : Bool := zobL.any (fun q => q.1 == oc && q.2.1 == k)
def zacL : List (Nat × Nat × Nat) := [(1, 24, 145), (3, 54, 274)]
def zac (oc k : Nat) : Bool := zacL.any (fun q => q.1 == oc && q.2.1 == k)
def zmnL : List (Nat × Nat × Nat) := [(1, 44, 261)]
def zmn (oc k : Nat) : Bool := zmnL.any (fun q => q.1 == oc && q.2.1 == k)
def zxlL : List (List (Nat × Nat × Nat)) := [[(61, 0, 393), (80, 1, 449)], [], [], [], [], [], [], [], [], []]
def zxl (oc k : Nat) : Option Nat := ((zxlL.getD oc []).find? (fun q => q.1 == k)).map (fun q => q.2.1)
def zxcL : List (List (Nat × Nat × Nat)) := [[], [], [], [], [], [], [], [], [(13, 0, 346), (19, 1, 430)], []]
/-- what a handler catches -/
def zxc (oc k : Nat) : Option Nat := ((zxcL.getD oc []).find? (fun q => q.1 == k)).map (fun q => q.2.1)
def zxsL : List (Nat × Nat × String × Nat) := [(0, 59, "no name", 392), (0, 78, "no such open file", 448), (0, 84, "no byte", 455), (0, 130, "no byte ahead of the proof", 488), (0, 153, "no person", 515), (0, 155, "no role", 516), (0, 177, "no such serial number", 546), (0, 179, "nothing such is told of an event", 547), (0, 191, "the list did not grow so", 571), (0, 193, "no byte ahead of the growth", 572), (0, 198, "no such byte of the check", 581), (0, 217, "no such release", 471), (0, 219, "no such leaf", 487), (0, 221, "no such byte of a digest", 475)]
def zxs (oc k : Nat) : Bool := zxsL.any (fun q => q.1 == oc && q.2.1 == k)
def zxnL : List String := ["java/lang/IllegalArgumentException", "java/lang/IndexOutOfBoundsException"]
def zxn (i : Nat) : String := zxnL.getD i ""
/-- where the words of a method stand: code, its class is initialised, static or (instance and selects) -/
def zmP : List (Nat × Nat × Nat × Nat) := [(0, 0, 0, 0), (51, 32, 50, 0), (59, 33, 58, 0), (79, 34, 78, 0), (87, 35, 86, 0), (104, 36, 103, 0), (142, 33, 140, 141), (151, 33, 149, 150), (155, 33, 153, 154), (159, 33, 158, 0), (162, 33, 161, 0), (166, 33, 165, 1), (171, 38, 170, 0), (193, 39, 192, 0), (236, 32, 234, 235), (240, 34, 238, 239), (244, 35, 242, 243), (249, 35, 247, 248), (254, 36, 252, 253), (260, 33, 258, 259), (268, 35, 267, 2), (273, 33, 271, 272), (279, 35, 277, 278), (283, 32, 281, 282), (286, 32, 285, 0), (290, 39, 288, 289), (294, 32, 292, 293), (298, 39, 296, 297), (302, 39, 300, 301), (306, 39, 305, 3), (310, 39, 309, 4), (314, 39, 312, 313), (318, 39, 316, 317), (326, 39, 325, 5), (330, 32, 329, 0), (334, 32, 332, 333), (338, 32, 336, 337), (342, 39, 340, 341), (345, 31, 344, 0), (350, 32, 348, 349), (422, 34, 420, 421), (426, 34, 424, 425), (429, 31, 428, 0), (434, 32, 432, 433), (438, 34, 436, 437), (459, 36, 457, 458), (462, 31, 461, 0), (466, 32, 464, 465), (470, 32, 469, 7), (474, 32, 473, 0), (478, 31, 477, 0), (482, 32, 480, 481), (486, 32, 485, 8), (492, 35, 490, 491), (496, 35, 495, 9), (500, 35, 499, 10), (503, 35, 502, 0), (507, 35, 506, 11), (510, 31, 509, 0), (514, 32, 512, 513), (520, 38, 518, 519), (524, 34, 522, 523), (527, 31, 526, 0), (531, 32, 529, 530), (534, 31, 533, 0), (538, 32, 536, 537), (541, 31, 540, 0), (545, 32, 543, 544), (551, 38, 549, 550), (555, 38, 553, 554), (558, 31, 557, 0), (562, 32, 560, 561), (566, 31, 565, 0), (570, 32, 568, 569), (575, 31, 574, 0), (579, 32, 577, 578), (585, 39, 583, 584), (588, 31, 587, 0), (592, 32, 590, 591), (597, 36, 595, 596), (603, 40, 602, 0), (612, 40, 611, 12), (616, 40, 615, 13), (746, 40, 744, 745), (750, 40, 748, 749), (755, 40, 754, 14), (759, 40, 757, 758), (762, 40, 761, 0), (766, 40, 764, 765), (770, 40, 769, 15), (774, 40, 773, 16), (778, 40, 777, 17), (782, 40, 781, 18), (794, 40, 793, 19), (797, 40, 796, 0), (801, 40, 800, 20), (805, 40, 804, 21), (809, 40, 808, 22), (813, 40, 811, 812), (817, 40, 815, 816), (821, 40, 820, 23), (825, 40, 823, 824), (829, 40, 828, 24), (833, 40, 831, 832), (837, 40, 836, 25), (840, 40, 839, 0), (844, 40, 843, 26), (848, 40, 846, 847), (852, 40, 850, 851), (856, 40, 854, 855), (860, 40, 858, 859), (864, 40, 863, 27), (868, 40, 866, 867), (872, 40, 871, 28), (876, 40, 875, 29), (880, 40, 878, 879), (884, 40, 882, 883), (888, 40, 886, 887), (892, 40, 890, 891), (896, 40, 895, 30), (900, 40, 898, 899)]
/-- the addresses: 0 the script (L ints), 1 and 2 the two static arrays, then what the law makes, in order -/
abbrev zS : Nat := 3
abbrev zTop : Nat := 646
def zK54 (k : Nat) : Option ((FieldType × Nat) ⊕ Nat) :=
  if k < 3 then (if k = 0 then some (.inr 2) else if k = 1 then some (.inl (.object "ReleaseLeaves$StoredFile", 8)) else some (.inr 3))
  else if k < 36 then (if k = 3 then some (.inl (.array .int, 32)) else some (.inl (.int, 32)))
  else if k < 38 then (if k = 36 then some (.inl (.int, 4)) else some (.inl (.int, 16)))
  else if k % 2 = 0 then some (.inr 4) else some (.inl (.int, 64))
def zKhL : List ((FieldType × Nat) ⊕ Nat) := [.inr 0, .inr 1, .inl (.int, 8), .inl (.int, 64), .inl (.object "ReleaseLeaves$Release", 11)]
def zKtL : List ((FieldType × Nat) ⊕ Nat) := [.inl (.int, 60), .inr 5, .inl (.int, 100), .inl (.int, 100), .inl (.int, 100), .inl (.int, 100), .inr 6, .inl (.int, 300), .inl (.int, 32), .inr 7, .inl (.int, 64), .inl (.int, 512), .inl (.int, 64), .inl (.int, 8), .inl (.int, 8), .inl (.int, 32), .inl (.int, 11), .inl (.int, 88), .inl (.int, 88), .inl (.int, 5632), .inl (.int, 2560), .inl (.int, 320), .inl (.int, 256), .inl (.int, 300), .inl (.int, 160), .inl (.boolean, 10), .inl (.int, 60), .inl (.int, 100), .inl (.int, 100), .inl (.int, 100), .inl (.int, 100), .inl (.long, 1)]
/-- the kinds of the cells, by their addresses -/
def zK (L a : Nat) : Option ((FieldType × Nat) ⊕ Nat) :=
  if a < 3 then (if a = 0 then some (.inl (.int, L)) else if a = 1 then some (.inl (.int, 8)) else some (.inl (.int, 64)))
  else if a < 8 then zKhL[a - 3]?
  else if a < 602 then zK54 ((a - 8) % 54)
  else if a < 614 then (if a = 602 then some (.inl (.array .int, 11)) else some (.inl (.int, 32)))
  else zKtL[a - 614]?
/-! what the tables say is said by the words: by places -/
def zgw (w : Cond) : Bool := goodWord w || (match w with
  | .fieldLinkNest .. => true
  | .methodLinkNest .. => true
  | .arrayOver _ => true
  | _ => false)
def zws : List Cond := lw_tbl.filter zgw
def zat0 (p : Nat) (w : Cond) : Bool := decide (lw_tbl[p]? = some w) && zgw w
theorem zin {p : Nat} {w : Cond} (h : zat0 p w = true) : w ∈ zws := by
  unfold zat0 at h
  rw [Bool.and_eq_true, decide_eq_true_eq] at h
  exact List.mem_filter.mpr ⟨List.mem_of_getElem? h.1, h.2⟩
end
section
/-! the tables are the words' -/
theorem zall {α : Type} {n : Nat} {T : List (List α)} {C : Nat → α → Bool} (h : (List.range n).all (fun oc => (T.getD oc []).all (C oc)) = true) (hn : T.length ≤ n) {oc : Nat} {q : α} (hq : q ∈ T.getD oc []) : C oc q = true := by
  have hlt : oc < T.length := by
    refine Nat.lt_of_not_le (fun hge => ?_)
    rw [List.getD_eq_getElem?_getD, List.getElem?_eq_none hge] at hq
    exact absurd hq List.not_mem_nil
  have h1 := List.all_eq_true.mp h oc (List.mem_range.mpr (Nat.lt_of_lt_of_le hlt hn))
  exact List.all_eq_true.mp h1 q hq
theorem zfind {α β : Type} {l : List α} {p : α → Bool} {f : α → β} {b : β} (h : (l.find? p).map f = some b) : ∃ q, q ∈ l ∧ p q = true ∧ f q = b := by
  obtain ⟨q, hq, e⟩ := Option.map_eq_some_iff.mp h
  exact ⟨q, List.mem_of_find?_eq_some hq, List.find?_some hq, e⟩
def zflC (oc : Nat) (q : Nat × Nat × Nat × Nat × Nat) : Bool :=
  (decide (q.2.1 < zNc) && decide (q.2.2.1 < zfN q.2.1)) && (if q.2.2.2.1 = 0 then zat0 q.2.2.2.2 (.fieldLink (zcn oc) q.1 (zfT q.2.1 q.2.2.1).1 (zfT q.2.1 q.2.2.1).2.1 (zfT q.2.1 q.2.2.1).2.2.1) else zat0 q.2.2.2.2 (.fieldLinkNest (zcn oc) q.1 (zfT q.2.1 q.2.2.1).1 (zfT q.2.1 q.2.2.1).2.1 (zfT q.2.1 q.2.2.1).2.2.1 "ReleaseLeaves"))
theorem zfl_all : (List.range 10).all (fun oc => (zflL.getD oc []).all (zflC oc)) = true := by decide +kernel
theorem zfl_ok {oc k ci f : Nat} (h : zfl oc k = some (ci, f)) : Cond.fieldLink (zcn oc) k (zfT ci f).1 (zfT ci f).2.1 (zfT ci f).2.2.1 ∈ zws ∨ ∃ host, Cond.fieldLinkNest (zcn oc) k (zfT ci f).1 (zfT ci f).2.1 (zfT ci f).2.2.1 host ∈ zws := by
  obtain ⟨q, hq, hk, e⟩ := zfind h
  have hc := zall zfl_all (by decide) hq
  cases e
  have hk' : q.1 = k := by simpa using hk
  subst hk'
  unfold zflC at hc
  rw [Bool.and_eq_true] at hc
  have h2 := hc.2
  split at h2
  · exact Or.inl (zin h2)
  · exact Or.inr ⟨_, zin h2⟩
theorem zfl_lt {oc k ci f : Nat} (h : zfl oc k = some (ci, f)) : ci < zNc ∧ f < zfN ci := by
  obtain ⟨q, hq, hk, e⟩ := zfind h
  have hc := zall zfl_all (by decide) hq
  cases e
  unfold zflC at hc
  rw [Bool.and_eq_true, Bool.and_eq_true, decide_eq_true_eq, decide_eq_true_eq] at hc
  exact hc.1
theorem zcls_at : ∀ ci, ci < zNc → zcls[ci]? = some (zcn ci, zfT ci, zfN ci) := by
  intro ci h
  match ci, h with
  | 0, _ => rfl
  | 1, _ => rfl
  | 2, _ => rfl
  | 3, _ => rfl
  | 4, _ => rfl
  | 5, _ => rfl
  | 6, _ => rfl
  | 7, _ => rfl
  | n + 8, h => exact absurd (show n + 8 < 8 from h) (by omega)
theorem zlay_all : (List.range zNc).all (fun ci => (List.range (zfN ci)).all (fun k => zat0 ((zlayP.getD ci []).getD k 0) (u_lay (zcn ci) (zfT ci) k))) = true := by decide +kernel
theorem zlay : ∀ ci, ci < zNc → ∀ w ∈ u_ws (zcn ci) (zfT ci) (zfN ci), w ∈ zws := by
  intro ci hci w hw
  obtain ⟨k, hk, rfl⟩ := List.mem_map.mp hw
  exact zin (List.all_eq_true.mp (List.all_eq_true.mp zlay_all ci (List.mem_range.mpr hci)) k hk)
theorem zty_all : (List.range zNc).all (fun ci => (List.range (zfN ci)).all (fun k => decide (parseFieldDescriptor (zfT ci k).2.2.1 = some (zft ci k)) && decide ((zfT ci k).1 = zcn ci))) = true := by decide +kernel
theorem zty_ok : ∀ ci, ci < zNc → ∀ k, k < zfN ci → parseFieldDescriptor (zfT ci k).2.2.1 = some (zft ci k) := by
  intro ci hci k hk
  have h := List.all_eq_true.mp (List.all_eq_true.mp zty_all ci (List.mem_range.mpr hci)) k (List.mem_range.mpr hk)
  rw [Bool.and_eq_true, decide_eq_true_eq] at h
  exact h.1
theorem zdecl : ∀ ci, ci < zNc → ∀ k, k < zfN ci → (zfT ci k).1 = zcn ci := by
  intro ci hci k hk
  have h := List.all_eq_true.mp (List.all_eq_true.mp zty_all ci (List.mem_range.mpr hci)) k (List.mem_range.mpr hk)
  rw [Bool.and_eq_true, decide_eq_true_eq, decide_eq_true_eq] at h
  exact h.2
theorem znm_all : (List.range zNc).all (fun ci => (List.range (zfN ci)).all (fun a => (List.range (zfN ci)).all (fun b => decide (a = b) || !decide ((zfT ci a).2.1 = (zfT ci b).2.1)))) = true := by decide +kernel
theorem znm_ok : ∀ ci, ci < zNc → ∀ a, a < zfN ci → ∀ b, b < zfN ci → a ≠ b → (zfT ci a).2.1 ≠ (zfT ci b).2.1 := by
  intro ci hci a ha b hb hne
  have h := List.all_eq_true.mp (List.all_eq_true.mp (List.all_eq_true.mp znm_all ci (List.mem_range.mpr hci)) a (List.mem_range.mpr ha)) b (List.mem_range.mpr hb)
  simpa [hne] using h
def zftok (t : FieldType) : Bool := match t with
  | .int => true | .boolean => true | .long => true | .object _ => true | .array _ => true | _ => false
theorem zft_all : (List.range zNc).all (fun ci => (List.range (zfN ci)).all (fun k => zftok (zft ci k))) = true := by decide +kernel
theorem zft_ok : ∀ ci, ci < zNc → ∀ k, k < zfN ci → zftok (zft ci k) = true := by
  intro ci hci k hk
  exact List.all_eq_true.mp (List.all_eq_true.mp zft_all ci (List.mem_range.mpr hci)) k (List.mem_range.mpr hk)
theorem zkl_all : (List.range 10).all (fun oc => (zklL.getD oc []).all (fun q => zat0 q.2.2 (.constant (zcn oc) q.1 q.2.1))) = true := by decide +kernel
theorem zkl_ok {oc k : Nat} {v : Int32} (h : zkl oc k = some v) : Cond.constant (zcn oc) k v ∈ zws := by
  obtain ⟨q, hq, hk, e⟩ := zfind h
  have hc := zall zkl_all (by decide) hq
  cases e
  have hk' : q.1 = k := by simpa using hk
  subst hk'
  exact zin hc
theorem zkL_all : (List.range 10).all (fun oc => (zkLL.getD oc []).all (fun q => zat0 q.2.2 (.constantLong (zcn oc) q.1 q.2.1))) = true := by decide +kernel
theorem zkL_ok {oc k : Nat} {v : Int64} (h : zkL oc k = some v) : Cond.constantLong (zcn oc) k v ∈ zws := by
  obtain ⟨q, hq, hk, e⟩ := zfind h
  have hc := zall zkL_all (by decide) hq
  cases e
  have hk' : q.1 = k := by simpa using hk
  subst hk'
  exact zin hc
/-- instantiable, initialised: of an own class -/
def zinsP : List (Nat × Nat) := [(48, 32), (56, 33), (76, 34), (84, 35), (101, 36), (168, 38), (190, 39), (600, 40)]
theorem zins_all : (List.range zNc).all (fun ci => zat0 (zinsP.getD ci (0, 0)).1 (.instantiable (zcn ci) (zfN ci)) && zat0 (zinsP.getD ci (0, 0)).2 (.initialized (zcn ci))) = true := by decide +kernel
def zclC (oc : Nat) (q : Nat × (Nat ⊕ Nat) × Nat) : Bool := match q.2.1 with
  | .inl ci => decide (ci < zNc) && zat0 q.2.2 (.classLink (zcn oc) q.1 (zcn ci))
  | .inr x => zat0 q.2.2 (.classLink (zcn oc) q.1 (zxn x))
theorem zcl_all : (List.range 10).all (fun oc => (zclL.getD oc []).all (zclC oc)) = true := by decide +kernel
theorem zcl_ok {oc k ci : Nat} (h : zcl oc k = some (.inl ci)) : ci < zNc ∧ Cond.classLink (zcn oc) k (zcn ci) ∈ zws ∧ Cond.instantiable (zcn ci) (zfN ci) ∈ zws ∧ Cond.initialized (zcn ci) ∈ zws := by
  obtain ⟨q, hq, hk, e⟩ := zfind h
  have hc := zall zcl_all (by decide) hq
  have hk' : q.1 = k := by simpa using hk
  subst hk'
  unfold zclC at hc
  rw [e] at hc
  rw [Bool.and_eq_true, decide_eq_true_eq] at hc
  have h2 := List.all_eq_true.mp zins_all ci (List.mem_range.mpr hc.1)
  rw [Bool.and_eq_true] at h2
  exact ⟨hc.1, zin hc.2, zin h2.1, zin h2.2⟩
theorem zclx_ok {oc k x : Nat} (h : zcl oc k = some (.inr x)) : Cond.classLink (zcn oc) k (zxn x) ∈ zws := by
  obtain ⟨q, hq, hk, e⟩ := zfind h
  have hc := zall zcl_all (by decide) hq
  have hk' : q.1 = k := by simpa using hk
  subst hk'
  unfold zclC at hc
  rw [e] at hc
  exact zin hc
theorem zal_all : (List.range 10).all (fun oc => (zalL.getD oc []).all (fun q => zat0 q.2.2.1 (.classLink (zcn oc) q.1 q.2.1) && zat0 q.2.2.2 (.arrayOver (.object q.2.1)))) = true := by decide +kernel
theorem zal_ok {oc k : Nat} {A : String} (h : zal oc k = some A) : Cond.classLink (zcn oc) k A ∈ zws ∧ Cond.arrayOver (.object A) ∈ zws := by
  obtain ⟨q, hq, hk, e⟩ := zfind h
  have hc := zall zal_all (by decide) hq
  cases e
  have hk' : q.1 = k := by simpa using hk
  subst hk'
  rw [Bool.and_eq_true] at hc
  exact ⟨zin hc.1, zin hc.2⟩
theorem zany {l : List (Nat × Nat × Nat)} {C : Nat × Nat × Nat → Bool} (h : l.all C = true) {oc k : Nat} (ha : l.any (fun q => q.1 == oc && q.2.1 == k) = true) : ∃ p, C (oc, k, p) = true := by
  obtain ⟨q, hq, e⟩ := List.any_eq_true.mp ha
  obtain ⟨a, b, p⟩ := q
  simp only [Bool.and_eq_true, beq_iff_eq] at e
  obtain ⟨rfl, rfl⟩ := e
  exact ⟨p, List.all_eq_true.mp h _ hq⟩
theorem zmu_all : zmuL.all (fun q => zat0 q.2.2 (.classLink (zcn q.1) q.2.1 "[[I")) = true := by decide +kernel
theorem zmu_ok {oc k : Nat} (h : zmu oc k = true) : Cond.classLink (zcn oc) k "[[I" ∈ zws := by
  obtain ⟨p, hp⟩ := zany zmu_all h
  exact zin hp
theorem zarr_all : ((zat0 90 (.arrayOver (.array .int)) && zat0 73 (.arrayClass .int)) && (zat0 742 (.arrayClass .boolean) && zat0 901 (.arrayClass .long))) = true := by decide +kernel
theorem zarr_ok : (Cond.arrayOver (.array .int) ∈ zws ∧ Cond.arrayClass .int ∈ zws) ∧ (Cond.arrayClass .boolean ∈ zws ∧ Cond.arrayClass .long ∈ zws) := by
  have h := zarr_all
  rw [Bool.and_eq_true, Bool.and_eq_true, Bool.and_eq_true] at h
  exact ⟨⟨zin h.1.1, zin h.1.2⟩, zin h.2.1, zin h.2.2⟩
theorem zob_all : (zobL.all (fun q => zat0 q.2.2 (.methodLink (zcn q.1) q.2.1 objectInit)) && (zat0 53 (.instanceMethod objectInit) && zat0 54 (.code objectInit ⟨#[0xb1]⟩ 1 none))) = true := by decide +kernel
theorem zob_ok {oc k : Nat} (h : zob oc k = true) : Cond.methodLink (zcn oc) k objectInit ∈ zws ∧ Cond.instanceMethod objectInit ∈ zws ∧ Cond.code objectInit ⟨#[0xb1]⟩ 1 none ∈ zws := by
  have ha := zob_all
  rw [Bool.and_eq_true, Bool.and_eq_true] at ha
  obtain ⟨p, hp⟩ := zany ha.1 h
  exact ⟨zin hp, zin ha.2.1, zin ha.2.2⟩
theorem zac_all : (zacL.all (fun q => zat0 q.2.2 (.methodLink (zcn q.1) q.2.1 arraycopyName)) && ((zat0 147 (.native arraycopyName) && zat0 146 (.static arraycopyName)) && zat0 37 (.initialized "java/lang/System"))) = true := by decide +kernel
theorem zac_ok {oc k : Nat} (h : zac oc k = true) : Cond.methodLink (zcn oc) k arraycopyName ∈ zws ∧ Cond.native arraycopyName ∈ zws ∧ Cond.static arraycopyName ∈ zws ∧ Cond.initialized "java/lang/System" ∈ zws := by
  have ha := zac_all
  rw [Bool.and_eq_true, Bool.and_eq_true, Bool.and_eq_true] at ha
  obtain ⟨p, hp⟩ := zany ha.1 h
  exact ⟨zin hp, zin ha.2.1.1, zin ha.2.1.2, zin ha.2.2⟩
def zmlC (oc : Nat) (q : Nat × Nat × Nat × Nat) : Bool :=
  decide (q.2.1 < zNm) && (if q.2.2.1 = 0 then zat0 q.2.2.2 (.methodLink (zcn oc) q.1 (zy q.2.1)) else zat0 q.2.2.2 (.methodLinkNest (zcn oc) q.1 (zy q.2.1) "ReleaseLeaves"))
theorem zml_all : (List.range 10).all (fun oc => (zmlL.getD oc []).all (zmlC oc)) = true := by decide +kernel
theorem zml_ok {oc k mj : Nat} (h : zml oc k = some mj) : mj < zNm ∧ (Cond.methodLink (zcn oc) k (zy mj) ∈ zws ∨ ∃ host, Cond.methodLinkNest (zcn oc) k (zy mj) host ∈ zws) := by
  obtain ⟨q, hq, hk, e⟩ := zfind h
  have hc := zall zml_all (by decide) hq
  cases e
  have hk' : q.1 = k := by simpa using hk
  subst hk'
  unfold zmlC at hc
  rw [Bool.and_eq_true, decide_eq_true_eq] at hc
  refine ⟨hc.1, ?_⟩
  have h2 := hc.2
  split at h2
  · exact Or.inl (zin h2)
  · exact Or.inr ⟨_, zin h2⟩
/-- the words of a method (not of the law itself), but for its code -/
def zmC (mj : Nat) : Bool :=
  zat0 (zmP.getD mj (0, 0, 0, 0)).2.1 (.initialized (zy mj).cls) &&
  ((if zat mj = true then zat0 (zmP.getD mj (0, 0, 0, 0)).2.2.1 (.static (zy mj)) else (zat0 (zmP.getD mj (0, 0, 0, 0)).2.2.1 (.instanceMethod (zy mj)) && (decide ((zy mj).name = "<init>") || zat0 (zmP.getD mj (0, 0, 0, 0)).2.2.2 (.selects (zy mj).cls (zy mj) (zy mj))))) &&
   (decide ((zy mj).cls = zcn (zoc mj)) && decide ((parseMethodDescriptor (zy mj).desc).map (fun d => d.parameters.length) = some (znp mj)) && Jvm.plainName (zy mj).cls && decide ((zy mj).cls ≠ "java/lang/invoke/MethodHandle" ∧ (zy mj).cls ≠ "java/lang/invoke/VarHandle")))
theorem zm_all : ((List.range zNm).drop 1).all zmC = true := by decide +kernel
theorem zm_ok {mj : Nat} (h0 : mj ≠ 0) (h : mj < zNm) : zmC mj = true := by
  refine List.all_eq_true.mp zm_all mj ?_
  obtain ⟨k, rfl⟩ : ∃ k, mj = k + 1 := ⟨mj - 1, by omega⟩
  refine List.mem_of_getElem? (i := k) ?_
  rw [List.getElem?_drop, List.getElem?_range (by omega)]
  congr 1; omega
theorem zmn_all : (zmnL.all (fun q => zat0 q.2.2 (.methodLink (zcn q.1) q.2.1 Lib.Math.min.name)) && ((zat0 262 (.static Lib.Math.min.name) && zat0 46 (.initialized "java/lang/Math")) && zat0 263 (.code Lib.Math.min.name Lib.Math.min.code 2 (some .int)))) = true := by decide +kernel
theorem zmn_ok {oc k : Nat} (h : zmn oc k = true) : Cond.methodLink (zcn oc) k Lib.Math.min.name ∈ zws ∧ Cond.static Lib.Math.min.name ∈ zws ∧ Cond.initialized "java/lang/Math" ∈ zws ∧ Cond.code Lib.Math.min.name Lib.Math.min.code 2 (some .int) ∈ zws := by
  have ha := zmn_all
  rw [Bool.and_eq_true, Bool.and_eq_true, Bool.and_eq_true] at ha
  obtain ⟨p, hp⟩ := zany ha.1 h
  exact ⟨zin hp, zin ha.2.1.1, zin ha.2.1.2, zin ha.2.2⟩
end
section
/-! the codes of the methods, by program -/
theorem zco_1 : lw_tbl[51]? = some (Cond.code (zy 1) (zcd 1) (zmx 1) (zrt 1)) := by decide +kernel
theorem zco_2 : lw_tbl[59]? = some (Cond.code (zy 2) (zcd 2) (zmx 2) (zrt 2)) := by decide +kernel
theorem zco_3 : lw_tbl[79]? = some (Cond.code (zy 3) (zcd 3) (zmx 3) (zrt 3)) := by decide +kernel
theorem zco_4 : lw_tbl[87]? = some (Cond.code (zy 4) (zcd 4) (zmx 4) (zrt 4)) := by decide +kernel
theorem zco_5 : lw_tbl[104]? = some (Cond.code (zy 5) (zcd 5) (zmx 5) (zrt 5)) := by decide +kernel
theorem zco_6 : lw_tbl[142]? = some (Cond.code (zy 6) (zcd 6) (zmx 6) (zrt 6)) := by decide +kernel
theorem zco_7 : lw_tbl[151]? = some (Cond.code (zy 7) (zcd 7) (zmx 7) (zrt 7)) := by decide +kernel
theorem zco_8 : lw_tbl[155]? = some (Cond.code (zy 8) (zcd 8) (zmx 8) (zrt 8)) := by decide +kernel
theorem zco_9 : lw_tbl[159]? = some (Cond.code (zy 9) (zcd 9) (zmx 9) (zrt 9)) := by decide +kernel
theorem zco_10 : lw_tbl[162]? = some (Cond.code (zy 10) (zcd 10) (zmx 10) (zrt 10)) := by decide +kernel
theorem zco_11 : lw_tbl[166]? = some (Cond.code (zy 11) (zcd 11) (zmx 11) (zrt 11)) := by decide +kernel
theorem zco_12 : lw_tbl[171]? = some (Cond.code (zy 12) (zcd 12) (zmx 12) (zrt 12)) := by decide +kernel
theorem zco_13 : lw_tbl[193]? = some (Cond.code (zy 13) (zcd 13) (zmx 13) (zrt 13)) := by decide +kernel
theorem zco_14 : lw_tbl[236]? = some (Cond.code (zy 14) (zcd 14) (zmx 14) (zrt 14)) := by decide +kernel
theorem zco_15 : lw_tbl[240]? = some (Cond.code (zy 15) (zcd 15) (zmx 15) (zrt 15)) := by decide +kernel
theorem zco_16 : lw_tbl[244]? = some (Cond.code (zy 16) (zcd 16) (zmx 16) (zrt 16)) := by decide +kernel
theorem zco_17 : lw_tbl[249]? = some (Cond.code (zy 17) (zcd 17) (zmx 17) (zrt 17)) := by decide +kernel
theorem zco_18 : lw_tbl[254]? = some (Cond.code (zy 18) (zcd 18) (zmx 18) (zrt 18)) := by decide +kernel
theorem zco_19 : lw_tbl[260]? = some (Cond.code (zy 19) (zcd 19) (zmx 19) (zrt 19)) := by decide +kernel
theorem zco_20 : lw_tbl[268]? = some (Cond.code (zy 20) (zcd 20) (zmx 20) (zrt 20)) := by decide +kernel
theorem zco_21 : lw_tbl[273]? = some (Cond.code (zy 21) (zcd 21) (zmx 21) (zrt 21)) := by decide +kernel
theorem zco_22 : lw_tbl[279]? = some (Cond.code (zy 22) (zcd 22) (zmx 22) (zrt 22)) := by decide +kernel
theorem zco_23 : lw_tbl[283]? = some (Cond.code (zy 23) (zcd 23) (zmx 23) (zrt 23)) := by decide +kernel
theorem zco_24 : lw_tbl[286]? = some (Cond.code (zy 24) (zcd 24) (zmx 24) (zrt 24)) := by decide +kernel
theorem zco_25 : lw_tbl[290]? = some (Cond.code (zy 25) (zcd 25) (zmx 25) (zrt 25)) := by decide +kernel
theorem zco_26 : lw_tbl[294]? = some (Cond.code (zy 26) (zcd 26) (zmx 26) (zrt 26)) := by decide +kernel
theorem zco_27 : lw_tbl[298]? = some (Cond.code (zy 27) (zcd 27) (zmx 27) (zrt 27)) := by decide +kernel
theorem zco_28 : lw_tbl[302]? = some (Cond.code (zy 28) (zcd 28) (zmx 28) (zrt 28)) := by decide +kernel
theorem zco_29 : lw_tbl[306]? = some (Cond.code (zy 29) (zcd 29) (zmx 29) (zrt 29)) := by decide +kernel
theorem zco_30 : lw_tbl[310]? = some (Cond.code (zy 30) (zcd 30) (zmx 30) (zrt 30)) := by decide +kernel
theorem zco_31 : lw_tbl[314]? = some (Cond.code (zy 31) (zcd 31) (zmx 31) (zrt 31)) := by decide +kernel
theorem zco_32 : lw_tbl[318]? = some (Cond.code (zy 32) (zcd 32) (zmx 32) (zrt 32)) := by decide +kernel
theorem zco_33 : lw_tbl[326]? = some (Cond.code (zy 33) (zcd 33) (zmx 33) (zrt 33)) := by decide +kernel
theorem zco_34 : lw_tbl[330]? = some (Cond.code (zy 34) (zcd 34) (zmx 34) (zrt 34)) := by decide +kernel
theorem zco_35 : lw_tbl[334]? = some (Cond.code (zy 35) (zcd 35) (zmx 35) (zrt 35)) := by decide +kernel
theorem zco_36 : lw_tbl[338]? = some (Cond.code (zy 36) (zcd 36) (zmx 36) (zrt 36)) := by decide +kernel
theorem zco_37 : lw_tbl[342]? = some (Cond.code (zy 37) (zcd 37) (zmx 37) (zrt 37)) := by decide +kernel
theorem zco_38 : lw_tbl[345]? = some (Cond.codeWith (zy 38) (zcd 38) (zmx 38) (zrt 38) (zhd 38)) := by decide +kernel
theorem zco_39 : lw_tbl[350]? = some (Cond.code (zy 39) (zcd 39) (zmx 39) (zrt 39)) := by decide +kernel
theorem zco_40 : lw_tbl[422]? = some (Cond.code (zy 40) (zcd 40) (zmx 40) (zrt 40)) := by decide +kernel
theorem zco_41 : lw_tbl[426]? = some (Cond.code (zy 41) (zcd 41) (zmx 41) (zrt 41)) := by decide +kernel
theorem zco_42 : lw_tbl[429]? = some (Cond.codeWith (zy 42) (zcd 42) (zmx 42) (zrt 42) (zhd 42)) := by decide +kernel
theorem zco_43 : lw_tbl[434]? = some (Cond.code (zy 43) (zcd 43) (zmx 43) (zrt 43)) := by decide +kernel
theorem zco_44 : lw_tbl[438]? = some (Cond.code (zy 44) (zcd 44) (zmx 44) (zrt 44)) := by decide +kernel
theorem zco_45 : lw_tbl[459]? = some (Cond.code (zy 45) (zcd 45) (zmx 45) (zrt 45)) := by decide +kernel
theorem zco_46 : lw_tbl[462]? = some (Cond.codeWith (zy 46) (zcd 46) (zmx 46) (zrt 46) (zhd 46)) := by decide +kernel
theorem zco_47 : lw_tbl[466]? = some (Cond.code (zy 47) (zcd 47) (zmx 47) (zrt 47)) := by decide +kernel
theorem zco_48 : lw_tbl[470]? = some (Cond.code (zy 48) (zcd 48) (zmx 48) (zrt 48)) := by decide +kernel
theorem zco_49 : lw_tbl[474]? = some (Cond.code (zy 49) (zcd 49) (zmx 49) (zrt 49)) := by decide +kernel
theorem zco_50 : lw_tbl[478]? = some (Cond.codeWith (zy 50) (zcd 50) (zmx 50) (zrt 50) (zhd 50)) := by decide +kernel
theorem zco_51 : lw_tbl[482]? = some (Cond.code (zy 51) (zcd 51) (zmx 51) (zrt 51)) := by decide +kernel
theorem zco_52 : lw_tbl[486]? = some (Cond.code (zy 52) (zcd 52) (zmx 52) (zrt 52)) := by decide +kernel
theorem zco_53 : lw_tbl[492]? = some (Cond.code (zy 53) (zcd 53) (zmx 53) (zrt 53)) := by decide +kernel
theorem zco_54 : lw_tbl[496]? = some (Cond.code (zy 54) (zcd 54) (zmx 54) (zrt 54)) := by decide +kernel
theorem zco_55 : lw_tbl[500]? = some (Cond.code (zy 55) (zcd 55) (zmx 55) (zrt 55)) := by decide +kernel
theorem zco_56 : lw_tbl[503]? = some (Cond.code (zy 56) (zcd 56) (zmx 56) (zrt 56)) := by decide +kernel
theorem zco_57 : lw_tbl[507]? = some (Cond.code (zy 57) (zcd 57) (zmx 57) (zrt 57)) := by decide +kernel
theorem zco_58 : lw_tbl[510]? = some (Cond.codeWith (zy 58) (zcd 58) (zmx 58) (zrt 58) (zhd 58)) := by decide +kernel
theorem zco_59 : lw_tbl[514]? = some (Cond.code (zy 59) (zcd 59) (zmx 59) (zrt 59)) := by decide +kernel
theorem zco_60 : lw_tbl[520]? = some (Cond.code (zy 60) (zcd 60) (zmx 60) (zrt 60)) := by decide +kernel
theorem zco_61 : lw_tbl[524]? = some (Cond.code (zy 61) (zcd 61) (zmx 61) (zrt 61)) := by decide +kernel
theorem zco_62 : lw_tbl[527]? = some (Cond.codeWith (zy 62) (zcd 62) (zmx 62) (zrt 62) (zhd 62)) := by decide +kernel
theorem zco_63 : lw_tbl[531]? = some (Cond.code (zy 63) (zcd 63) (zmx 63) (zrt 63)) := by decide +kernel
theorem zco_64 : lw_tbl[534]? = some (Cond.codeWith (zy 64) (zcd 64) (zmx 64) (zrt 64) (zhd 64)) := by decide +kernel
theorem zco_65 : lw_tbl[538]? = some (Cond.code (zy 65) (zcd 65) (zmx 65) (zrt 65)) := by decide +kernel
theorem zco_66 : lw_tbl[541]? = some (Cond.codeWith (zy 66) (zcd 66) (zmx 66) (zrt 66) (zhd 66)) := by decide +kernel
theorem zco_67 : lw_tbl[545]? = some (Cond.code (zy 67) (zcd 67) (zmx 67) (zrt 67)) := by decide +kernel
theorem zco_68 : lw_tbl[551]? = some (Cond.code (zy 68) (zcd 68) (zmx 68) (zrt 68)) := by decide +kernel
theorem zco_69 : lw_tbl[555]? = some (Cond.code (zy 69) (zcd 69) (zmx 69) (zrt 69)) := by decide +kernel
theorem zco_70 : lw_tbl[558]? = some (Cond.codeWith (zy 70) (zcd 70) (zmx 70) (zrt 70) (zhd 70)) := by decide +kernel
theorem zco_71 : lw_tbl[562]? = some (Cond.code (zy 71) (zcd 71) (zmx 71) (zrt 71)) := by decide +kernel
theorem zco_72 : lw_tbl[566]? = some (Cond.codeWith (zy 72) (zcd 72) (zmx 72) (zrt 72) (zhd 72)) := by decide +kernel
theorem zco_73 : lw_tbl[570]? = some (Cond.code (zy 73) (zcd 73) (zmx 73) (zrt 73)) := by decide +kernel
theorem zco_74 : lw_tbl[575]? = some (Cond.codeWith (zy 74) (zcd 74) (zmx 74) (zrt 74) (zhd 74)) := by decide +kernel
theorem zco_75 : lw_tbl[579]? = some (Cond.code (zy 75) (zcd 75) (zmx 75) (zrt 75)) := by decide +kernel
theorem zco_76 : lw_tbl[585]? = some (Cond.code (zy 76) (zcd 76) (zmx 76) (zrt 76)) := by decide +kernel
theorem zco_77 : lw_tbl[588]? = some (Cond.codeWith (zy 77) (zcd 77) (zmx 77) (zrt 77) (zhd 77)) := by decide +kernel
theorem zco_78 : lw_tbl[592]? = some (Cond.code (zy 78) (zcd 78) (zmx 78) (zrt 78)) := by decide +kernel
theorem zco_79 : lw_tbl[597]? = some (Cond.code (zy 79) (zcd 79) (zmx 79) (zrt 79)) := by decide +kernel
theorem zco_80 : lw_tbl[603]? = some (Cond.code (zy 80) (zcd 80) (zmx 80) (zrt 80)) := by decide +kernel
theorem zco_81 : lw_tbl[612]? = some (Cond.code (zy 81) (zcd 81) (zmx 81) (zrt 81)) := by decide +kernel
theorem zco_82 : lw_tbl[616]? = some (Cond.code (zy 82) (zcd 82) (zmx 82) (zrt 82)) := by decide +kernel
theorem zco_83 : lw_tbl[746]? = some (Cond.code (zy 83) (zcd 83) (zmx 83) (zrt 83)) := by decide +kernel
theorem zco_84 : lw_tbl[750]? = some (Cond.code (zy 84) (zcd 84) (zmx 84) (zrt 84)) := by decide +kernel
theorem zco_85 : lw_tbl[755]? = some (Cond.code (zy 85) (zcd 85) (zmx 85) (zrt 85)) := by decide +kernel
theorem zco_86 : lw_tbl[759]? = some (Cond.code (zy 86) (zcd 86) (zmx 86) (zrt 86)) := by decide +kernel
theorem zco_87 : lw_tbl[762]? = some (Cond.code (zy 87) (zcd 87) (zmx 87) (zrt 87)) := by decide +kernel
theorem zco_88 : lw_tbl[766]? = some (Cond.code (zy 88) (zcd 88) (zmx 88) (zrt 88)) := by decide +kernel
theorem zco_89 : lw_tbl[770]? = some (Cond.code (zy 89) (zcd 89) (zmx 89) (zrt 89)) := by decide +kernel
theorem zco_90 : lw_tbl[774]? = some (Cond.code (zy 90) (zcd 90) (zmx 90) (zrt 90)) := by decide +kernel
theorem zco_91 : lw_tbl[778]? = some (Cond.code (zy 91) (zcd 91) (zmx 91) (zrt 91)) := by decide +kernel
theorem zco_92 : lw_tbl[782]? = some (Cond.code (zy 92) (zcd 92) (zmx 92) (zrt 92)) := by decide +kernel
theorem zco_93 : lw_tbl[794]? = some (Cond.code (zy 93) (zcd 93) (zmx 93) (zrt 93)) := by decide +kernel
theorem zco_94 : lw_tbl[797]? = some (Cond.code (zy 94) (zcd 94) (zmx 94) (zrt 94)) := by decide +kernel
theorem zco_95 : lw_tbl[801]? = some (Cond.code (zy 95) (zcd 95) (zmx 95) (zrt 95)) := by decide +kernel
theorem zco_96 : lw_tbl[805]? = some (Cond.code (zy 96) (zcd 96) (zmx 96) (zrt 96)) := by decide +kernel
theorem zco_97 : lw_tbl[809]? = some (Cond.code (zy 97) (zcd 97) (zmx 97) (zrt 97)) := by decide +kernel
theorem zco_98 : lw_tbl[813]? = some (Cond.code (zy 98) (zcd 98) (zmx 98) (zrt 98)) := by decide +kernel
theorem zco_99 : lw_tbl[817]? = some (Cond.code (zy 99) (zcd 99) (zmx 99) (zrt 99)) := by decide +kernel
theorem zco_100 : lw_tbl[821]? = some (Cond.code (zy 100) (zcd 100) (zmx 100) (zrt 100)) := by decide +kernel
theorem zco_101 : lw_tbl[825]? = some (Cond.code (zy 101) (zcd 101) (zmx 101) (zrt 101)) := by decide +kernel
theorem zco_102 : lw_tbl[829]? = some (Cond.code (zy 102) (zcd 102) (zmx 102) (zrt 102)) := by decide +kernel
theorem zco_103 : lw_tbl[833]? = some (Cond.code (zy 103) (zcd 103) (zmx 103) (zrt 103)) := by decide +kernel
theorem zco_104 : lw_tbl[837]? = some (Cond.code (zy 104) (zcd 104) (zmx 104) (zrt 104)) := by decide +kernel
theorem zco_105 : lw_tbl[840]? = some (Cond.code (zy 105) (zcd 105) (zmx 105) (zrt 105)) := by decide +kernel
theorem zco_106 : lw_tbl[844]? = some (Cond.code (zy 106) (zcd 106) (zmx 106) (zrt 106)) := by decide +kernel
theorem zco_107 : lw_tbl[848]? = some (Cond.code (zy 107) (zcd 107) (zmx 107) (zrt 107)) := by decide +kernel
theorem zco_108 : lw_tbl[852]? = some (Cond.code (zy 108) (zcd 108) (zmx 108) (zrt 108)) := by decide +kernel
theorem zco_109 : lw_tbl[856]? = some (Cond.code (zy 109) (zcd 109) (zmx 109) (zrt 109)) := by decide +kernel
theorem zco_110 : lw_tbl[860]? = some (Cond.code (zy 110) (zcd 110) (zmx 110) (zrt 110)) := by decide +kernel
theorem zco_111 : lw_tbl[864]? = some (Cond.code (zy 111) (zcd 111) (zmx 111) (zrt 111)) := by decide +kernel
theorem zco_112 : lw_tbl[868]? = some (Cond.code (zy 112) (zcd 112) (zmx 112) (zrt 112)) := by decide +kernel
theorem zco_113 : lw_tbl[872]? = some (Cond.code (zy 113) (zcd 113) (zmx 113) (zrt 113)) := by decide +kernel
theorem zco_114 : lw_tbl[876]? = some (Cond.code (zy 114) (zcd 114) (zmx 114) (zrt 114)) := by decide +kernel
theorem zco_115 : lw_tbl[880]? = some (Cond.code (zy 115) (zcd 115) (zmx 115) (zrt 115)) := by decide +kernel
theorem zco_116 : lw_tbl[884]? = some (Cond.code (zy 116) (zcd 116) (zmx 116) (zrt 116)) := by decide +kernel
theorem zco_117 : lw_tbl[888]? = some (Cond.code (zy 117) (zcd 117) (zmx 117) (zrt 117)) := by decide +kernel
theorem zco_118 : lw_tbl[892]? = some (Cond.code (zy 118) (zcd 118) (zmx 118) (zrt 118)) := by decide +kernel
theorem zco_119 : lw_tbl[896]? = some (Cond.code (zy 119) (zcd 119) (zmx 119) (zrt 119)) := by decide +kernel
theorem zco_120 : lw_tbl[900]? = some (Cond.code (zy 120) (zcd 120) (zmx 120) (zrt 120)) := by decide +kernel
end
section
/-! THE LOGICAL MACHINE: a small interpreter of the same bytecode over three tables (ints, longs, references) by address and place; its kinds of cells are fixed ahead (zK). -/
abbrev zI : Type := Nat → Nat → Int32
abbrev zJ : Type := Nat → Nat → Int64
abbrev zR : Type := Nat → Nat → Option Nat
abbrev zKd : Type := (FieldType × Nat) ⊕ Nat
abbrev zLv : Type := List (Option Value)
/-- next address, slots made so far, the three tables -/
abbrev zHp : Type := Nat × Nat × zI × zJ × zR
abbrev zOut : Type := Option Value ⊕ (Nat × Nat)
/-- goes on (pc, locals, stack, heap) | calls (method, arguments, rest of the stack, length of the instruction) | ends -/
abbrev zRes : Type := (Nat × zLv × List Value × zHp) ⊕ ((Nat × List Value × List Value × Nat) ⊕ (zOut × zHp))
def zu {α : Type} (I : Nat → Nat → α) (a k : Nat) (v : α) : Nat → Nat → α := fun b j => if b = a ∧ j = k then v else I b j
/-- a new cell's places -/
def zc {α : Type} (I : Nat → Nat → α) (a : Nat) (v : α) : Nat → Nat → α := fun b j => if b = a then v else I b j
def zn (pc : Nat) (lv : zLv) (st : List Value) (h : zHp) : Option zRes := some (.inl (pc, lv, st, h))
def zval (ty : FieldType) (h : zHp) (a k : Nat) : Value := match ty with
  | .long => .long (h.2.2.2.1 a k)
  | .object _ => va_rf (h.2.2.2.2 a k)
  | .array _ => va_rf (h.2.2.2.2 a k)
  | _ => .int (h.2.2.1 a k)
/-- what a store of v at place k of the cell a leaves, where v is of the type -/
def zput (ty : FieldType) (h : zHp) (a k : Nat) (v : Value) : Option zHp := match ty, v with
  | .long, .long x => some (h.1, h.2.1, h.2.2.1, zu h.2.2.2.1 a k x, h.2.2.2.2)
  | .object _, .ref x => some (h.1, h.2.1, h.2.2.1, h.2.2.2.1, zu h.2.2.2.2 a k (some x))
  | .object _, .null => some (h.1, h.2.1, h.2.2.1, h.2.2.2.1, zu h.2.2.2.2 a k none)
  | .array _, .ref x => some (h.1, h.2.1, h.2.2.1, h.2.2.2.1, zu h.2.2.2.2 a k (some x))
  | .array _, .null => some (h.1, h.2.1, h.2.2.1, h.2.2.2.1, zu h.2.2.2.2 a k none)
  | .int, .int x => some (h.1, h.2.1, zu h.2.2.1 a k x, h.2.2.2.1, h.2.2.2.2)
  | .boolean, .int x => if x = 0 ∨ x = 1 then some (h.1, h.2.1, zu h.2.2.1 a k x, h.2.2.2.1, h.2.2.2.2) else none
  | _, _ => none
def zcmp (c : ClassFile.Cond) (x y : Int32) : Bool := match c with
  | .eq => decide (x = y) | .ne => !decide (x = y) | .lt => decide (x < y) | .ge => decide (y ≤ x) | .gt => decide (y < x) | .le => decide (x ≤ y)
def ztake (n : Nat) (st : List Value) : Option (List Value × List Value) := if n ≤ st.length then some ((st.take n).reverse, st.drop n) else none
def zcat (vs : List Value) : Nat := (vs.map fun v => v.category).sum
/-- the kind of a cell that is there -/
def zk (L : Nat) (h : zHp) (a : Nat) : Option zKd := if a < h.1 then zK L a else none
def zjmp (pc : Nat) (off : Int) : Nat := ((pc : Int) + off).toNat
def zbin (i : Instr) (x y : Int32) : Option Int32 := match i with
  | .iadd => some (x + y) | .isub => some (x - y) | .imul => some (x * y) | .iand => some (x &&& y) | .ior => some (x ||| y) | .ixor => some (x ^^^ y)
  | .ishl => some (x <<< (y &&& 31)) | .ishr => some (x >>> (y &&& 31)) | .iushr => some ((x.toUInt32 >>> (y.toUInt32 &&& Int32.toUInt32 31)).toInt32)
  | .idiv => if y = 0 then none else some (x / y)
  | .irem => if y = 0 then none else some (x - x / y * y)
  | _ => none
/-- arrays: a load -/
def zald (L : Nat) (ty : FieldType → Bool) (h : zHp) (a : Nat) (j : Int32) : Option Value := match zk L h a with
  | some (.inl (t, n)) => if ty t = true ∧ 0 ≤ j ∧ j.toNatClampNeg < n then some (zval t h a j.toNatClampNeg) else none
  | _ => none
def zast (L : Nat) (ty : FieldType → Bool) (h : zHp) (a : Nat) (j : Int32) (v : Value) : Option zHp := match zk L h a with
  | some (.inl (t, n)) => if ty t = true ∧ 0 ≤ j ∧ j.toNatClampNeg < n ∧ zS ≤ a then zput t h a j.toNatClampNeg v else none
  | _ => none
def zisI (t : FieldType) : Bool := match t with | .int => true | _ => false
def zisZ (t : FieldType) : Bool := match t with | .boolean => true | _ => false
def zisL (t : FieldType) : Bool := match t with | .long => true | _ => false
def zisR (t : FieldType) : Bool := match t with | .object _ => true | .array _ => true | _ => false
def zo (h : Option zHp) (pc : Nat) (lv : zLv) (st : List Value) : Option zRes := match h with
  | some h => zn pc lv st h
  | none => none
/-- a new cell: its places are blank -/
def znew (h : zHp) (n : Nat) : zHp := (h.1 + 1, h.2.1 + n, zc h.2.2.1 h.1 0, zc h.2.2.2.1 h.1 0, zc h.2.2.2.2 h.1 none)
/-- n rows behind the cell a, which names them -/
def zrows (h : zHp) (n k : Nat) : zHp := (h.1 + 1 + n, h.2.1 + n + n * k, (fun b j => if h.1 ≤ b ∧ b ≤ h.1 + n then 0 else h.2.2.1 b j), (fun b j => if h.1 ≤ b ∧ b ≤ h.1 + n then 0 else h.2.2.2.1 b j),
  (fun b j => if b = h.1 then (if j < n then some (h.1 + 1 + j) else none) else if h.1 ≤ b ∧ b ≤ h.1 + n then none else h.2.2.2.2 b j))
/-- 0: an int, 1: a reference, 2: a long -/
def zld (v : Option (Option Value)) (i : Nat) : Option Value := match v, i with
  | some (some (.int x)), 0 => some (.int x)
  | some (some (.ref x)), 1 => some (.ref x)
  | some (some (.long x)), 2 => some (.long x)
  | _, _ => none
def zstv (i : Bool) (v : Value) : Bool := match v with
  | .int _ => i
  | .ref _ => !i
  | _ => false
def zpush (v : Option Value) (pc : Nat) (lv : zLv) (st : List Value) (h : zHp) : Option zRes := match v with
  | some v => zn pc lv (v :: st) h
  | none => none
/-- constants; loads; stores; array loads and stores: which kind, which place -/
def zcst (i : Instr) : Option Value := match i with
  | .iconst n => some (.int (Int32.ofInt n))
  | .bipush n => some (.int (Int8.ofInt n).toInt32)
  | .sipush n => some (.int (Int16.ofInt n).toInt32)
  | .lconst n => some (.long (Int64.ofNat (n : Nat)))
  | _ => none
def zldi (i : Instr) : Option (Nat × Nat) := match i with
  | .iload k => some (k, 0) | .iload_n k => some ((k : Nat), 0) | .aload k => some (k, 1) | .aload_n k => some ((k : Nat), 1) | .lload k => some (k, 2) | .lload_n k => some ((k : Nat), 2) | _ => none
def zsti (i : Instr) : Option (Nat × Bool) := match i with
  | .istore k => some (k, true) | .istore_n k => some ((k : Nat), true) | .astore k => some (k, false) | .astore_n k => some ((k : Nat), false) | _ => none
def zaldi (i : Instr) : Option (FieldType → Bool) := match i with
  | .iaload => some zisI | .baload => some zisZ | .laload => some zisL | .aaload => some zisR | _ => none
def zasti (i : Instr) : Option (FieldType → Bool) := match i with
  | .iastore => some zisI | .bastore => some zisZ | .lastore => some zisL | _ => none
def zstk (i : Instr) (st : List Value) : Option (List Value) := match i, st with
  | .ineg, .int x :: r => some (.int (-x) :: r)
  | .i2l, .int x :: r => some (.long x.toInt64 :: r)
  | .l2i, .long x :: r => some (.int x.toInt32 :: r)
  | .lshr, .int y :: .long x :: r => some (.long (x >>> (y.toInt64 &&& 63)) :: r)
  | .lcmp, .long y :: .long x :: r => some (.int (lg_cmp x y) :: r)
  | .dup, .int x :: r => some (.int x :: .int x :: r)
  | .dup, .ref x :: r => some (.ref x :: .ref x :: r)
  | .dup2, .int x :: .ref y :: r => some (.int x :: .ref y :: .int x :: .ref y :: r)
  | .dup_x1, .int x :: .ref y :: r => some (.int x :: .ref y :: .int x :: r)
  | .pop, .int _ :: r => some r
  | .pop, .ref _ :: r => some r
  | _, _ => none
def zlen (i : Instr) : Nat := match i with
  | .bipush _ | .ldc _ | .iload _ | .aload _ | .lload _ | .istore _ | .astore _ | .newarray _ => 2
  | .sipush _ | .ldc2_w _ | .iinc _ _ | .goto _ | .ifCond _ _ | .if_icmp _ _ | .getfield _ | .putfield _ | .getstatic _ | .new _ | .anewarray _ | .invokespecial _ | .invokevirtual _ | .invokestatic _ => 3
  | .multianewarray _ _ => 4
  | _ => 1
def zlok (i : Instr) (len : Nat) : Bool := match i with
  | .tableswitch _ _ _ _ => true
  | i => len == zlen i
/-- arrays that newarray makes here -/
def zna (t : ArrayType) : Bool := match t with
  | .int => true | .long => true | .boolean => true | _ => false
def zsw (lo hi d : Int) (offs : Array Int) (x : Int) : Int := if x < lo ∨ hi < x then d else (offs[(x - lo).toNat]?).getD d
/-- the locals at a method's entry -/
def zexp (as : List Value) : zLv := match as with
  | [] => []
  | v :: r => if v.category = 2 then some v :: none :: zexp r else some v :: zexp r
def zent (mj : Nat) (as : List Value) : zLv := zexp as ++ List.replicate (zmx mj - (zexp as).length) none
/-- a call: the arguments are taken off; what is left is light; the callee stands lower -/
def zcall (mi mj : Nat) (recv : Bool) (L : Nat) (h : zHp) (st : List Value) : Option zRes :=
  if (zrk mj < zrk mi ∧ 8 + (zmx mj + 11) + zlo mj ≤ zlo mi) ∧ (zat mj = !recv ∧ mj < zNm) then (match ztake (znp mj) st with
    | some (as, rest) =>
      if (zlg mj || as.all (fun v => v.category == 1)) = true ∧ (zexp as).length + 1 ≤ zmx mj + (if recv then 0 else 1) then (match recv with
        | true => (match rest with
          | .ref b :: r => if zk L h b = some (.inr (zoc mj)) ∧ zcat r ≤ 8 then some (.inr (.inl (mj, .ref b :: as, r, 3))) else none
          | _ => none)
        | false => if zcat rest ≤ 8 then some (.inr (.inl (mj, as, rest, 3))) else none)
      else none
    | none => none)
  else none
def zret (mi : Nat) (st : List Value) (h : zHp) : Option zRes := match st, zrt mi with
  | [.int v], some .int => some (.inr (.inr (.inl (some (.int v)), h)))
  | [.int v], some .boolean => if v = 0 ∨ v = 1 then some (.inr (.inr (.inl (some (.int v)), h))) else none
  | _, _ => none
def zaret (mi : Nat) (st : List Value) (h : zHp) : Option zRes := match st, zrt mi with
  | [.ref v], some (.object _) => some (.inr (.inr (.inl (some (.ref v)), h)))
  | [.ref v], some (.array _) => some (.inr (.inr (.inl (some (.ref v)), h)))
  | _, _ => none
def zvret (mi : Nat) (st : List Value) (h : zHp) : Option zRes := match st, zrt mi with
  | [], none => some (.inr (.inr (.inl none, h)))
  | _, _ => none
def zacopy (L mi pc : Nat) (lv : zLv) (st : List Value) (h : zHp) : Option zRes := match st with
  | .int n :: .int dp :: .ref d :: .int sp :: .ref s :: r => (match zk L h s, zk L h d with
    | some (.inl (.int, n0)), some (.inl (.int, n1)) =>
      if ((0 ≤ n ∧ 0 ≤ dp ∧ 0 ≤ sp) ∧ (sp.toNatClampNeg + n.toNatClampNeg ≤ n0 ∧ dp.toNatClampNeg + n.toNatClampNeg ≤ n1)) ∧ ((zS ≤ d ∧ zcat r ≤ 8) ∧ (1 ≤ zrk mi ∧ 26 ≤ zlo mi)) then
        zn (pc + 3) lv r (h.1, h.2.1, (fun b j => if b = d then va_cpy (h.2.2.1 s) (h.2.2.1 d) sp.toNatClampNeg dp.toNatClampNeg n.toNatClampNeg j else h.2.2.1 b j), h.2.2.2.1, h.2.2.2.2)
      else none
    | _, _ => none)
  | _ => none
/-- new E(a text), thrown at once: a cell comes that no table tells of -/
def zthrow (L mi pc : Nat) (x : Nat) (st : List Value) (h : zHp) : Option zRes :=
  match decode (zcd mi) (pc + 3), decode (zcd mi) (pc + 4), decode (zcd mi) (pc + 6), decode (zcd mi) (pc + 9) with
  | .ok (.dup, 1), .ok (.ldc is, 2), .ok (.invokespecial ic, 3), .ok (.athrow, 1) =>
    if ((zxl (zoc mi) ic = some x ∧ zK L h.1 = none) ∧ (zhd mi = [] ∧ zxs (zoc mi) is = true)) ∧ ((6 ≤ zrk mi ∧ 90 ≤ zlo mi) ∧ zcat st ≤ 8) then some (.inr (.inr (.inr (x, h.1), (h.1 + 1, h.2.1 + 6, h.2.2)))) else none
  | _, _, _, _ => none
def zins2 (L mi pc : Nat) (lv : zLv) (st : List Value) (h : zHp) (i : Instr) (len : Nat) : Option zRes := match i with
  | .ldc k => (match zkl (zoc mi) k with
    | some v => zn (pc + len) lv (.int v :: st) h
    | none => none)
  | .ldc2_w k => (match zkL (zoc mi) k with
    | some v => zn (pc + len) lv (.long v :: st) h
    | none => none)
  | .iinc k n => if zlg mi = true then none else (match lv[k]? with
    | some (some (.int x)) => zn (pc + len) (lv.set k (some (.int (x + Int32.ofInt n)))) st h
    | _ => none)
  | .goto off => if 0 ≤ (pc : Int) + off then zn (zjmp pc off) lv st h else none
  | .ifCond c off => (match st with
    | .int x :: r => if 0 ≤ (pc : Int) + off then zn (if zcmp c x 0 = true then zjmp pc off else pc + len) lv r h else none
    | _ => none)
  | .if_icmp c off => (match st with
    | .int y :: .int x :: r => if 0 ≤ (pc : Int) + off then zn (if zcmp c x y = true then zjmp pc off else pc + len) lv r h else none
    | _ => none)
  | .tableswitch d lo hi offs => (match st with
    | .int x :: r => if (hi - lo).toNat < offs.size ∧ 0 ≤ (pc : Int) + zsw lo hi d offs x.toInt then zn (zjmp pc (zsw lo hi d offs x.toInt)) lv r h else none
    | _ => none)
  | .getfield k => (match st, zfl (zoc mi) k with
    | .ref a :: r, some (ci, f) => if zk L h a = some (.inr ci) ∧ f < zfN ci then zn (pc + len) lv (zval (zft ci f) h a f :: r) h else none
    | _, _ => none)
  | .putfield k => (match st, zfl (zoc mi) k with
    | v :: .ref a :: r, some (ci, f) => if (zk L h a = some (.inr ci) ∧ f < zfN ci ∧ zS ≤ a) ∧ ((zfT ci f).2.2.2 = true → (zoc mi = ci ∧ (zy mi).name = "<init>")) then zo (zput (zft ci f) h a f v) (pc + len) lv r else none
    | _, _ => none)
  | .getstatic k => (match zsl (zoc mi) k with
    | some a => zn (pc + len) lv (.ref a :: st) h
    | none => none)
  | .aastore => (match st with
    | .ref v :: .int j :: .ref a :: r => (match zk L h v, zk L h a with
      | some (.inr ci), some (.inl (.object C, n)) => if (C = zcn ci ∧ 0 ≤ j) ∧ (j.toNatClampNeg < n ∧ zS ≤ a) then zn (pc + len) lv r (h.1, h.2.1, h.2.2.1, h.2.2.2.1, zu h.2.2.2.2 a j.toNatClampNeg (some v)) else none
      | _, _ => none)
    | _ => none)
  | .arraylength => (match st with
    | .ref a :: r => (match zk L h a with
      | some (.inl (_, n)) => zn (pc + len) lv (.int (Int32.ofNat n) :: r) h
      | _ => none)
    | _ => none)
  | .new k => (match zcl (zoc mi) k with
    | some (.inl ci) => if zK L h.1 = some (.inr ci) then zn (pc + len) lv (.ref h.1 :: st) (znew h (zfN ci)) else none
    | some (.inr x) => zthrow L mi pc x st h
    | none => none)
  | .newarray t => (match st with
    | .int n :: r => if (0 ≤ n ∧ zna t = true) ∧ (zK L h.1 = some (.inl (newarray.typeOf t, n.toNatClampNeg)) ∧ n.toNatClampNeg ≤ 65536) then zn (pc + len) lv (.ref h.1 :: r) (znew h n.toNatClampNeg) else none
    | _ => none)
  | .anewarray k => (match st, zal (zoc mi) k with
    | .int n :: r, some C => if 0 ≤ n ∧ zK L h.1 = some (.inl (.object C, n.toNatClampNeg)) ∧ n.toNatClampNeg ≤ 65536 then zn (pc + len) lv (.ref h.1 :: r) (znew h n.toNatClampNeg) else none
    | _, _ => none)
  | .multianewarray k 2 => (match st with
    | .int w :: .int n :: r => if (zmu (zoc mi) k = true ∧ 0 ≤ n ∧ 0 ≤ w) ∧ (zK L h.1 = some (.inl (.array .int, n.toNatClampNeg)) ∧ (List.range n.toNatClampNeg).all (fun i => decide (zK L (h.1 + 1 + i) = some (.inl (.int, w.toNatClampNeg)))) = true) ∧ (n.toNatClampNeg ≤ 65536 ∧ w.toNatClampNeg ≤ 65536) then zn (pc + len) lv (.ref h.1 :: r) (zrows h n.toNatClampNeg w.toNatClampNeg) else none
    | _ => none)
  | .invokespecial k => if zob (zoc mi) k = true then (match st with
      | .ref _ :: r => if zcat r ≤ 8 ∧ (1 ≤ zrk mi ∧ 20 ≤ zlo mi) then zn (pc + len) lv r h else none
      | _ => none)
    else (match zml (zoc mi) k with
      | some mj => if (zy mj).name = "<init>" then zcall mi mj true L h st else none
      | none => none)
  | .invokevirtual k => (match zml (zoc mi) k with
      | some mj => if (zy mj).name = "<init>" then none else zcall mi mj true L h st
      | none => none)
  | .invokestatic k => if zac (zoc mi) k = true then zacopy L mi pc lv st h else if zmn (zoc mi) k = true then (match st with
      | .int y :: .int x :: r => if zcat r ≤ 8 ∧ (1 ≤ zrk mi ∧ 21 ≤ zlo mi) then zn (pc + len) lv (.int (if y < x then y else x) :: r) h else none
      | _ => none)
    else (match zml (zoc mi) k with
      | some mj => zcall mi mj false L h st
      | none => none)
  | .ireturn => zret mi st h
  | .areturn => zaret mi st h
  | .return_ => zvret mi st h
  | i => (match st with
    | .int y :: .int x :: r => (match zbin i x y with
      | some v => zn (pc + len) lv (.int v :: r) h
      | none => none)
    | _ => none)
def zins (L mi pc : Nat) (lv : zLv) (st : List Value) (h : zHp) (i : Instr) (len : Nat) : Option zRes := match zcst i with
  | some v => zn (pc + len) lv (v :: st) h
  | none => match zldi i with
    | some q => zpush (zld lv[q.1]? q.2) (pc + len) lv st h
    | none => match zsti i with
      | some q => (match st with
        | v :: r => if (zstv q.2 v = true ∧ q.1 < lv.length) ∧ zlg mi = false then zn (pc + len) (lv.set q.1 (some v)) r h else none
        | _ => none)
      | none => match zaldi i with
        | some ty => (match st with
          | .int j :: .ref a :: r => zpush (zald L ty h a j) (pc + len) lv r h
          | _ => none)
        | none => match zasti i with
          | some ty => (match st with
            | v :: .int j :: .ref a :: r => zo (zast L ty h a j v) (pc + len) lv r
            | _ => none)
          | none => match zstk i st with
            | some st' => zn (pc + len) lv st' h
            | none => zins2 L mi pc lv st h i len
def zstep (L mi pc : Nat) (lv : zLv) (st : List Value) (h : zHp) : Option zRes := match decode (zcd mi) pc with
  | .ok (i, len) => if zlok i len = true then zins L mi pc lv st h i len else none
  | _ => none
def zcatch (mi pc x : Nat) : Option Nat := ((zhd mi).find? (fun q => decide (q.1 ≤ pc ∧ pc < q.2.1) && decide (zxc (zoc mi) q.2.2.2 = some x))).map (fun q => q.2.2.1)
end
section
/-- the runs: by fuel -/
def zev (L : Nat) : Nat → Nat → Nat → zLv → List Value → zHp → Option (zOut × zHp)
  | 0, _, _, _, _, _ => none
  | n + 1, mi, pc, lv, st, h => match zstep L mi pc lv st h with
    | some (.inl (pc', lv', st', h')) => zev L n mi pc' lv' st' h'
    | some (.inr (.inl (mj, as, rest, len))) => (match zev L n mj 0 (zent mj as) [] h with
      | some (.inl v, h') => zev L n mi (pc + len) lv (v.toList ++ rest) h'
      | some (.inr x, h') => (match zcatch mi pc x.1 with
        | some pc' => zev L n mi pc' lv [.ref x.2] h'
        | none => if zhd mi = [] then some (.inr x, h') else none)
      | none => none)
    | some (.inr (.inr (o, h'))) => some (o, h')
    | none => none
theorem zev_succ (L : Nat) : ∀ (n mi pc : Nat) (lv : zLv) (st : List Value) (h : zHp) (r : zOut × zHp), zev L n mi pc lv st h = some r → zev L (n + 1) mi pc lv st h = some r := by
  intro n
  induction n with
  | zero => intro mi pc lv st h r hr; simp [zev] at hr
  | succ n ih =>
    intro mi pc lv st h r hr
    rw [zev] at hr ⊢
    revert hr
    cases hs : zstep L mi pc lv st h with
    | none => intro hr; exact hr
    | some q =>
      rcases q with ⟨pc', lv', st', h'⟩ | ⟨mj, as, rest, len⟩ | ⟨o, h'⟩
      · intro hr; exact ih _ _ _ _ _ _ hr
      · intro hr
        dsimp only at hr ⊢
        cases hc : zev L n mj 0 (zent mj as) [] h with
        | none => rw [hc] at hr; cases hr
        | some w =>
          rw [hc] at hr
          rw [ih _ _ _ _ _ _ hc]
          rcases w with ⟨v | x, h'⟩
          · exact ih _ _ _ _ _ _ hr
          · dsimp only at hr ⊢
            cases hk : zcatch mi pc x.1 with
            | none => rw [hk] at hr; exact hr
            | some pc' => rw [hk] at hr; exact ih _ _ _ _ _ _ hr
      · intro hr; exact hr
theorem zev_le (L : Nat) {n k : Nat} (hk : n ≤ k) {mi pc : Nat} {lv : zLv} {st : List Value} {h : zHp} {r : zOut × zHp} (hr : zev L n mi pc lv st h = some r) : zev L k mi pc lv st h = some r := by
  induction hk with
  | refl => exact hr
  | step _ ih => exact zev_succ L _ _ _ _ _ _ _ ih
/-- THE RUN ENDS WELL: it ends, and what it ends with is of Q -/
def zW (L mi pc : Nat) (lv : zLv) (st : List Value) (h : zHp) (Q : zOut → zHp → Prop) : Prop := ∃ (n : Nat) (o : zOut) (h' : zHp), zev L n mi pc lv st h = some (o, h') ∧ Q o h'
section ZW
variable {L mi pc : Nat} {lv : zLv} {st : List Value} {h : zHp} {Q : zOut → zHp → Prop}
theorem zW.mono {Q' : zOut → zHp → Prop} (w : zW L mi pc lv st h Q) (hq : ∀ o h', Q o h' → Q' o h') : zW L mi pc lv st h Q' := by
  obtain ⟨n, o, h', e, q⟩ := w
  exact ⟨n, o, h', e, hq _ _ q⟩
theorem zw_next {pc' : Nat} {lv' : zLv} {st' : List Value} {h' : zHp} (hs : zstep L mi pc lv st h = some (.inl (pc', lv', st', h'))) : zW L mi pc lv st h Q ↔ zW L mi pc' lv' st' h' Q := by
  constructor
  · rintro ⟨n, o, k, e, q⟩
    cases n with
    | zero => simp [zev] at e
    | succ n => rw [zev, hs] at e; exact ⟨n, o, k, e, q⟩
  · rintro ⟨n, o, k, e, q⟩
    exact ⟨n + 1, o, k, by rw [zev, hs]; exact e, q⟩
theorem zw_end {o : zOut} {h' : zHp} (hs : zstep L mi pc lv st h = some (.inr (.inr (o, h')))) : zW L mi pc lv st h Q ↔ Q o h' := by
  constructor
  · rintro ⟨n, o', k, e, q⟩
    cases n with
    | zero => simp [zev] at e
    | succ n => rw [zev, hs] at e; cases e; exact q
  · intro q
    exact ⟨1, o, h', by rw [zev, hs], q⟩
theorem zw_call {mj : Nat} {as rest : List Value} {len : Nat} (hs : zstep L mi pc lv st h = some (.inr (.inl (mj, as, rest, len))))
    (w : zW L mj 0 (zent mj as) [] h (fun o h' => match o with
      | .inl v => zW L mi (pc + len) lv (v.toList ++ rest) h' Q
      | .inr x => (match zcatch mi pc x.1 with
        | some pc' => zW L mi pc' lv [.ref x.2] h' Q
        | none => zhd mi = [] ∧ Q (.inr x) h'))) : zW L mi pc lv st h Q := by
  obtain ⟨n, o, h', e, q⟩ := w
  rcases o with v | x
  · obtain ⟨k, o2, h2, e2, q2⟩ := q
    refine ⟨max n k + 1, o2, h2, ?_, q2⟩
    rw [zev, hs]
    dsimp only
    rw [zev_le L (Nat.le_max_left n k) e]
    exact zev_le L (Nat.le_max_right n k) e2
  · dsimp only at q
    cases hk : zcatch mi pc x.1 with
    | none =>
      rw [hk] at q
      refine ⟨n + 1, .inr x, h', ?_, q.2⟩
      rw [zev, hs]
      dsimp only
      rw [e]
      dsimp only
      rw [hk]
      exact if_pos q.1
    | some pc' =>
      rw [hk] at q
      obtain ⟨k, o2, h2, e2, q2⟩ := q
      refine ⟨max n k + 1, o2, h2, ?_, q2⟩
      rw [zev, hs]
      dsimp only
      rw [zev_le L (Nat.le_max_left n k) e]
      dsimp only
      rw [hk]
      exact zev_le L (Nat.le_max_right n k) e2
end ZW
end
section
/-! SOUNDNESS: what the logical machine does, the machine does. S0: the state at the law's entry; B = S0.heap.size; logical addresses from zS on are the cells from B on, in order. -/
def zr (S0 : State) (z : Nat → Nat) (a : Nat) : Nat := if a < zS then z a else S0.heap.size + (a - zS)
def zv (S0 : State) (z : Nat → Nat) (v : Value) : Value := match v with
  | .ref a => .ref (zr S0 z a)
  | v => v
/-- so many places, as its length says (a static's array is known by its length alone) -/
def zsz (k n : Nat) : Prop := n ≤ k ∧ k.toInt32 = Int32.ofNat n
theorem zsz_of {k n : Nat} (h : k = n) : zsz k n := ⟨by omega, by rw [h]⟩
def zcell (S0 : State) (D : va_G) (z : Nat → Nat) (h : zHp) (a : Nat) (kd : zKd) (cell : Cell) : Prop := match kd with
  | .inl (ty, n) => cell.vm ≠ .unknown ∧ S0.isArrayOf cell ty ∧ zsz cell.slots.size n ∧ (∀ j, j < n → cell.slots[j]? = some (zv S0 z (zval ty h a j))) ∧
      ∀ C, ty = .object C → ∃ (k : Class) (comp : ClassId), S0.vm.classes[cell.cls]? = some k ∧ k.kind = .array comp ty ∧ S0.vm.findClass C = some comp
  | .inr ci => ci < zNc ∧ cell.vm = .none ∧ cell.cls = D.1 ci ∧ ∀ k, k < zfN ci → cell.slots[D.2 ci k]? = some (zv S0 z (zval (zft ci k) h a k))
def zRl (S0 : State) (D : va_G) (z : Nat → Nat) (L : Nat) (h : zHp) (H : Heap) : Prop :=
  zS ≤ h.1 ∧ H.size = S0.heap.size + (h.1 - zS) ∧ (∀ q : Nat, q < S0.heap.size → H[q]? = S0.heap[q]?) ∧ (∀ a : Nat, a < zS → z a < S0.heap.size) ∧
  (∀ (a : Nat) (kd : zKd), a < h.1 → zK L a = some kd → ∃ cell : Cell, H[zr S0 z a]? = some cell ∧ zcell S0 D z h a kd cell) ∧
  ∀ (q : Nat) (cell : Cell), S0.heap.size ≤ q → H[q]? = some cell → cell.vm.isStatics = false
/-- what is fixed of the start -/
def zFix (S0 : State) (D : va_G) (z : Nat → Nat) : Prop :=
  (∀ w ∈ zws, ∀ (a : Array Value) (U : State), S0.WarmedH U.vm → w.before a U = true) ∧ va_K D zcls [] S0 ∧
  ∀ (oc k a : Nat), zsl oc k = some a → a < zS ∧ ∃ (C n d : String), Cond.fieldLink (zcn oc) k C n d ∈ zws ∧ va_Z C n d (.ref (z a)) (fun q => S0.heap.size ≤ q) S0 S0.heap
/-- the method that runs -/
def zCx (S0 : State) (p : Program) (s : State) (m : MethodId) (meth : Method) (c : Code) (mi : Nat) : Prop :=
  p.tables.exec = Jvm.exec ∧ c.code = zcd mi ∧ c.maxLocals = zmx mi ∧ s.vm.findClass (zcn (zoc mi)) = some m.cls ∧ meth.locks = false ∧ meth.sig.returnType = zrt mi ∧ meth.name = (zy mi).name ∧
  S0.WarmedH s.vm ∧ S0.heap.size ≤ s.heap.size ∧ (zhd mi = [(0, 0, 0, 0)] ∨ c.exceptionTable.toList.map (fun h => (h.startPc, h.endPc, h.handlerPc, h.catchType)) = zhd mi) ∧
  (∀ q : Nat, q < S0.heap.size → s.heap[q]? = S0.heap[q]?) ∧ ∀ (q : Nat) (cell : Cell), S0.heap.size ≤ q → s.heap[q]? = some cell → cell.vm.isStatics = false
theorem zv_cat (S0 : State) (z : Nat → Nat) (v : Value) : (zv S0 z v).category = v.category := by cases v <;> rfl
/-- as the kit's rows have it -/
def zal0 (S0 : State) (z : Nat → Nat) (lv : zLv) : List (Nat × Value) := (List.range lv.length).filterMap (fun i => match lv[i]? with
  | some (some v) => some (i, zv S0 z v)
  | _ => none)
def zLs (S0 : State) (z : Nat → Nat) (mi : Nat) (lv : zLv) (ls : Array Slot) : Prop :=
  lv.length = zmx mi ∧ lv_has ls (zmx mi) (zal0 S0 z lv) ∧ (zlg mi = false → ∀ (i : Nat) (v : Value), lv[i]? = some (some v) → v.category = 1)
theorem zal0_mem {S0 : State} {z : Nat → Nat} {lv : zLv} {i : Nat} {v : Value} (h : lv[i]? = some (some v)) : (i, zv S0 z v) ∈ zal0 S0 z lv := by
  refine List.mem_filterMap.mpr ⟨i, List.mem_range.mpr ?_, by rw [h]⟩
  exact (List.getElem?_eq_some_iff.mp h).1
theorem zal0_of {S0 : State} {z : Nat → Nat} {lv : zLv} {q : Nat × Value} (h : q ∈ zal0 S0 z lv) : ∃ v, lv[q.1]? = some (some v) ∧ q.2 = zv S0 z v := by
  obtain ⟨i, -, hi⟩ := List.mem_filterMap.mp h
  split at hi
  next v hv => cases hi; exact ⟨v, hv, rfl⟩
  next => cases hi
theorem zLs.get {S0 : State} {z : Nat → Nat} {mi : Nat} {lv : zLv} {ls : Array Slot} (h : zLs S0 z mi lv ls) {i : Nat} {v : Value} (hv : lv[i]? = some (some v)) : ls[i]? = some (.val (zv S0 z v)) := h.2.1.2.2 _ (zal0_mem hv)
theorem zLs.store {S0 : State} {z : Nat → Nat} {mi : Nat} {lv : zLv} {ls ls' : Array Slot} (h : zLs S0 z mi lv ls) (hg : zlg mi = false) {i : Nat} {v : Value} (hc : v.category = 1)
    (h' : lv_has ls' (zmx mi) ((i, zv S0 z v) :: (zal0 S0 z lv).filter (fun q => !(q.1 == i) && !(q.1 + 1 == i && q.2.category == 2)))) : zLs S0 z mi (lv.set i (some v)) ls' := by
  have key : ∀ (j : Nat) (w : Value), (lv.set i (some v))[j]? = some (some w) → w.category = 1 ∧ (j, zv S0 z w) ∈ ((i, zv S0 z v) :: (zal0 S0 z lv).filter (fun q => !(q.1 == i) && !(q.1 + 1 == i && q.2.category == 2))) := by
    intro j w hw
    rw [List.getElem?_set] at hw
    by_cases hj : i = j
    · subst hj
      rw [if_pos rfl] at hw
      split at hw
      next => cases hw; exact ⟨hc, List.mem_cons_self⟩
      next => cases hw
    · rw [if_neg hj] at hw
      have h1 : w.category = 1 := h.2.2 hg j w hw
      refine ⟨h1, List.mem_cons_of_mem _ (List.mem_filter.mpr ⟨zal0_mem hw, ?_⟩)⟩
      have h2 : (zv S0 z w).category = 1 := by rw [zv_cat]; exact h1
      simp [h2, Ne.symm hj]
  refine ⟨by rw [List.length_set]; exact h.1, ⟨h'.1, h'.2.1, fun q hq => ?_⟩, fun _ j w hw => (key j w hw).1⟩
  obtain ⟨w, e1, e2⟩ := zal0_of hq
  have := h'.2.2 _ (key q.1 w e1).2
  rw [e2]
  exact this
theorem zLs.size {S0 : State} {z : Nat → Nat} {mi : Nat} {lv : zLv} {ls : Array Slot} (h : zLs S0 z mi lv ls) : ls.size = zmx mi := h.2.1.1
theorem zargs {S0 : State} {z : Nat → Nat} : ∀ (as : List Value) (off i : Nat) (v : Value), (zexp as)[i]? = some (some v) → (off + i, zv S0 z v) ∈ lv_args off (as.map (zv S0 z))
  | [], off, i, v, h => by simp [zexp] at h
  | w :: r, off, i, v, h => by
    show _ ∈ (off, zv S0 z w) :: lv_args (if (zv S0 z w).category = 2 then off + 2 else off + 1) (r.map (zv S0 z))
    rw [zv_cat]
    unfold zexp at h
    by_cases hw : w.category = 2
    · rw [if_pos hw] at h
      rw [if_pos hw]
      match i, h with
      | 0, h => cases h; exact List.mem_cons_self
      | 1, h => cases h
      | i + 2, h =>
        refine List.mem_cons_of_mem _ ?_
        have := zargs (S0 := S0) (z := z) r (off + 2) i v (by simpa using h)
        rw [show off + (i + 2) = off + 2 + i by omega]; exact this
    · rw [if_neg hw] at h
      rw [if_neg hw]
      match i, h with
      | 0, h => cases h; exact List.mem_cons_self
      | i + 1, h =>
        refine List.mem_cons_of_mem _ ?_
        have := zargs (S0 := S0) (z := z) r (off + 1) i v (by simpa using h)
        rw [show off + (i + 1) = off + 1 + i by omega]; exact this
theorem zexp_len (S0 : State) (z : Nat → Nat) : ∀ as : List Value, (lg_sl (as.map (zv S0 z))).length = (zexp as).length
  | [] => rfl
  | w :: r => by
    have ih := zexp_len S0 z r
    have e : lg_sl ((w :: r).map (zv S0 z)) = (if (zv S0 z w).category = 2 then [.val (zv S0 z w), .second] else [.val (zv S0 z w)]) ++ lg_sl (r.map (zv S0 z)) := rfl
    rw [e, List.length_append, ih, zv_cat]
    by_cases hw : w.category = 2
    · simp [zexp, hw]; omega
    · simp [zexp, hw]; omega
theorem zexp_cat : ∀ (as : List Value), (∀ v ∈ as, v.category = 1) → ∀ (i : Nat) (v : Value), (zexp as)[i]? = some (some v) → v.category = 1
  | [], _, i, v, h => by simp [zexp] at h
  | w :: r, hc, i, v, h => by
    have hw : w.category = 1 := hc w List.mem_cons_self
    unfold zexp at h
    rw [if_neg (by omega)] at h
    match i, h with
    | 0, h => cases h; exact hw
    | i + 1, h => exact zexp_cat r (fun u hu => hc u (List.mem_cons_of_mem _ hu)) i v (by simpa using h)
theorem zLs.entry {S0 : State} {z : Nat → Nat} {mj : Nat} {as : List Value} (hc : zlg mj = false → ∀ v ∈ as, v.category = 1) (hn : (zexp as).length ≤ zmx mj) (mk : MethodId) :
    ∃ ls : Array Slot, entryFrame mk (as.map (zv S0 z)).toArray (zmx mj) = F0 mk 0 ls [] ∧ zLs S0 z mj (zent mj as) ls := by
  have hl := lv_entry (as.map (zv S0 z)) (n := zmx mj) (by rw [zexp_len]; exact hn)
  have hg : ∀ (i : Nat) (v : Value), (zent mj as)[i]? = some (some v) → (zexp as)[i]? = some (some v) := by
    intro i v hv
    unfold zent at hv
    by_cases hi : i < (zexp as).length
    · rw [List.getElem?_append_left hi] at hv; exact hv
    · rw [List.getElem?_append_right (by omega), List.getElem?_replicate] at hv
      split at hv
      next => cases hv
      next => cases hv
  refine ⟨_, lg_entry_eq mk (as.map (zv S0 z)) (zmx mj), ?_, ⟨hl.1, hl.2.1, fun q hq => ?_⟩, fun h1 i v hv => zexp_cat as (hc h1) i v (hg i v hv)⟩
  · unfold zent
    rw [List.length_append, List.length_replicate]
    omega
  · obtain ⟨v, e1, e2⟩ := zal0_of hq
    have := hl.2.2 _ (zargs (S0 := S0) (z := z) as 0 q.1 v (hg _ _ e1))
    rw [Nat.zero_add] at this
    rw [e2]; exact this
/-! ### the tables and the heap -/
section ZRL
variable {S0 : State} {D : va_G} {z : Nat → Nat} {L : Nat} {h h' : zHp} {H H' : Heap}
theorem zRl.at (hR : zRl S0 D z L h H) {a : Nat} {kd : zKd} (hk : zk L h a = some kd) : ∃ cell : Cell, H[zr S0 z a]? = some cell ∧ zcell S0 D z h a kd cell := by
  unfold zk at hk
  split at hk
  next hl => exact hR.2.2.2.2.1 a kd hl hk
  next => cases hk
theorem zr_big (hR : zRl S0 D z L h H) {a : Nat} (ha : zS ≤ a) : S0.heap.size ≤ zr S0 z a := by
  unfold zr
  rw [if_neg (by omega)]
  omega
theorem zr_ne (hR : zRl S0 D z L h H) {a b : Nat} (ha : zS ≤ a) (hne : b ≠ a) : zr S0 z b ≠ zr S0 z a := by
  unfold zr
  rw [if_neg (show ¬ a < zS by omega)]
  by_cases hb : b < zS
  · rw [if_pos hb]
    have := hR.2.2.2.1 b hb
    omega
  · rw [if_neg hb]
    omega
theorem zcell.congr {a : Nat} {kd : zKd} {cell : Cell} (hv : ∀ (t : FieldType) (j : Nat), zval t h' a j = zval t h a j) (hc : zcell S0 D z h a kd cell) : zcell S0 D z h' a kd cell := by
  rcases kd with ⟨ty, n⟩ | ci
  · obtain ⟨h1, h2, h3, h4, h5⟩ := hc
    exact ⟨h1, h2, h3, fun j hj => by rw [hv]; exact h4 j hj, h5⟩
  · obtain ⟨h1, h2, h3, h4⟩ := hc
    exact ⟨h1, h2, h3, fun k hk => by rw [hv]; exact h4 k hk⟩
theorem zstat_of {x : VmData} (h : ∀ k, x ≠ .statics k) : x.isStatics = false := by
  cases x <;> first | rfl | exact absurd rfl (h _)
theorem zcell.stat {a : Nat} {kd : zKd} {cell : Cell} (hc : zcell S0 D z h a kd cell) : cell.vm.isStatics = false := by
  rcases kd with ⟨ty, n⟩ | ci
  · exact zstat_of hc.2.1.1
  · rw [hc.2.1]; rfl
/-- one cell has changed -/
theorem zRl.set (hR : zRl S0 D z L h H) {a : Nat} {kd : zKd} (ha : zS ≤ a) (hk : zk L h a = some kd) (h1 : h'.1 = h.1) (hv : ∀ b, b ≠ a → ∀ (t : FieldType) (j : Nat), zval t h' b j = zval t h b j)
    {cell : Cell} (hc : H'[zr S0 z a]? = some cell) (hok : zcell S0 D z h' a kd cell) (hsz : H'.size = H.size) (ho : ∀ q, q ≠ zr S0 z a → H'[q]? = H[q]?) : zRl S0 D z L h' H' := by
  have hka : zK L a = some kd := by
    unfold zk at hk
    split at hk
    next => exact hk
    next => cases hk
  refine ⟨by rw [h1]; exact hR.1, by rw [h1, hsz]; exact hR.2.1, fun q hq => ?_, hR.2.2.2.1, fun b kb hb hkb => ?_, fun q cq hq hcq => ?_⟩
  · rw [ho q (fun e => by have := zr_big hR ha; omega)]
    exact hR.2.2.1 q hq
  · by_cases hba : b = a
    · subst hba
      rw [hka] at hkb
      cases hkb
      exact ⟨cell, hc, hok⟩
    · obtain ⟨cb, g1, g2⟩ := hR.2.2.2.2.1 b kb (by rw [← h1]; exact hb) hkb
      exact ⟨cb, by rw [ho _ (zr_ne hR ha hba)]; exact g1, g2.congr (hv b hba)⟩
  · by_cases hqa : q = zr S0 z a
    · subst hqa
      rw [hc] at hcq
      cases hcq
      exact hok.stat
    · rw [ho q hqa] at hcq
      exact hR.2.2.2.2.2 q cq hq hcq
/-- a cell has come -/
theorem zRl.new (hR : zRl S0 D z L h H) (h1 : h'.1 = h.1 + 1) (hv : ∀ b, b < h.1 → ∀ (t : FieldType) (j : Nat), zval t h' b j = zval t h b j)
    {cell : Cell} (hc : H'[H.size]? = some cell) (hstat : cell.vm.isStatics = false) (hok : ∀ kd, zK L h.1 = some kd → zcell S0 D z h' h.1 kd cell) (hsz : H'.size = H.size + 1) (ho : ∀ q, q < H.size → H'[q]? = H[q]?) : zRl S0 D z L h' H' := by
  have hz := hR.1
  have hs := hR.2.1
  refine ⟨by rw [h1]; omega, by rw [h1, hsz, hs]; omega, fun q hq => ?_, hR.2.2.2.1, fun b kb hb hkb => ?_, fun q cq hq hcq => ?_⟩
  · rw [ho q (by omega)]
    exact hR.2.2.1 q hq
  · by_cases hba : b = h.1
    · subst hba
      have e : zr S0 z h.1 = H.size := by
        unfold zr
        rw [if_neg (by omega), hs]
      exact ⟨cell, by rw [e]; exact hc, hok kb hkb⟩
    · obtain ⟨cb, g1, g2⟩ := hR.2.2.2.2.1 b kb (by omega) hkb
      exact ⟨cb, by rw [ho _ (Array.getElem?_eq_some_iff.mp g1).1]; exact g1, g2.congr (hv b (by omega))⟩
  · have hlt := (Array.getElem?_eq_some_iff.mp hcq).1
    by_cases hqa : q = H.size
    · subst hqa
      rw [hc] at hcq
      cases hcq
      exact hstat
    · rw [ho q (by omega)] at hcq
      exact hR.2.2.2.2.2 q cq hq hcq
theorem zr_new (hR : zRl S0 D z L h H) : zr S0 z h.1 = H.size := by
  have hz := hR.1
  unfold zr
  rw [if_neg (by omega), hR.2.1]
theorem zput_facts {ty : FieldType} {a k : Nat} {v : Value} (hp : zput ty h a k v = some h') :
    h'.1 = h.1 ∧ h'.2.1 = h.2.1 ∧ (∀ b, b ≠ a → ∀ (t : FieldType) (j : Nat), zval t h' b j = zval t h b j) ∧ (∀ (t : FieldType) (j : Nat), j ≠ k → zval t h' a j = zval t h a j) ∧ zval ty h' a k = v ∧ narrow ty (zv S0 z v) = zv S0 z v ∧ fits ty (zv S0 z v) = true := by
  unfold zput at hp
  split at hp
  case h_7 =>
    split at hp
    next hx =>
      cases hp
      refine ⟨rfl, rfl, fun b hb t j => ?_, fun t j hj => ?_, ?_, ?_, ?_⟩
      · cases t <;> simp [zval, zu, hb]
      · cases t <;> simp [zval, zu, hj]
      · simp [zval, zu]
      · rcases hx with rfl | rfl <;> rfl
      · rcases hx with rfl | rfl <;> rfl
    next => cases hp
  all_goals first
    | (cases hp
       refine ⟨rfl, rfl, fun b hb t j => ?_, fun t j hj => ?_, ?_, ?_, ?_⟩
       · cases t <;> simp [zval, zu, hb]
       · cases t <;> simp [zval, zu, hj]
       · simp [zval, zu, va_rf]
       · rfl
       · rfl)
    | cases hp
end ZRL
end
section
section ZST
variable {p : Program} {l : Launch} {e : Env} {Rm : Room} {s : State} {m : MethodId} {args : Array Value} {below : List Frame} {meth : Method} {c : Code} {H : Heap} {locs : List Loc} {cells slots : Nat} {Q : State → Prop}
variable {S0 : State} {D : va_G} {z : Nat → Nat} {L mi pc : Nat} {lv : zLv} {st : List Value} {h : zHp} {ls : Array Slot}
/-- at a logical point: from every state that holds it, the machine comes to Q -/
def zG (p : Program) (l : Launch) (e : Env) (Rm : Room) (s : State) (m : MethodId) (args : Array Value) (below : List Frame) (meth : Method) (c : Code) (Q : State → Prop) (S0 : State) (D : va_G) (z : Nat → Nat) (L mi : Nat) (pc : Nat) (lv : zLv) (st : List Value) (h : zHp) (cells slots : Nat) : Prop :=
  ∀ (H : Heap) (locs : List Loc) (ls : Array Slot), zRl S0 D z L h H → zLs S0 z mi lv ls → (∀ q ∈ locs, S0.heap.size ≤ q.base) → W p l e Rm s m args below meth c H locs cells slots Q (F0 m pc ls (st.map (zv S0 z)))
theorem zg_w (kk : zG p l e Rm s m args below meth c Q S0 D z L mi pc lv st h cells slots) (hR : zRl S0 D z L h H) (hl : zLs S0 z mi lv ls) (hq : ∀ q ∈ locs, S0.heap.size ≤ q.base) : W p l e Rm s m args below meth c H locs cells slots Q (F0 m pc ls (st.map (zv S0 z))) := kk H locs ls hR hl hq
theorem zs_const (C : zCx S0 p s m meth c mi) {i : Instr} {len : Nat} {v : Value} (hd : decode (zcd mi) pc = .ok (i, len)) (hlen : zlok i len = true) (hv : zcst i = some v) (kk : zG p l e Rm s m args below meth c Q S0 D z L mi (pc + len) lv (v :: st) h cells slots) : zG p l e Rm s m args below meth c Q S0 D z L mi pc lv st h cells slots := by
  intro H locs ls hR hl hq
  obtain ⟨hx, hb, -⟩ := C
  have k := zg_w kk hR hl hq
  cases i
  case iconst n => cases hv; simp only [zlok, zlen, beq_iff_eq] at hlen; subst hlen; exact lv_iconst hx hb hd rfl k
  case bipush n => cases hv; simp only [zlok, zlen, beq_iff_eq] at hlen; subst hlen; exact lv_bipush hx hb hd rfl k
  case sipush n => cases hv; simp only [zlok, zlen, beq_iff_eq] at hlen; subst hlen; exact lv_sipush hx hb hd rfl k
  case lconst n => cases hv; simp only [zlok, zlen, beq_iff_eq] at hlen; subst hlen; exact lv_lconst hx hb hd rfl k
  all_goals cases hv
theorem zs_bin (C : zCx S0 p s m meth c mi) {i : Instr} {len : Nat} {x y v : Int32} (hd : decode (zcd mi) pc = .ok (i, len)) (hlen : zlok i len = true) (hv : zbin i x y = some v) (kk : zG p l e Rm s m args below meth c Q S0 D z L mi (pc + len) lv (.int v :: st) h cells slots) : zG p l e Rm s m args below meth c Q S0 D z L mi pc lv (.int y :: .int x :: st) h cells slots := by
  intro H locs ls hR hl hq
  obtain ⟨hx, hb, -⟩ := C
  have k := zg_w kk hR hl hq
  cases i <;> simp only [zbin, reduceCtorEq] at hv
  case iadd => cases hv; simp only [zlok, zlen, beq_iff_eq] at hlen; subst hlen; exact lv_iadd hx hb hd k
  case isub => cases hv; simp only [zlok, zlen, beq_iff_eq] at hlen; subst hlen; exact lv_isub hx hb hd k
  case imul => cases hv; simp only [zlok, zlen, beq_iff_eq] at hlen; subst hlen; exact lv_imul hx hb hd k
  case iand => cases hv; simp only [zlok, zlen, beq_iff_eq] at hlen; subst hlen; exact lv_iand hx hb hd k
  case ior => cases hv; simp only [zlok, zlen, beq_iff_eq] at hlen; subst hlen; exact lv_ior hx hb hd k
  case ixor => cases hv; simp only [zlok, zlen, beq_iff_eq] at hlen; subst hlen; exact lv_ixor hx hb hd k
  case ishl => cases hv; simp only [zlok, zlen, beq_iff_eq] at hlen; subst hlen; exact lv_ishl hx hb hd k
  case ishr => cases hv; simp only [zlok, zlen, beq_iff_eq] at hlen; subst hlen; exact lv_ishr hx hb hd k
  case iushr => cases hv; simp only [zlok, zlen, beq_iff_eq] at hlen; subst hlen; exact lv_iushr hx hb hd rfl k
  case idiv =>
    split at hv
    next => cases hv
    next hne => cases hv; simp only [zlok, zlen, beq_iff_eq] at hlen; subst hlen; exact lv_idiv hx hb hd hne k
  case irem =>
    split at hv
    next => cases hv
    next hne => cases hv; simp only [zlok, zlen, beq_iff_eq] at hlen; subst hlen; exact lv_irem hx hb hd hne k
theorem zs_load (C : zCx S0 p s m meth c mi) {i : Instr} {len k b : Nat} {v : Value} (hd : decode (zcd mi) pc = .ok (i, len)) (hlen : zlok i len = true) (hi : zldi i = some (k, b)) (hv : zld lv[k]? b = some v) (kk : zG p l e Rm s m args below meth c Q S0 D z L mi (pc + len) lv (v :: st) h cells slots) : zG p l e Rm s m args below meth c Q S0 D z L mi pc lv st h cells slots := by
  intro H locs ls hR hl hq
  obtain ⟨hx, hb, -⟩ := C
  have kw := zg_w kk hR hl hq
  unfold zld at hv
  split at hv
  next x hlv =>
    cases hv
    have g := hl.get hlv
    cases i
    case iload k' => cases hi; simp only [zlok, zlen, beq_iff_eq] at hlen; subst hlen; exact lv_iload hx hb hd g kw
    case iload_n k' => cases hi; simp only [zlok, zlen, beq_iff_eq] at hlen; subst hlen; exact lv_iload_n hx hb hd rfl g kw
    all_goals cases hi
  next x hlv =>
    cases hv
    have g := hl.get hlv
    cases i
    case aload k' => cases hi; simp only [zlok, zlen, beq_iff_eq] at hlen; subst hlen; exact lv_aload hx hb hd g kw
    case aload_n k' => cases hi; simp only [zlok, zlen, beq_iff_eq] at hlen; subst hlen; exact lv_aload_n hx hb hd rfl g kw
    all_goals cases hi
  next x hlv =>
    cases hv
    have g := hl.get hlv
    cases i
    case lload k' => cases hi; simp only [zlok, zlen, beq_iff_eq] at hlen; subst hlen; exact lv_lload hx hb hd g kw
    case lload_n k' => cases hi; simp only [zlok, zlen, beq_iff_eq] at hlen; subst hlen; exact lv_lload_n hx hb hd rfl g kw
    all_goals cases hi
  next => cases hv
theorem zs_store (C : zCx S0 p s m meth c mi) {i : Instr} {len k : Nat} {b : Bool} {v : Value} (hd : decode (zcd mi) pc = .ok (i, len)) (hlen : zlok i len = true) (hi : zsti i = some (k, b)) (hv : zstv b v = true) (hk : k < lv.length) (hg : zlg mi = false) (kk : zG p l e Rm s m args below meth c Q S0 D z L mi (pc + len) (lv.set k (some v)) st h cells slots) : zG p l e Rm s m args below meth c Q S0 D z L mi pc lv (v :: st) h cells slots := by
  intro H locs ls hR hl hq
  obtain ⟨hx, hb, -⟩ := C
  have hk' : k < zmx mi := by rw [← hl.1]; exact hk
  unfold zstv at hv
  split at hv
  next x =>
    subst hv
    cases i
    case istore k' => cases hi; simp only [zlok, zlen, beq_iff_eq] at hlen; subst hlen; exact lv_istore hx hb hd hl.2.1 hk' rfl (fun ls' h' => zg_w kk hR (hl.store hg rfl h') hq)
    case istore_n k' => cases hi; simp only [zlok, zlen, beq_iff_eq] at hlen; subst hlen; exact lv_istore_n hx hb hd rfl hl.2.1 hk' rfl (fun ls' h' => zg_w kk hR (hl.store hg rfl h') hq)
    all_goals cases hi
  next x =>
    have hbf : b = false := by simpa using hv
    subst hbf
    cases i
    case astore k' => cases hi; simp only [zlok, zlen, beq_iff_eq] at hlen; subst hlen; exact lv_astore hx hb hd hl.2.1 hk' rfl (fun ls' h' => zg_w kk hR (hl.store hg rfl h') hq)
    case astore_n k' => cases hi; simp only [zlok, zlen, beq_iff_eq] at hlen; subst hlen; exact lv_astore_n hx hb hd rfl hl.2.1 hk' rfl (fun ls' h' => zg_w kk hR (hl.store hg rfl h') hq)
    all_goals cases hi
  next => cases hv
theorem zs_iinc (C : zCx S0 p s m meth c mi) {len k : Nat} {n : Int} {x : Int32} (hd : decode (zcd mi) pc = .ok (.iinc k n, len)) (hlen : zlok (.iinc k n) len = true) (hg : zlg mi = false) (hv : lv[k]? = some (some (.int x))) (kk : zG p l e Rm s m args below meth c Q S0 D z L mi (pc + len) (lv.set k (some (.int (x + Int32.ofInt n)))) st h cells slots) : zG p l e Rm s m args below meth c Q S0 D z L mi pc lv st h cells slots := by
  intro H locs ls hR hl hq
  obtain ⟨hx, hb, -⟩ := C
  have hk' : k < zmx mi := by rw [← hl.1]; exact (List.getElem?_eq_some_iff.mp hv).1
  simp only [zlok, zlen, beq_iff_eq] at hlen
  subst hlen
  obtain ⟨j, hj, ej⟩ := List.getElem_of_mem (zal0_mem (S0 := S0) (z := z) hv)
  have hj2 : (zal0 S0 z lv)[j]? = some (k, .int x) := by rw [List.getElem?_eq_getElem hj, ej]; rfl
  exact lv_iinc hx hb hd hl.2.1 hj2 rfl hk' rfl (fun ls' h' => zg_w kk hR (hl.store hg (v := .int (x + Int32.ofInt n)) rfl h') hq)
theorem zs_goto (C : zCx S0 p s m meth c mi) {len : Nat} {off : Int} (hd : decode (zcd mi) pc = .ok (.goto off, len)) (hlen : zlok (.goto off) len = true) (ho : 0 ≤ (pc : Int) + off) (kk : zG p l e Rm s m args below meth c Q S0 D z L mi (zjmp pc off) lv st h cells slots) : zG p l e Rm s m args below meth c Q S0 D z L mi pc lv st h cells slots := by
  intro H locs ls hR hl hq
  obtain ⟨hx, hb, -⟩ := C
  simp only [zlok, zlen, beq_iff_eq] at hlen
  subst hlen
  exact lv_goto (tgt := zjmp pc off) hx hb hd (by unfold zjmp; omega) (zg_w kk hR hl hq)
theorem zs_if (C : zCx S0 p s m meth c mi) {len : Nat} {cd : ClassFile.Cond} {off : Int} {x : Int32} (hd : decode (zcd mi) pc = .ok (.ifCond cd off, len)) (hlen : zlok (.ifCond cd off) len = true) (ho : 0 ≤ (pc : Int) + off)
    (kk : zG p l e Rm s m args below meth c Q S0 D z L mi (if zcmp cd x 0 = true then zjmp pc off else pc + len) lv st h cells slots) : zG p l e Rm s m args below meth c Q S0 D z L mi pc lv (.int x :: st) h cells slots := by
  intro H locs ls hR hl hq
  obtain ⟨hx, hb, -⟩ := C
  simp only [zlok, zlen, beq_iff_eq] at hlen
  subst hlen
  have kw := zg_w kk hR hl hq
  have ht : (pc : Int) + off = (zjmp pc off : Nat) := by unfold zjmp; omega
  cases cd
  · exact lv_if_eq hx hb hd ht (fun q => by simpa [zcmp, q] using kw) (fun q => by simpa [zcmp, q] using kw)
  · exact lv_if_ne hx hb hd ht (fun q => by simpa [zcmp, q] using kw) (fun q => by simpa [zcmp, q] using kw)
  · exact lv_if_lt hx hb hd ht (fun q => by simpa [zcmp, q] using kw) (fun q => by simpa [zcmp, q] using kw)
  · exact lv_if_ge hx hb hd ht (fun q => by simpa [zcmp, q] using kw) (fun q => by simpa [zcmp, q] using kw)
  · exact lv_if_gt hx hb hd ht (fun q => by simpa [zcmp, q] using kw) (fun q => by simpa [zcmp, q] using kw)
  · exact lv_if_le hx hb hd ht (fun q => by simpa [zcmp, q] using kw) (fun q => by simpa [zcmp, q] using kw)
theorem zs_icmp (C : zCx S0 p s m meth c mi) {len : Nat} {cd : ClassFile.Cond} {off : Int} {x y : Int32} (hd : decode (zcd mi) pc = .ok (.if_icmp cd off, len)) (hlen : zlok (.if_icmp cd off) len = true) (ho : 0 ≤ (pc : Int) + off)
    (kk : zG p l e Rm s m args below meth c Q S0 D z L mi (if zcmp cd x y = true then zjmp pc off else pc + len) lv st h cells slots) : zG p l e Rm s m args below meth c Q S0 D z L mi pc lv (.int y :: .int x :: st) h cells slots := by
  intro H locs ls hR hl hq
  obtain ⟨hx, hb, -⟩ := C
  simp only [zlok, zlen, beq_iff_eq] at hlen
  subst hlen
  have kw := zg_w kk hR hl hq
  have ht : (pc : Int) + off = (zjmp pc off : Nat) := by unfold zjmp; omega
  cases cd
  · exact lv_icmp_eq hx hb hd ht (fun q => by simpa [zcmp, q] using kw) (fun q => by simpa [zcmp, q] using kw)
  · exact lv_icmp_ne hx hb hd ht (fun q => by simpa [zcmp, q] using kw) (fun q => by simpa [zcmp, q] using kw)
  · exact lv_icmp_lt hx hb hd ht (fun q => by simpa [zcmp, q] using kw) (fun q => by simpa [zcmp, q] using kw)
  · exact lv_icmp_ge hx hb hd ht (fun q => by simpa [zcmp, q] using kw) (fun q => by simpa [zcmp, q] using kw)
  · exact lv_icmp_gt hx hb hd ht (fun q => by simpa [zcmp, q] using kw) (fun q => by simpa [zcmp, q] using kw)
  · exact lv_icmp_le hx hb hd ht (fun q => by simpa [zcmp, q] using kw) (fun q => by simpa [zcmp, q] using kw)
theorem zs_sw (C : zCx S0 p s m meth c mi) {len : Nat} {d lo hi : Int} {offs : Array Int} {x : Int32} (hd : decode (zcd mi) pc = .ok (.tableswitch d lo hi offs, len)) (hof : ((hi - lo).toNat) < offs.size) (ho : 0 ≤ (pc : Int) + zsw lo hi d offs x.toInt)
    (kk : zG p l e Rm s m args below meth c Q S0 D z L mi (zjmp pc (zsw lo hi d offs x.toInt)) lv st h cells slots) : zG p l e Rm s m args below meth c Q S0 D z L mi pc lv (.int x :: st) h cells slots := by
  intro H locs ls hR hl hq
  obtain ⟨hx, hb, -⟩ := C
  have kw := zg_w kk hR hl hq
  have ht : (pc : Int) + zsw lo hi d offs x.toInt = (zjmp pc (zsw lo hi d offs x.toInt) : Nat) := by unfold zjmp; omega
  by_cases hin : x.toInt < lo ∨ hi < x.toInt
  · have e1 : zsw lo hi d offs x.toInt = d := by simp [zsw, hin]
    rw [e1] at ht kw
    exact lv_tableOut hx hb hd hin ht kw
  · have hlt : (x.toInt - lo).toNat < offs.size := by omega
    have e2 : offs[(x.toInt - lo).toNat]? = some (zsw lo hi d offs x.toInt) := by
      simp [zsw, hin, hlt]
    exact lv_tableIn hx hb hd (fun q => hin (Or.inl q)) (fun q => hin (Or.inr q)) e2 ht kw
theorem zs_stk (C : zCx S0 p s m meth c mi) {i : Instr} {len : Nat} {st' : List Value} (hd : decode (zcd mi) pc = .ok (i, len)) (hlen : zlok i len = true) (hi : zstk i st = some st') (kk : zG p l e Rm s m args below meth c Q S0 D z L mi (pc + len) lv st' h cells slots) : zG p l e Rm s m args below meth c Q S0 D z L mi pc lv st h cells slots := by
  intro H locs ls hR hl hq
  obtain ⟨hx, hb, -⟩ := C
  have kw := zg_w kk hR hl hq
  unfold zstk at hi
  split at hi
  all_goals first
    | (cases hi; done)
    | (cases hi; simp only [zlok, zlen, beq_iff_eq] at hlen; subst hlen; first
        | exact lv_ineg hx hb hd kw
        | exact lv_i2l hx hb hd rfl kw
        | exact lv_l2i hx hb hd rfl kw
        | exact lv_lshr hx hb hd rfl kw
        | exact W.lcmp hx hb hd kw
        | exact lv_dup hx hb hd rfl kw
        | exact lv_dup2_11 hx hb hd rfl rfl kw
        | exact lv_dup_x1 hx hb hd rfl rfl kw
        | exact lv_pop hx hb hd rfl kw)
theorem zCx.ts (F : zFix S0 D z) (C : zCx S0 p s m meth c mi) : ∀ w ∈ zws, w.before args s = true := fun w hw => F.1 w hw args s C.2.2.2.2.2.2.2.1
theorem zs_getf (F : zFix S0 D z) (C : zCx S0 p s m meth c mi) {len k ci f a : Nat} (hd : decode (zcd mi) pc = .ok (.getfield k, len)) (hlen : zlok (.getfield k) len = true) (hf : zfl (zoc mi) k = some (ci, f)) (hk : zk L h a = some (.inr ci)) (hfl : f < zfN ci)
    (kk : zG p l e Rm s m args below meth c Q S0 D z L mi (pc + len) lv (zval (zft ci f) h a f :: st) h cells slots) : zG p l e Rm s m args below meth c Q S0 D z L mi pc lv (.ref a :: st) h cells slots := by
  intro H locs ls hR hl hq
  have hts := zCx.ts (args := args) F C
  obtain ⟨hx, hb, hml, hown, hlocks, hret, hname, hW, hsz, htab, hag, hns⟩ := C
  simp only [zlok, zlen, beq_iff_eq] at hlen
  subst hlen
  have kw := zg_w kk hR hl hq
  obtain ⟨cell, g1, hci, g2, g3, g4⟩ := hR.at hk
  have hK := va_K.moved hW.alike F.2.1
  obtain ⟨hS, hfc, kC, hkC, hkind⟩ := hK.1 ci _ (zcls_at ci hci)
  obtain ⟨cf, kf, fi, fd, hi, hsl⟩ := hS f hfl
  have hlay := u_lays hts (zlay ci hci) hfl
  have hst := (u_facts hfc hkC hlay hi).1
  have hkn : cell.vm ≠ .unknown := by rw [g2]; exact fun q => by cases q
  have hv : cell.slots[fd.slot]? = some (zv S0 z (zval (zft ci f) h a f)) := by rw [hsl]; exact g4 f hfl
  rcases zfl_ok hf with hlk | ⟨host, hlk⟩
  · exact W.getf hx hb hown (hts _ hlk) hi hst g1 hkn hv rfl rfl hd kw
  · exact va_Wgetf hx hb hown (hts _ hlk) hi hst g1 hkn hv rfl rfl hd kw
theorem zs_putf (F : zFix S0 D z) (C : zCx S0 p s m meth c mi) {len k ci f a : Nat} {v : Value} {h' : zHp} (hd : decode (zcd mi) pc = .ok (.putfield k, len)) (hlen : zlok (.putfield k) len = true) (hf : zfl (zoc mi) k = some (ci, f)) (hk : zk L h a = some (.inr ci)) (hfl : f < zfN ci) (ha : zS ≤ a) (hfin : (zfT ci f).2.2.2 = true → zoc mi = ci ∧ (zy mi).name = "<init>") (hp : zput (zft ci f) h a f v = some h')
    (kk : zG p l e Rm s m args below meth c Q S0 D z L mi (pc + len) lv st h' cells slots) : zG p l e Rm s m args below meth c Q S0 D z L mi pc lv (v :: .ref a :: st) h cells slots := by
  intro H locs ls hR hl hq
  have hts := zCx.ts (args := args) F C
  obtain ⟨hx, hb, hml, hown, hlocks, hret, hname, hW, hsz, htab, hag, hns⟩ := C
  simp only [zlok, zlen, beq_iff_eq] at hlen
  subst hlen
  obtain ⟨p1, p2, p3, p4, p5, p6, p7⟩ := zput_facts (S0 := S0) (z := z) hp
  obtain ⟨cell, g1, hci, g2, g3, g4⟩ := hR.at hk
  have hK := va_K.moved hW.alike F.2.1
  have hap := va_apart (own := zcn (zoc mi)) hts (zlay ci hci) (zft ci) (zty_ok ci hci) (znm_ok ci hci) hK (zcls_at ci hci)
  obtain ⟨hS, hfc, kC, hkC, hkind⟩ := hK.1 ci _ (zcls_at ci hci)
  obtain ⟨cf, kf, fi, fd, hi, hsl⟩ := hS f hfl
  have hlay := u_lays hts (zlay ci hci) hfl
  have hst := (u_facts hfc hkC hlay hi).1
  have hkn : cell.vm ≠ .unknown := by rw [g2]; exact fun q => by cases q
  have hfit := u_fits hfc hkC hkind hlay hi (zty_ok ci hci f hfl) p6 p7
  have hlt : fd.slot < cell.slots.size := by rw [hsl]; exact k2_hasslot (g4 f hfl)
  have hfinal : hasFlag fd.accessFlags Acc.final = false ∨ (m.cls = cf ∧ meth.name = "<init>") := by
    have hlay2 := hts _ (zlay ci hci _ (u_in_lay hfl))
    unfold u_lay at hlay2
    by_cases hff : (zfT ci f).2.2.2 = true
    · rw [if_pos hff] at hlay2
      obtain ⟨e1, e2⟩ := hfin hff
      refine Or.inr ⟨?_, by rw [hname]; exact e2⟩
      obtain ⟨_, _, c', _, _, _, -, -, hf', -, -, -, hown2, -⟩ := Cond.laysFinal_spec hlay2
      have e3 : c' = cf := by have := hi.symm.trans hf'; simp at this; exact this.1.symm
      rw [zdecl ci hci f hfl, ← e1] at hown2
      rw [← e3]; exact Option.some.inj (hown.symm.trans hown2)
    · rw [if_neg hff] at hlay2
      exact Or.inl (u_store hfc hkC hkind hlay2 hi (zty_ok ci hci f hfl) p6 p7).1
  have hlt1 : zr S0 z a < H.size := (Array.getElem?_eq_some_iff.mp g1).1
  have hR' : zRl S0 D z L h' (H.setIfInBounds (zr S0 z a) (cell.setSlot fd.slot (zv S0 z v))) := by
    refine hR.set ha hk p1 p3 (cell := cell.setSlot fd.slot (zv S0 z v)) (by simp [Array.getElem?_setIfInBounds, hlt1]) ⟨hci, g2, g3, fun j hj => ?_⟩ (by simp) (fun q hq' => by simp [Array.getElem?_setIfInBounds, Ne.symm hq'])
    have e := t_set g4 hap hfl (zv S0 z v) j hj
    rw [hsl, e]
    by_cases hjf : j = f
    · subst hjf
      simp [updV, p5]
    · simp [updV, hjf, p4 _ j hjf]
  have kw := zg_w (locs := locs ++ [⟨zr S0 z a, fd.slot⟩]) kk hR' hl (fun q hq' => by
    rcases List.mem_append.mp hq' with g | g
    · exact hq q g
    · rw [List.mem_singleton.mp g]; exact zr_big hR ha)
  rcases zfl_ok hf with hlk | ⟨host, hlk⟩
  · exact W.putf hx hb hown (hts _ hlk) hi hst hfinal g1 hkn hlt hfit.1 (by rw [g2, g3]; exact hfit.2) rfl rfl hd kw
  · exact va_Wputf hx hb hown (hts _ hlk) hi hst hfinal g1 hkn hlt hfit.1 (by rw [g2, g3]; exact hfit.2) rfl rfl hd kw
theorem zs_gets (F : zFix S0 D z) (C : zCx S0 p s m meth c mi) {len k a : Nat} (hd : decode (zcd mi) pc = .ok (.getstatic k, len)) (hlen : zlok (.getstatic k) len = true) (hf : zsl (zoc mi) k = some a)
    (kk : zG p l e Rm s m args below meth c Q S0 D z L mi (pc + len) lv (.ref a :: st) h cells slots) : zG p l e Rm s m args below meth c Q S0 D z L mi pc lv st h cells slots := by
  intro H locs ls hR hl hq
  have hts := zCx.ts (args := args) F C
  obtain ⟨hx, hb, hml, hown, hlocks, hret, hname, hW, hsz, htab, hag, hns⟩ := C
  simp only [zlok, zlen, beq_iff_eq] at hlen
  subst hlen
  have kw := zg_w kk hR hl hq
  obtain ⟨haS, C1, n1, d1, hlk, hZ⟩ := F.2.2 _ _ _ hf
  obtain ⟨cf, kf, fi, fd, q, cell, e1, e2, e3, e4, e5, e6, e7, e8⟩ := va_Z.moved hW.alike hZ
  have hqlt : q < S0.heap.size := (Array.getElem?_eq_some_iff.mp e5).1
  have hkn : cell.vm ≠ .unknown := by intro q; rw [q] at e6; cases e6
  have hzr : zr S0 z a = z a := by unfold zr; rw [if_pos haS]
  refine W.gets hx hb hown (hts _ hlk) e1 e2 e3 e4 (by rw [hR.2.2.1 q hqlt]; exact e5) hkn e7 rfl hd ?_
  have kw2 : W p l e Rm s m args below meth c H locs cells slots Q (F0 m (pc + 3) ls (.ref (z a) :: st.map (zv S0 z))) := by
    have : (Value.ref a :: st).map (zv S0 z) = .ref (z a) :: st.map (zv S0 z) := by
      show Value.ref (zr S0 z a) :: _ = _
      rw [hzr]
    rw [← this]; exact kw
  exact kw2
theorem zs_ald (F : zFix S0 D z) (C : zCx S0 p s m meth c mi) {i : Instr} {len a : Nat} {j : Int32} {ty : FieldType → Bool} {v : Value} (hd : decode (zcd mi) pc = .ok (i, len)) (hlen : zlok i len = true) (hi : zaldi i = some ty) (hv : zald L ty h a j = some v)
    (kk : zG p l e Rm s m args below meth c Q S0 D z L mi (pc + len) lv (v :: st) h cells slots) : zG p l e Rm s m args below meth c Q S0 D z L mi pc lv (.int j :: .ref a :: st) h cells slots := by
  intro H locs ls hR hl hq
  obtain ⟨hx, hb, hml, hown, hlocks, hret, hname, hW, hsz, htab, hag, hns⟩ := C
  have kw := zg_w kk hR hl hq
  unfold zald at hv
  split at hv
  next t n hk =>
    split at hv
    next hc =>
      obtain ⟨h1, h2, h3⟩ := hc
      cases hv
      obtain ⟨cell, g1, g2, g3, g4, g5, -⟩ := hR.at hk
      have harr : s.isArrayOf cell t := State.isArrayOf_alike hW.alike g3
      have hin : ¬ (j < 0 ∨ cell.slots.size ≤ j.toNatClampNeg) := by
        have := g4.1
        rintro (q | q)
        · exact absurd h2 (Int32.not_le.mpr q)
        · omega
      have hvv := g5 _ h3
      cases i
      case aaload =>
        cases hi
        simp only [zlok, zlen, beq_iff_eq] at hlen; subst hlen
        cases t <;> simp only [zisR, Bool.false_eq_true] at h1
        · exact W.aald hx hb g1 harr rfl g2 hin hvv rfl rfl hd kw
        · exact W.aald hx hb g1 harr rfl g2 hin hvv rfl rfl hd kw
      case baload =>
        cases hi
        simp only [zlok, zlen, beq_iff_eq] at hlen; subst hlen
        cases t <;> simp only [zisZ, Bool.false_eq_true] at h1
        exact W.zald hx hb g1 harr g2 hin hvv rfl rfl hd kw
      case iaload =>
        cases hi
        simp only [zlok, zlen, beq_iff_eq] at hlen; subst hlen
        cases t <;> simp only [zisI, Bool.false_eq_true] at h1
        exact W.iald hx hb g1 harr g2 hin hvv rfl rfl hd kw
      case laload =>
        cases hi
        simp only [zlok, zlen, beq_iff_eq] at hlen; subst hlen
        cases t <;> simp only [zisL, Bool.false_eq_true] at h1
        exact W.lald hx hb g1 harr g2 hin hvv rfl rfl hd kw
      all_goals cases hi
    next => cases hv
  next => cases hv
theorem zcell.store {h' : zHp} {a n k : Nat} {ty : FieldType} {cell : Cell} {v : Value} (hc : zcell S0 D z h a (.inl (ty, n)) cell) (hk : k < n) (p4 : ∀ (t : FieldType) (j : Nat), j ≠ k → zval t h' a j = zval t h a j) (p5 : zval ty h' a k = v) : zcell S0 D z h' a (.inl (ty, n)) (cell.setSlot k (zv S0 z v)) := by
  obtain ⟨g2, g3, g4, g5, g6⟩ := hc
  refine ⟨g2, g3, by rw [k2_slotsz]; exact g4, fun j hj => ?_, g6⟩
  by_cases hjk : j = k
  · subst hjk
    rw [Cell.slots_setSlot_self _ (Nat.lt_of_lt_of_le hk g4.1), p5]
  · rw [slot_ne _ _ (Ne.symm hjk), g5 j hj, p4 _ j hjk]
theorem zs_ast (F : zFix S0 D z) (C : zCx S0 p s m meth c mi) {i : Instr} {len a : Nat} {j : Int32} {ty : FieldType → Bool} {v : Value} {h' : zHp} (hd : decode (zcd mi) pc = .ok (i, len)) (hlen : zlok i len = true) (hi : zasti i = some ty) (hv : zast L ty h a j v = some h')
    (kk : zG p l e Rm s m args below meth c Q S0 D z L mi (pc + len) lv st h' cells slots) : zG p l e Rm s m args below meth c Q S0 D z L mi pc lv (v :: .int j :: .ref a :: st) h cells slots := by
  intro H locs ls hR hl hq
  obtain ⟨hx, hb, hml, hown, hlocks, hret, hname, hW, hsz, htab, hag, hns⟩ := C
  unfold zast at hv
  split at hv
  next t n hk =>
    split at hv
    next hc =>
      obtain ⟨h1, h2, h3, ha⟩ := hc
      obtain ⟨p1, p2, p3, p4, p5, p6, p7⟩ := zput_facts (S0 := S0) (z := z) hv
      obtain ⟨cell, g1, gc⟩ := hR.at hk
      have gc' := gc
      obtain ⟨g2, g3, g4, g5, -⟩ := gc'
      have harr : s.isArrayOf cell t := State.isArrayOf_alike hW.alike g3
      have hin : ¬ (j < 0 ∨ cell.slots.size ≤ j.toNatClampNeg) := by
        have := g4.1
        rintro (q | q)
        · exact absurd h2 (Int32.not_le.mpr q)
        · omega
      have fin : ∀ H' : Heap, H'[zr S0 z a]? = some (cell.setSlot j.toNatClampNeg (zv S0 z v)) → H'.size = H.size → (∀ q, q ≠ zr S0 z a → H'[q]? = H[q]?) → W p l e Rm s m args below meth c H' (locs ++ [⟨zr S0 z a, j.toNatClampNeg⟩]) cells slots Q (F0 m (pc + len) ls (st.map (zv S0 z))) := fun H' e1 e2 e3 =>
        zg_w kk (hR.set ha hk p1 p3 e1 (gc.store h3 p4 p5) e2 e3) hl (fun q hq' => by
          rcases List.mem_append.mp hq' with g | g
          · exact hq q g
          · rw [List.mem_singleton.mp g]; exact zr_big hR ha)
      cases i
      case bastore =>
        cases hi
        simp only [zlok, zlen, beq_iff_eq] at hlen; subst hlen
        cases t <;> simp only [zisZ, Bool.false_eq_true] at h1
        cases v <;> simp only [zput, reduceCtorEq] at hv
        exact W.zast hx hb g1 harr g2 hin rfl rfl hd (fun H' e1 e2 e3 => fin H' (by rw [e1]; exact congrArg (fun y => some (cell.setSlot j.toNatClampNeg y)) p6) e2 e3)
      case iastore =>
        cases hi
        simp only [zlok, zlen, beq_iff_eq] at hlen; subst hlen
        cases t <;> simp only [zisI, Bool.false_eq_true] at h1
        cases v <;> simp only [zput, reduceCtorEq] at hv
        exact W.iast hx hb g1 harr g2 hin rfl rfl hd fin
      case lastore =>
        cases hi
        simp only [zlok, zlen, beq_iff_eq] at hlen; subst hlen
        cases t <;> simp only [zisL, Bool.false_eq_true] at h1
        cases v <;> simp only [zput, reduceCtorEq] at hv
        exact W.last hx hb g1 harr g2 hin rfl rfl hd fin
      all_goals cases hi
    next => cases hv
  next => cases hv
theorem zs_aast (F : zFix S0 D z) (C : zCx S0 p s m meth c mi) {len a v ci n : Nat} {j : Int32} (hd : decode (zcd mi) pc = .ok (.aastore, len)) (hlen : zlok .aastore len = true) (hkv : zk L h v = some (.inr ci)) (hka : zk L h a = some (.inl (.object (zcn ci), n))) (h2 : 0 ≤ j) (h3 : j.toNatClampNeg < n) (ha : zS ≤ a)
    (kk : zG p l e Rm s m args below meth c Q S0 D z L mi (pc + len) lv st (h.1, h.2.1, h.2.2.1, h.2.2.2.1, zu h.2.2.2.2 a j.toNatClampNeg (some v)) cells slots) : zG p l e Rm s m args below meth c Q S0 D z L mi pc lv (.ref v :: .int j :: .ref a :: st) h cells slots := by
  intro H locs ls hR hl hq
  obtain ⟨hx, hb, hml, hown, hlocks, hret, hname, hW, hsz, htab, hag, hns⟩ := C
  simp only [zlok, zlen, beq_iff_eq] at hlen
  subst hlen
  have hp : zput (.object (zcn ci)) h a j.toNatClampNeg (.ref v) = some (h.1, h.2.1, h.2.2.1, h.2.2.2.1, zu h.2.2.2.2 a j.toNatClampNeg (some v)) := rfl
  obtain ⟨p1, p2, p3, p4, p5, p6, p7⟩ := zput_facts (S0 := S0) (z := z) hp
  obtain ⟨cell, g1, gc⟩ := hR.at hka
  obtain ⟨cv, v1, vci, v2, v3, -⟩ := hR.at hkv
  have gc' := gc
  obtain ⟨g2, g3, g4, g5, g6⟩ := gc'
  obtain ⟨kA, comp, k1, k2, k3⟩ := g6 _ rfl
  have hK := va_K.moved hW.alike F.2.1
  obtain ⟨-, hfc, kC, hkC, hkind⟩ := hK.1 ci _ (zcls_at ci vci)
  obtain ⟨kA', ka1, ka2⟩ := hW.alike.2.2 _ _ k1
  have ecomp : s.vm.findClass (zcn ci) = some comp := by rw [← k3]; exact hW.alike.findClass _ _
  have ec : D.1 ci = comp := Option.some.inj (hfc.symm.trans ecomp)
  refine W.aast hx hb g1 g3.1 g2 ka1 (by rw [ka2]; exact k2) rfl (kcomp := kC) (by rw [← ec]; exact hkC) ⟨Int32.not_lt.mpr h2, Nat.lt_of_lt_of_le h3 g4.1⟩ v1 (by rw [v2]; exact fun q => by intro e; cases e) (kv := kC) (by rw [v3]; exact hkC) (by rw [v3, ec]; exact va_asg _ _) rfl rfl hd (fun H' e1 e2 e3 => ?_)
  exact zg_w kk (hR.set ha hka p1 p3 e1 (gc.store h3 p4 p5) e2 e3) hl (fun q hq' => by
          rcases List.mem_append.mp hq' with g | g
          · exact hq q g
          · rw [List.mem_singleton.mp g]; exact zr_big hR ha)
theorem zs_alen (F : zFix S0 D z) (C : zCx S0 p s m meth c mi) {len a n : Nat} {t : FieldType} (hd : decode (zcd mi) pc = .ok (.arraylength, len)) (hlen : zlok .arraylength len = true) (hk : zk L h a = some (.inl (t, n)))
    (kk : zG p l e Rm s m args below meth c Q S0 D z L mi (pc + len) lv (.int (Int32.ofNat n) :: st) h cells slots) : zG p l e Rm s m args below meth c Q S0 D z L mi pc lv (.ref a :: st) h cells slots := by
  intro H locs ls hR hl hq
  obtain ⟨hx, hb, hml, hown, hlocks, hret, hname, hW, hsz, htab, hag, hns⟩ := C
  simp only [zlok, zlen, beq_iff_eq] at hlen
  subst hlen
  obtain ⟨cell, g1, g2, g3, g4, g5, -⟩ := hR.at hk
  exact W.alen hx hb g1 (State.isArrayOf_alike hW.alike g3) g4.2 rfl rfl hd (zg_w kk hR hl hq)
def zzero (t : FieldType) : Value := match t with
  | .long => .long 0
  | .object _ => .null
  | .array _ => .null
  | _ => .int 0
theorem znew_facts (n : Nat) : (znew h n).1 = h.1 + 1 ∧ (znew h n).2.1 = h.2.1 + n ∧ (∀ b, b < h.1 → ∀ (t : FieldType) (j : Nat), zval t (znew h n) b j = zval t h b j) ∧ ∀ (t : FieldType) (j : Nat), zval t (znew h n) h.1 j = zzero t := by
  refine ⟨rfl, rfl, fun b hb t j => ?_, fun t j => ?_⟩
  · have hne : b ≠ h.1 := by omega
    cases t <;> simp [zval, znew, zc, hne]
  · cases t <;> simp [zval, znew, zc, va_rf, zzero]
theorem zdef (t : FieldType) (ht : zftok t = true) : defaultValue t = zv S0 z (zzero t) := by
  cases t <;> first | rfl | cases ht
theorem zna_ok {t : ArrayType} (h : zna t = true) : Cond.arrayClass (newarray.typeOf t) ∈ zws := by
  cases t <;> first | exact zarr_ok.1.2 | exact zarr_ok.2.1 | exact zarr_ok.2.2 | cases h
theorem zs_new (F : zFix S0 D z) (C : zCx S0 p s m meth c mi) {len k ci : Nat} (hd : decode (zcd mi) pc = .ok (.new k, len)) (hlen : zlok (.new k) len = true) (hf : zcl (zoc mi) k = some (.inl ci)) (hk : zK L h.1 = some (.inr ci)) (hc1 : cells + 1 ≤ Rm.cells) (hc2 : slots + zfN ci ≤ Rm.slots)
    (kk : zG p l e Rm s m args below meth c Q S0 D z L mi (pc + len) lv (.ref h.1 :: st) (znew h (zfN ci)) (cells + 1) (slots + zfN ci)) : zG p l e Rm s m args below meth c Q S0 D z L mi pc lv st h cells slots := by
  intro H locs ls hR hl hq
  have hts := zCx.ts (args := args) F C
  obtain ⟨hx, hb, hml, hown, hlocks, hret, hname, hW, hsz, htab, hag, hns⟩ := C
  simp only [zlok, zlen, beq_iff_eq] at hlen
  subst hlen
  obtain ⟨hci, w1, w2, w3⟩ := zcl_ok hf
  have hK := va_K.moved hW.alike F.2.1
  have hKn := hK.1 ci _ (zcls_at ci hci)
  obtain ⟨n1, n2, n3, n4⟩ := znew_facts (h := h) (zfN ci)
  refine W.newcK hx hb hown (hts _ w1) (hts _ w2) (hts _ w3) rfl hd hc1 hc2 hKn.2.1 rfl (fun H' kC e0 e1 e2 e3 => ?_)
  obtain ⟨cell, b1, b2, b3, b4⟩ := u_born (zft ci) hts (zlay ci hci) hKn e0 e1 (zty_ok ci hci)
  have hR' : zRl S0 D z L (znew h (zfN ci)) H' := by
    refine hR.new n1 n3 (cell := cell) b1 (by rw [b3]; rfl) (fun kd hkd => ?_) e2 e3
    rw [hk] at hkd
    cases hkd
    refine ⟨hci, b3, b2, fun j hj => ?_⟩
    rw [b4 j hj, n4]
    exact congrArg some (zdef _ (zft_ok ci hci j hj))
  have kw := zg_w kk hR' hl hq
  have ez : ((Value.ref h.1 :: st).map (zv S0 z)) = .ref H.size :: st.map (zv S0 z) := by
    show Value.ref (zr S0 z h.1) :: _ = _
    rw [zr_new hR]
  rw [ez] at kw
  exact kw
theorem zs_newa (F : zFix S0 D z) (C : zCx S0 p s m meth c mi) {len : Nat} {t : ArrayType} {n : Int32} (hd : decode (zcd mi) pc = .ok (.newarray t, len)) (hlen : zlok (.newarray t) len = true) (hna : zna t = true) (hn : 0 ≤ n) (hk : zK L h.1 = some (.inl (newarray.typeOf t, n.toNatClampNeg))) (hN : n.toNatClampNeg ≤ 65536) (hc1 : cells + 1 ≤ Rm.cells) (hc2 : slots + n.toNatClampNeg ≤ Rm.slots)
    (kk : zG p l e Rm s m args below meth c Q S0 D z L mi (pc + len) lv (.ref h.1 :: st) (znew h n.toNatClampNeg) (cells + 1) (slots + n.toNatClampNeg)) : zG p l e Rm s m args below meth c Q S0 D z L mi pc lv (.int n :: st) h cells slots := by
  intro H locs ls hR hl hq
  have hts := zCx.ts (args := args) F C
  obtain ⟨hx, hb, hml, hown, hlocks, hret, hname, hW, hsz, htab, hag, hns⟩ := C
  simp only [zlok, zlen, beq_iff_eq] at hlen
  subst hlen
  obtain ⟨n1, n2, n3, n4⟩ := znew_facts (h := h) n.toNatClampNeg
  have hby : n.toNatClampNeg * componentBytes (newarray.typeOf t) ≤ 536870912 := by
    cases t <;> simp only [newarray.typeOf, componentBytes] <;> omega
  refine W.newaK hx hb (hts _ (zna_ok hna)) rfl hd rfl (Int32.not_lt.mpr hn) rfl hby hc1 hc2 rfl (fun H' cA e1 e2 e3 e4 => ?_)
  have hR' : zRl S0 D z L (znew h n.toNatClampNeg) H' := by
    refine hR.new n1 n3 e1 rfl (fun kd hkd => ?_) e2 e3
    rw [hk] at hkd
    cases hkd
    refine ⟨fun q => (by cases q), State.isArrayOf_alike hW.alike.symm (e4 _ _), zsz_of (arrV_size _ _ _), fun j hj => ?_, fun C hC => ?_⟩
    · rw [arrV_read _ _ hj, n4]
      cases t <;> first | rfl | (simp [zna] at hna)
    · cases t <;> simp [newarray.typeOf] at hC
  have kw := zg_w kk hR' hl hq
  have ez : ((Value.ref h.1 :: st).map (zv S0 z)) = .ref H.size :: st.map (zv S0 z) := by
    show Value.ref (zr S0 z h.1) :: _ = _
    rw [zr_new hR]
  rw [ez] at kw
  exact kw
theorem zs_anew (F : zFix S0 D z) (C : zCx S0 p s m meth c mi) {len k : Nat} {A : String} {n : Int32} (hd : decode (zcd mi) pc = .ok (.anewarray k, len)) (hlen : zlok (.anewarray k) len = true) (hal : zal (zoc mi) k = some A) (hn : 0 ≤ n) (hk : zK L h.1 = some (.inl (.object A, n.toNatClampNeg))) (hN : n.toNatClampNeg ≤ 65536) (hc1 : cells + 1 ≤ Rm.cells) (hc2 : slots + n.toNatClampNeg ≤ Rm.slots)
    (kk : zG p l e Rm s m args below meth c Q S0 D z L mi (pc + len) lv (.ref h.1 :: st) (znew h n.toNatClampNeg) (cells + 1) (slots + n.toNatClampNeg)) : zG p l e Rm s m args below meth c Q S0 D z L mi pc lv (.int n :: st) h cells slots := by
  intro H locs ls hR hl hq
  have hts := zCx.ts (args := args) F C
  obtain ⟨hx, hb, hml, hown, hlocks, hret, hname, hW, hsz, htab, hag, hns⟩ := C
  simp only [zlok, zlen, beq_iff_eq] at hlen
  subst hlen
  obtain ⟨n1, n2, n3, n4⟩ := znew_facts (h := h) n.toNatClampNeg
  obtain ⟨w1, w2⟩ := zal_ok hal
  refine W.anew hx hb hown (hts _ w1) (hts _ w2) rfl hd rfl (Int32.not_lt.mpr hn) (by omega) hc1 hc2 (fun cA kA comp q1 q2 q3 q4 => ?_)
  obtain ⟨kA', ka1, ka2⟩ := hW.alike.symm.2.2 _ _ q2
  have hfc : S0.vm.findClass A = some comp := by rw [← q4]; exact hW.alike.symm.findClass _ _
  have hR' : zRl S0 D z L (znew h n.toNatClampNeg) (H.push { cls := cA, slots := Array.replicate n.toNatClampNeg .null, vm := .none }) := by
    refine hR.new n1 n3 (cell := { cls := cA, slots := Array.replicate n.toNatClampNeg .null, vm := .none }) (by simp) rfl (fun kd hkd => ?_) (by simp) (fun q hq' => by rw [Array.getElem?_push, if_neg (Nat.ne_of_lt hq')])
    rw [hk] at hkd
    cases hkd
    refine ⟨fun q => (by cases q), ⟨fun q e => (by cases e), kA', ka1, comp, by rw [ka2]; exact q3⟩, zsz_of (by simp), fun j hj => ?_, fun C2 hC2 => ?_⟩
    · rw [n4]
      simp [hj, zv, zzero]
    · cases hC2
      exact ⟨kA', comp, ka1, by rw [ka2]; exact q3, hfc⟩
  have kw := zg_w kk hR' hl hq
  have ez : ((Value.ref h.1 :: st).map (zv S0 z)) = .ref H.size :: st.map (zv S0 z) := by
    show Value.ref (zr S0 z h.1) :: _ = _
    rw [zr_new hR]
  rw [ez] at kw
  exact kw
theorem zs_obj (F : zFix S0 D z) (C : zCx S0 p s m meth c mi) {len k a : Nat} (hd : decode (zcd mi) pc = .ok (.invokespecial k, len)) (hlen : zlok (.invokespecial k) len = true) (hob : zob (zoc mi) k = true) (hfr : 1 ≤ Rm.frames) (hlo : zcat st + 12 ≤ Rm.locals)
    (kk : zG p l e Rm s m args below meth c Q S0 D z L mi (pc + len) lv st h cells slots) : zG p l e Rm s m args below meth c Q S0 D z L mi pc lv (.ref a :: st) h cells slots := by
  intro H locs ls hR hl hq
  have hts := zCx.ts (args := args) F C
  obtain ⟨hx, hb, hml, hown, hlocks, hret, hname, hW, hsz, htab, hag, hns⟩ := C
  simp only [zlok, zlen, beq_iff_eq] at hlen
  subst hlen
  obtain ⟨w1, w2, w3⟩ := zob_ok hob
  refine W.objInit hx hb hown (hts _ w1) (hts _ w2) (hts _ w3) rfl (by rw [hml]; exact hl.size) rfl hd hfr ?_ (zg_w kk hR hl hq)
  have e : ((st.map (zv S0 z)).map fun v => v.category) = st.map fun v => v.category := by
    rw [List.map_map]; exact List.map_congr_left (fun v _ => zv_cat S0 z v)
  show 2 * 0 + (((st.map (zv S0 z)).map fun v => v.category)).sum + 12 ≤ Rm.locals
  rw [e]
  unfold zcat at hlo
  omega
theorem zs_copy (F : zFix S0 D z) (C : zCx S0 p s m meth c mi) {len k src dst n0 n1 : Nat} {n dp sp : Int32} (hd : decode (zcd mi) pc = .ok (.invokestatic k, len)) (hlen : zlok (.invokestatic k) len = true) (hac : zac (zoc mi) k = true) (hks : zk L h src = some (.inl (.int, n0))) (hkd : zk L h dst = some (.inl (.int, n1)))
    (h1 : 0 ≤ n) (h2 : 0 ≤ dp) (h3 : 0 ≤ sp) (h4 : sp.toNatClampNeg + n.toNatClampNeg ≤ n0) (h5 : dp.toNatClampNeg + n.toNatClampNeg ≤ n1) (ha : zS ≤ dst) (hfr : 1 ≤ Rm.frames) (hlo : zcat st + 18 ≤ Rm.locals)
    (kk : zG p l e Rm s m args below meth c Q S0 D z L mi (pc + len) lv st (h.1, h.2.1, (fun b j => if b = dst then va_cpy (h.2.2.1 src) (h.2.2.1 dst) sp.toNatClampNeg dp.toNatClampNeg n.toNatClampNeg j else h.2.2.1 b j), h.2.2.2.1, h.2.2.2.2) cells slots) : zG p l e Rm s m args below meth c Q S0 D z L mi pc lv (.int n :: .int dp :: .ref dst :: .int sp :: .ref src :: st) h cells slots := by
  intro H locs ls hR hl hq
  have hts := zCx.ts (args := args) F C
  obtain ⟨hx, hb, hml, hown, hlocks, hret, hname, hW, hsz, htab, hag, hns⟩ := C
  simp only [zlok, zlen, beq_iff_eq] at hlen
  subst hlen
  obtain ⟨w1, w2, w3, w4⟩ := zac_ok hac
  obtain ⟨cs, s1, s2, s3, s4, s5, -⟩ := hR.at hks
  obtain ⟨cd, d1, dc⟩ := hR.at hkd
  have dc' := dc
  obtain ⟨d2, d3, d4, d5, -⟩ := dc'
  obtain ⟨-, ks, ks1, sComp, ks2⟩ := State.isArrayOf_alike hW.alike s3
  obtain ⟨-, kd, kd1, dComp, kd2⟩ := State.isArrayOf_alike hW.alike d3
  have nn : ∀ y : Int32, 0 ≤ y → y.toInt = (y.toNatClampNeg : Int) := fun y hy => (toNatClampNeg_of_not_neg32 y (Int32.not_lt.mpr hy)).symm
  intro T hT X
  have e : ((st.map (zv S0 z)).map fun v => v.category) = st.map fun v => v.category := by
    rw [List.map_map]; exact List.map_congr_left (fun v _ => zv_cat S0 z v)
  have hget : ∀ i, i < n.toNatClampNeg → cs.slots.getD (sp.toNatClampNeg + i) .null = .int (h.2.2.1 src (sp.toNatClampNeg + i)) := fun i hi => by
    rw [Array.getD_eq_getD_getElem?, s5 _ (by omega)]; rfl
  obtain ⟨vm', X', step⟩ := X.arraycopy hx hown (hts _ w1) (hts _ w2) (hts _ w3) (hts _ w4) (src := zr S0 z src) (dst := zr S0 z dst) (cs := cs) (cd := cd) (srcPos := sp) (destPos := dp) (n := n) (by rw [hT]; exact s1) (by rw [hT]; exact d1)
    s3.1 d3.1 s2 d2 ks1 kd1 ks2 kd2 (by decide) (Int32.not_lt.mpr h3) (Int32.not_lt.mpr h2) (Int32.not_lt.mpr h1)
    (by have := s4.1; rw [nn sp h3, nn n h1]; omega) (by have := d4.1; rw [nn dp h2, nn n h1]; omega)
    (fun vm₁ _ i hi => by rw [hget i hi]; exact ⟨rfl, trivial⟩)
    (g := F0 m pc ls (.int n :: .int dp :: .ref (zr S0 z dst) :: .int sp :: .ref (zr S0 z src) :: st.map (zv S0 z))) rfl (by rw [hml]; exact hl.size) (rest := st.map (zv S0 z)) rfl (by rw [hb]; exact hd) hfr (by
      show 2 * 0 + (((st.map (zv S0 z)).map fun v => v.category)).sum + (7 + 11) ≤ Rm.locals
      rw [e]; unfold zcat at hlo; omega)
  have hlt : zr S0 z dst < H.size := (Array.getElem?_eq_some_iff.mp d1).1
  have hheap : ((T.setVm vm').setCell (zr S0 z dst) (copied cs cd sp dp n)).heap = H.setIfInBounds (zr S0 z dst) (copied cs cd sp dp n) := by rw [← hT]; rfl
  have hF := Cell.storeRun_facts cd dp.toNatClampNeg (cs.stretch sp.toNatClampNeg n.toNatClampNeg)
  have hR' : zRl S0 D z L (h.1, h.2.1, (fun b j => if b = dst then va_cpy (h.2.2.1 src) (h.2.2.1 dst) sp.toNatClampNeg dp.toNatClampNeg n.toNatClampNeg j else h.2.2.1 b j), h.2.2.2.1, h.2.2.2.2) (H.setIfInBounds (zr S0 z dst) (copied cs cd sp dp n)) := by
    refine hR.set ha hkd rfl (fun b hb' t j => ?_) (cell := copied cs cd sp dp n) (by simp [Array.getElem?_setIfInBounds, hlt]) ?_ (by simp) (fun q hq' => by simp [Array.getElem?_setIfInBounds, Ne.symm hq'])
    · cases t <;> simp [zval, hb']
    · refine ⟨by show (cd.storeRun _ _).vm ≠ _; rw [hF.2.1]; exact d2, ⟨by show ∀ k, (cd.storeRun _ _).vm ≠ _; rw [hF.2.1]; exact d3.1, by show ∃ k, S0.vm.classes[(cd.storeRun _ _).cls]? = _ ∧ _; rw [hF.1]; exact d3.2⟩, by show zsz (cd.storeRun _ _).slots.size _; rw [hF.2.2.1]; exact d4, fun j hj => ?_, fun C2 hC2 => by cases hC2⟩
      show (cd.storeRun dp.toNatClampNeg (cs.stretch sp.toNatClampNeg n.toNatClampNeg)).slots[j]? = _
      rw [Cell.storeRun_get cd _ _ j (by rw [Cell.stretch_length]; exact Nat.le_trans h5 d4.1), Cell.stretch_length]
      by_cases hin : dp.toNatClampNeg ≤ j ∧ j < dp.toNatClampNeg + n.toNatClampNeg
      · rw [if_pos hin]
        have e1 : (cs.stretch sp.toNatClampNeg n.toNatClampNeg)[j - dp.toNatClampNeg]? = some (.int (h.2.2.1 src (sp.toNatClampNeg + (j - dp.toNatClampNeg)))) := by
          unfold Cell.stretch
          rw [List.getElem?_map, List.getElem?_range (by omega)]
          show some (cs.slots.getD _ _) = _
          rw [hget _ (by omega)]
        rw [e1]
        simp [zval, va_cpy, hin, zv]
      · rw [if_neg hin, d5 j hj]
        simp [zval, va_cpy, hin, zv]
  obtain ⟨t, a1, b1⟩ := zg_w kk hR' hl (locs := locs ++ (cs.stretch sp.toNatClampNeg n.toNatClampNeg).zipIdx.map fun q => ⟨zr S0 z dst, dp.toNatClampNeg + q.2⟩) (fun q hq' => by
    rcases List.mem_append.mp hq' with g | g
    · exact hq q g
    · obtain ⟨y, -, hy⟩ := List.mem_map.mp g
      rw [← hy]; exact zr_big hR ha) _ hheap X'
  exact ⟨t, step t a1, b1⟩
end ZST
end
section
section ZST2
variable {p : Program} {l : Launch} {e : Env} {Rm : Room} {s : State} {m : MethodId} {args : Array Value} {below : List Frame} {meth : Method} {c : Code} {H : Heap} {locs : List Loc} {cells slots : Nat} {Q : State → Prop}
variable {S0 : State} {D : va_G} {z : Nat → Nat} {L mi pc : Nat} {lv : zLv} {st : List Value} {h : zHp} {ls : Array Slot}
theorem zs_ldc (F : zFix S0 D z) (C : zCx S0 p s m meth c mi) {len k : Nat} {v : Int32} (hd : decode (zcd mi) pc = .ok (.ldc k, len)) (hlen : zlok (.ldc k) len = true) (hf : zkl (zoc mi) k = some v)
    (kk : zG p l e Rm s m args below meth c Q S0 D z L mi (pc + len) lv (.int v :: st) h cells slots) : zG p l e Rm s m args below meth c Q S0 D z L mi pc lv st h cells slots := by
  intro H locs ls hR hl hq
  have hts := zCx.ts (args := args) F C
  obtain ⟨hx, hb, hml, hown, hrest⟩ := C
  simp only [zlok, zlen, beq_iff_eq] at hlen
  subst hlen
  exact lv_ldc hx hb hown (hts _ (zkl_ok hf)) hd (zg_w kk hR hl hq)
theorem zs_ldc2 (F : zFix S0 D z) (C : zCx S0 p s m meth c mi) {len k : Nat} {v : Int64} (hd : decode (zcd mi) pc = .ok (.ldc2_w k, len)) (hlen : zlok (.ldc2_w k) len = true) (hf : zkL (zoc mi) k = some v)
    (kk : zG p l e Rm s m args below meth c Q S0 D z L mi (pc + len) lv (.long v :: st) h cells slots) : zG p l e Rm s m args below meth c Q S0 D z L mi pc lv st h cells slots := by
  intro H locs ls hR hl hq
  have hts := zCx.ts (args := args) F C
  obtain ⟨hx, hb, hml, hown, hrest⟩ := C
  simp only [zlok, zlen, beq_iff_eq] at hlen
  subst hlen
  exact lv_ldc2 hx hb hown (hts _ (zkL_ok hf)) hd (zg_w kk hR hl hq)
theorem zcat_map : ((st.map (zv S0 z)).map fun v => v.category).sum = zcat st := by
  unfold zcat
  rw [List.map_map]
  exact congrArg List.sum (List.map_congr_left (fun v _ => zv_cat S0 z v))
theorem zs_min (F : zFix S0 D z) (C : zCx S0 p s m meth c mi) {len k : Nat} {x y : Int32} (hd : decode (zcd mi) pc = .ok (.invokestatic k, len)) (hlen : zlok (.invokestatic k) len = true) (hmn : zmn (zoc mi) k = true) (hfr : 1 ≤ Rm.frames) (hlo : zcat st + 13 ≤ Rm.locals) (hc : cells ≤ Rm.cells) (hs : slots ≤ Rm.slots)
    (kk : zG p l e Rm s m args below meth c Q S0 D z L mi (pc + len) lv (.int (if y < x then y else x) :: st) h cells slots) : zG p l e Rm s m args below meth c Q S0 D z L mi pc lv (.int y :: .int x :: st) h cells slots := by
  intro H locs ls hR hl hq
  have hts := zCx.ts (args := args) F C
  obtain ⟨hx, hb, hml, hown, hrest⟩ := C
  simp only [zlok, zlen, beq_iff_eq] at hlen
  subst hlen
  obtain ⟨w1, w2, w3, w4⟩ := zmn_ok hmn
  exact va_mmin hx hb (by rw [hml]; exact hl.size.symm) hown (hts _ w1) (hts _ w2) (hts _ w3) (hts _ w4) hfr (by rw [zcat_map]; exact hlo) hc hs hd (zg_w kk hR hl hq)
theorem zrows_facts (N M : Nat) : (∀ b, b < h.1 → ∀ (t : FieldType) (j : Nat), zval t (zrows h N M) b j = zval t h b j) ∧ (∀ j, zval (.array .int) (zrows h N M) h.1 j = va_rf (if j < N then some (h.1 + 1 + j) else none)) ∧
    ∀ i, i < N → ∀ j, zval .int (zrows h N M) (h.1 + 1 + i) j = .int 0 := by
  refine ⟨fun b hb t j => ?_, fun j => ?_, fun i hi j => ?_⟩
  · have h1 : ¬ (h.1 ≤ b ∧ b ≤ h.1 + N) := by omega
    have h2 : b ≠ h.1 := by omega
    cases t <;> simp [zval, zrows, h1, h2]
  · simp [zval, zrows]
  · have h1 : h.1 ≤ h.1 + 1 + i ∧ h.1 + 1 + i ≤ h.1 + N := by omega
    simp [zval, zrows, h1]
theorem zr_add (hR : zRl S0 D z L h H) (k : Nat) : zr S0 z (h.1 + k) = H.size + k := by
  have hz := hR.1
  unfold zr
  rw [if_neg (by omega), hR.2.1]
  omega
theorem zs_multi (F : zFix S0 D z) (C : zCx S0 p s m meth c mi) {len k : Nat} {n w : Int32} (hd : decode (zcd mi) pc = .ok (.multianewarray k 2, len)) (hlen : zlok (.multianewarray k 2) len = true) (hmu : zmu (zoc mi) k = true) (hn : 0 ≤ n) (hw : 0 ≤ w)
    (hk : zK L h.1 = some (.inl (.array .int, n.toNatClampNeg))) (hki : ∀ i, i < n.toNatClampNeg → zK L (h.1 + 1 + i) = some (.inl (.int, w.toNatClampNeg))) (hN : n.toNatClampNeg ≤ 65536) (hM : w.toNatClampNeg ≤ 65536)
    (hc1 : cells + (1 + n.toNatClampNeg) ≤ Rm.cells) (hc2 : slots + (n.toNatClampNeg + n.toNatClampNeg * w.toNatClampNeg) ≤ Rm.slots)
    (kk : zG p l e Rm s m args below meth c Q S0 D z L mi (pc + len) lv (.ref h.1 :: st) (zrows h n.toNatClampNeg w.toNatClampNeg) (cells + 1 + n.toNatClampNeg) (slots + n.toNatClampNeg + n.toNatClampNeg * w.toNatClampNeg)) : zG p l e Rm s m args below meth c Q S0 D z L mi pc lv (.int w :: .int n :: st) h cells slots := by
  intro H locs ls hR hl hq
  have hts := zCx.ts (args := args) F C
  obtain ⟨hx, hb, hml, hown, hlocks, hret, hname, hW, hrest⟩ := C
  simp only [zlok, zlen, beq_iff_eq] at hlen
  subst hlen
  intro T hT X
  obtain ⟨vm₁, cA, comp, -, f1, f2, X', step⟩ := X.multianewarray2 hx hown (ty := .int) (hts _ (zmu_ok hmu)) (hts _ zarr_ok.1.1) (hts _ zarr_ok.1.2) (g := F0 m pc ls (.int w :: .int n :: st.map (zv S0 z))) rfl (by rw [hb]; exact hd) (n := n) (k := w) (rest := st.map (zv S0 z)) rfl
    (Int32.not_lt.mpr hn) (Int32.not_lt.mpr hw) (by omega) (by show _ * 4 ≤ _; omega) (by omega) rfl rfl hc1 hc2
  obtain ⟨comp2, cA2, kA, a1, a2, a3, a4, a5⟩ := arrayOverA_spec (hts _ zarr_ok.1.1)
  obtain ⟨comp3, kC, cc, b1, b2, b3⟩ := Cond.arrayClass_spec (hts _ zarr_ok.1.2)
  cases Option.some.inj (f1.symm.trans a5)
  cases Option.some.inj (f2.symm.trans b1)
  obtain ⟨kA', ka1, ka2⟩ := hW.alike.symm.2.2 _ _ a3
  obtain ⟨kC', kc1, kc2⟩ := hW.alike.symm.2.2 _ _ b2
  obtain ⟨g1, g2, g3, g4⟩ := Jvm.Free.Multi.fill_facts (T.setVm vm₁) cA comp n.toNatClampNeg w.toNatClampNeg (defaultValue .int) n.toNatClampNeg
  have hTs : (T.setVm vm₁).heap = H := hT
  have hold : ∀ q, q < H.size → (Jvm.Free.Multi.fill (T.setVm vm₁) cA comp n.toNatClampNeg w.toNatClampNeg (defaultValue .int) n.toNatClampNeg).heap[q]? = H[q]? := fun q hq' => by
    have := Jvm.Free.Multi.fill_old (T.setVm vm₁) cA comp n.toNatClampNeg w.toNatClampNeg (defaultValue .int) (a := q) (by rw [hTs]; exact hq') n.toNatClampNeg
    rw [this, hTs]
  have hin : ∀ i, i < n.toNatClampNeg → (Jvm.Free.Multi.fill (T.setVm vm₁) cA comp n.toNatClampNeg w.toNatClampNeg (defaultValue .int) n.toNatClampNeg).heap[H.size + 1 + i]? = some (Jvm.Free.Multi.innerC comp w.toNatClampNeg (defaultValue .int)) := fun i hi => by
    have := Jvm.Free.Multi.fill_inner (T.setVm vm₁) cA comp n.toNatClampNeg w.toNatClampNeg (defaultValue .int) n.toNatClampNeg i hi
    rw [hTs] at this
    exact this
  rw [hTs] at g1 g2
  obtain ⟨o1, o2, o3⟩ := Jvm.Free.Multi.outerC_facts cA n.toNatClampNeg H.size n.toNatClampNeg
  have ho := Jvm.Free.Multi.outerC_slot cA n.toNatClampNeg H.size n.toNatClampNeg
  obtain ⟨z1, z2, z3⟩ := zrows_facts (h := h) n.toNatClampNeg w.toNatClampNeg
  have hz := hR.1
  have hs := hR.2.1
  have hR' : zRl S0 D z L (zrows h n.toNatClampNeg w.toNatClampNeg) (Jvm.Free.Multi.fill (T.setVm vm₁) cA comp n.toNatClampNeg w.toNatClampNeg (defaultValue .int) n.toNatClampNeg).heap := by
    refine ⟨by show zS ≤ h.1 + 1 + _; omega, by rw [g1, hs]; show _ = _ + (h.1 + 1 + n.toNatClampNeg - zS); omega, fun q hq' => ?_, hR.2.2.2.1, fun b kb hb' hkb => ?_, fun q cq hq' hcq => ?_⟩
    · rw [hold q (by omega)]; exact hR.2.2.1 q hq'
    · have hb2 : b < h.1 + 1 + n.toNatClampNeg := hb'
      by_cases hb1 : b < h.1
      · obtain ⟨cb, q1, q2⟩ := hR.2.2.2.2.1 b kb hb1 hkb
        exact ⟨cb, by rw [hold _ (Array.getElem?_eq_some_iff.mp q1).1]; exact q1, q2.congr (z1 b hb1)⟩
      · by_cases hb3 : b = h.1
        · subst hb3
          rw [hk] at hkb
          cases hkb
          refine ⟨Jvm.Free.Multi.outerC cA n.toNatClampNeg H.size n.toNatClampNeg, by rw [zr_new hR]; exact g2, ?_⟩
          refine ⟨(by rw [o2]; exact fun q => by cases q), ⟨fun q e => (by rw [o2] at e; cases e), kA', by rw [o1]; exact ka1, comp2, by rw [ka2]; exact a4⟩, zsz_of o3, fun j hj => ?_, fun C2 hC2 => by cases hC2⟩
          rw [ho j hj, z2 j, if_pos hj, if_pos hj]
          show some (Value.ref _) = some (Value.ref (zr S0 z (h.1 + 1 + j)))
          rw [show h.1 + 1 + j = h.1 + (1 + j) by omega, zr_add hR, Nat.add_assoc]
        · obtain ⟨i, rfl⟩ : ∃ i, b = h.1 + 1 + i := ⟨b - h.1 - 1, by omega⟩
          have hi : i < n.toNatClampNeg := by omega
          rw [hki i hi] at hkb
          cases hkb
          refine ⟨Jvm.Free.Multi.innerC comp w.toNatClampNeg (defaultValue .int), by rw [show h.1 + 1 + i = h.1 + (1 + i) by omega, zr_add hR, ← Nat.add_assoc]; exact hin i hi, ?_⟩
          refine ⟨(fun q => by cases q), ⟨fun q e => (by cases e), kC', kc1, cc, by rw [kc2]; exact b3⟩, zsz_of (by simp [Jvm.Free.Multi.innerC]), fun j hj => ?_, fun C2 hC2 => by cases hC2⟩
          rw [z3 i hi j]
          simp [Jvm.Free.Multi.innerC, hj, zv, defaultValue]
    · have hlt := (Array.getElem?_eq_some_iff.mp hcq).1
      rw [g1] at hlt
      by_cases h1 : q < H.size
      · rw [hold q h1] at hcq
        exact hR.2.2.2.2.2 q cq hq' hcq
      · by_cases h2 : q = H.size
        · subst h2
          rw [g2] at hcq
          cases hcq
          rw [o2]; rfl
        · obtain ⟨i, rfl⟩ : ∃ i, q = H.size + 1 + i := ⟨q - H.size - 1, by omega⟩
          rw [hin i (by omega)] at hcq
          cases hcq
          rfl
  have hTsz : T.heap.size = H.size := by rw [hT]
  obtain ⟨t, e1, e2⟩ := zg_w kk hR' hl (locs := locs ++ (List.range n.toNatClampNeg).map fun j => ⟨T.heap.size, j⟩) (fun q hq' => by
    rcases List.mem_append.mp hq' with g | g
    · exact hq q g
    · obtain ⟨y, -, hy⟩ := List.mem_map.mp g
      rw [← hy]
      show S0.heap.size ≤ T.heap.size
      rw [hTsz, hs]; omega) _ rfl X'
  refine ⟨t, step t ?_, e2⟩
  have ez : ((Value.ref h.1 :: st).map (zv S0 z)) = .ref T.heap.size :: st.map (zv S0 z) := by
    show Value.ref (zr S0 z h.1) :: _ = _
    rw [zr_new hR, hTsz]
  rw [ez] at e1
  exact e1
end ZST2
end
section
/-! CALLS, RETURNS, THROWS -/
section ZCL
variable {p : Program} {l : Launch} {e : Env} {Rm : Room} {s : State} {m : MethodId} {args : Array Value} {below : List Frame} {meth : Method} {c : Code} {H : Heap} {locs : List Loc} {cells slots : Nat} {Q : State → Prop}
variable {S0 : State} {D : va_G} {z : Nat → Nat} {L mi pc : Nat} {lv : zLv} {st : List Value} {h : zHp} {ls : Array Slot}
theorem zweaken {tb : Tables} {mid below : List Frame} {a b : State} (h : Steps tb e (mid ++ below) a b) : Steps tb e below a b := by
  obtain ⟨n, hn, w⟩ := h
  refine ⟨n, hn, fun k hk => ?_⟩
  obtain ⟨above, h1, h2, h3⟩ := w k hk
  refine ⟨above ++ mid, by rw [h1, List.append_assoc], by simp [h2], fun x hx => ?_⟩
  match above, h2, h3, hx with
  | [], h2, _, _ => exact h2 rfl
  | [y], _, h3, hx =>
    simp only [List.cons_append, List.nil_append, List.cons.injEq] at hx
    exact h3 x (by rw [hx.1])
  | y :: y2 :: r, _, _, hx => simp at hx
/-- how a run of a method ends in the machine -/
def zEnd (S0 : State) (D : va_G) (z : Nat → Nat) (L : Nat) (s : State) (below : List Frame) (o : zOut) (h' : zHp) (cells slots : Nat) : State → Prop := fun t =>
  ∃ oc : Outcome, t.status = .running ∧ Ended t below oc ∧ s.WarmedH t.vm ∧ zRl S0 D z L h' t.heap ∧ (∃ Lc : List Loc, s.sameButNew ({ t with vm := s.vm } : State) Lc cells slots ∧ ∀ q ∈ Lc, S0.heap.size ≤ q.base) ∧
    (match o with
      | .inl v => oc = .returned (v.map (zv S0 z))
      | .inr x => oc = .threw (zr S0 z x.2) ∧ ∃ cell : Cell, t.heap[zr S0 z x.2]? = some cell ∧ cell.vm = .none ∧ S0.vm.findClass (zxn x.1) = some cell.cls)
theorem zw_mono {Q' : State → Prop} {g : JFrame} (hq : ∀ t, Q t → Q' t) (w : W p l e Rm s m args below meth c H locs cells slots Q g) : W p l e Rm s m args below meth c H locs cells slots Q' g := by
  intro T hT X
  obtain ⟨t, a, b⟩ := w T hT X
  exact ⟨t, a, hq t b⟩
theorem zs_end {v : Option Value} (hR : zRl S0 D z L h H) : ∀ t, MQ below (fun _ _ o t => o = .returned (v.map (zv S0 z)) ∧ t.heap = H) args s cells slots (fun q => S0.heap.size ≤ q) t → zEnd S0 D z L s below (.inl v) h cells slots t := by
  rintro t ⟨o, h1, h2, ⟨h3, h4⟩, Lc, ⟨-, h5, h6⟩, h7⟩
  exact ⟨o, h1, h2, h5, by rw [h4]; exact hR, ⟨Lc, h6, h7⟩, h3⟩
theorem zs_iret (C : zCx S0 p s m meth c mi) {len : Nat} {v : Int32} (hd : decode (zcd mi) pc = .ok (.ireturn, len)) (hlen : zlok .ireturn len = true) (hr : zrt mi = some .int ∨ (zrt mi = some .boolean ∧ (v = 0 ∨ v = 1))) :
    zG p l e Rm s m args below meth c (zEnd S0 D z L s below (.inl (some (.int v))) h cells slots) S0 D z L mi pc lv [.int v] h cells slots := by
  intro H locs ls hR hl hq
  obtain ⟨hx, hb, hml, hown, hlocks, hret, hrest⟩ := C
  simp only [zlok, zlen, beq_iff_eq] at hlen
  subst hlen
  refine zw_mono (zs_end (v := some (.int v)) (args := args) hR) ?_
  rcases hr with hr | ⟨hr, hv⟩
  · exact W.iret hx hb (by rw [hret]; exact hr) (fun t ht _ => ⟨rfl, ht⟩) hq hd hlocks
  · exact W.zret (ty := .boolean) hx hb (by rw [hret]; exact hr) (by rcases hv with rfl | rfl <;> rfl) (fun t ht _ => ⟨rfl, ht⟩) hq hd hlocks
theorem zs_aret (C : zCx S0 p s m meth c mi) {len a : Nat} {rt : FieldType} (hd : decode (zcd mi) pc = .ok (.areturn, len)) (hlen : zlok .areturn len = true) (hr : zrt mi = some rt) (hrt : (∃ n, rt = .object n) ∨ ∃ t, rt = .array t) :
    zG p l e Rm s m args below meth c (zEnd S0 D z L s below (.inl (some (.ref a))) h cells slots) S0 D z L mi pc lv [.ref a] h cells slots := by
  intro H locs ls hR hl hq
  obtain ⟨hx, hb, hml, hown, hlocks, hret, hrest⟩ := C
  simp only [zlok, zlen, beq_iff_eq] at hlen
  subst hlen
  refine zw_mono (zs_end (v := some (.ref a)) (args := args) hR) ?_
  exact W.aret hx hb (by rw [hret]; exact hr) hrt (Or.inr ⟨_, rfl⟩) (fun t ht _ => ⟨rfl, ht⟩) hq hd hlocks
theorem zs_vret (C : zCx S0 p s m meth c mi) {len : Nat} (hd : decode (zcd mi) pc = .ok (.return_, len)) (hlen : zlok .return_ len = true) (hr : zrt mi = none) :
    zG p l e Rm s m args below meth c (zEnd S0 D z L s below (.inl none) h cells slots) S0 D z L mi pc lv [] h cells slots := by
  intro H locs ls hR hl hq
  obtain ⟨hx, hb, hml, hown, hlocks, hret, hrest⟩ := C
  simp only [zlok, zlen, beq_iff_eq] at hlen
  subst hlen
  refine zw_mono (zs_end (v := none) (args := args) hR) ?_
  exact W.vret hx hb (by rw [hret]; exact hr) (fun t ht _ => ⟨rfl, ht⟩) hq hd hlocks
/-- INTO THE CALLEE AND OUT OF IT -/
theorem zcore {T : State} (hR : zRl S0 D z L h T.heap) (X : Stand p l e Rm s m args below meth c T locs cells slots) (hq : ∀ q ∈ locs, S0.heap.size ≤ q.base) {g : JFrame} (hg : g.method = m) (hgs : g.locals.size = c.maxLocals) {ig : Instr} {len : Nat} (hdg : decode c.code g.pc = .ok (ig, len)) (hgw : 2 * g.monitorRoom + (g.stack.map fun v => v.category).sum ≤ 8)
    {mj : Nat} {mk : MethodId} {methk : Method} {ck : Code} {as : List Value} (hmk : T.vm.method? mk = some methk) (hck : methk.code = some ck) (hlk : methk.locks = false) (hmx : ck.maxLocals = zmx mj) (hpk : T.plainMethod mk) (hac : zlg mj = false → ∀ v ∈ as, v.category = 1) (hal : (zexp as).length ≤ zmx mj)
    (Ck : zCx S0 p (T.calling g mk (as.map (zv S0 z)).toArray) mk methk ck mj) {o : zOut} {h1 : zHp} (hcells : cells + (h1.1 - h.1) ≤ Rm.cells) (hslots : slots + (h1.2.1 - h.2.1) ≤ Rm.slots) (hfr : zrk mj + 1 ≤ Rm.frames) (hlo : 8 + (zmx mj + 11) + zlo mj ≤ Rm.locals)
    (ih : ∀ (R' : Room) (s' : State) (m' : MethodId) (args' : Array Value) (below' : List Frame) (meth' : Method) (c' : Code), zCx S0 p s' m' meth' c' mj → R'.frames = zrk mj → R'.locals = zlo mj → R'.cells = h1.1 - h.1 → R'.slots = h1.2.1 - h.2.1 →
      zG p l e R' s' m' args' below' meth' c' (zEnd S0 D z L s' below' o h1 (h1.1 - h.1) (h1.2.1 - h.2.1)) S0 D z L mj 0 (zent mj as) [] h 0 0) :
    ∃ (T' : State) (Lc : List Loc), Stand p l e Rm s m args below meth c T' (locs ++ Lc) (cells + (h1.1 - h.1)) (slots + (h1.2.1 - h.2.1)) ∧ (∀ q ∈ locs ++ Lc, S0.heap.size ≤ q.base) ∧ zRl S0 D z L h1 T'.heap ∧
      (match o with
        | .inl v => ∀ target, Steps p.tables e below (T'.setTop { g with pc := g.pc + len, stack := (v.map (zv S0 z)).toList ++ g.stack }) target → Steps p.tables e below (doInvoke e (T.setTop g) [] mk (as.map (zv S0 z)).toArray).1 target
        | .inr x => (∃ cell : Cell, T'.heap[zr S0 z x.2]? = some cell ∧ cell.vm = .none ∧ S0.vm.findClass (zxn x.1) = some cell.cls) ∧
            ∀ target, Steps p.tables e below ((T'.setTop g).pushFrame (.throwing (zr S0 z x.2))) target → Steps p.tables e below (doInvoke e (T.setTop g) [] mk (as.map (zv S0 z)).toArray).1 target) := by
  obtain ⟨Y₀, hin⟩ := X.into hg hgs hdg (as.map (zv S0 z)).toArray (R' := { frames := zrk mj, cells := h1.1 - h.1, slots := h1.2.1 - h.2.1, locals := zlo mj }) hmk hck hlk hpk hfr (by rw [hmx]; show 2 * g.monitorRoom + (g.stack.map fun v => v.category).sum + (zmx mj + 11) + zlo mj ≤ Rm.locals; omega) hcells hslots
  obtain ⟨ls0, e0, hl0⟩ := zLs.entry (S0 := S0) (z := z) hac hal mk
  have w := zg_w (ih { frames := zrk mj, cells := h1.1 - h.1, slots := h1.2.1 - h.2.1, locals := zlo mj } _ mk (as.map (zv S0 z)).toArray (.java g :: below) methk ck Ck rfl rfl rfl rfl) (H := T.heap) (locs := []) hR hl0 (fun q h => by cases h)
  have e0' : entryFrame mk (as.map (zv S0 z)).toArray ck.maxLocals = F0 mk 0 ls0 [] := by rw [hmx]; exact e0
  rw [e0'] at Y₀
  obtain ⟨t, st, oc, e1, e2, e3, e4, ⟨Lc, e5, e6⟩, e7⟩ := w ((T.setTop g).pushFrame (.java (F0 mk 0 ls0 []))) rfl Y₀
  have hst : Steps p.tables e below (doInvoke e (T.setTop g) [] mk (as.map (zv S0 z)).toArray).1 t := by
    rw [hin [], e0']
    exact zweaken (mid := [.java g]) st
  have hqq : ∀ q ∈ locs ++ Lc, S0.heap.size ≤ q.base := fun q hq' => by
    rcases List.mem_append.mp hq' with g | g
    · exact hq q g
    · exact e6 q g
  cases o with
  | inl v =>
    subst e7
    obtain ⟨T', X', -, -, ht⟩ := X.outOf hg hdg e2 e3 e5
    refine ⟨T', Lc, X', hqq, by have : t.heap = T'.heap := by rw [ht]; rfl
                                rw [← this]; exact e4, fun target hs => hst.trans (by rw [ht]; exact hs)⟩
  | inr x =>
    obtain ⟨rfl, cell, q1, q2, q3⟩ := e7
    obtain ⟨T', X', -, -, ht⟩ := X.outOfThrown hg e2 e3 e5
    have hh : t.heap = T'.heap := by rw [ht]; rfl
    exact ⟨T', Lc, X', hqq, by rw [← hh]; exact e4, ⟨cell, by rw [← hh]; exact q1, q2, q3⟩, fun target hs => hst.trans (by rw [ht]; exact hs)⟩
end ZCL
end
section
/-! the code word of every method but the law, by program; what the words say of a method -/
theorem zco_ok : ∀ mj, mj ≠ 0 → mj < zNm → (zhd mj = [] ∧ Cond.code (zy mj) (zcd mj) (zmx mj) (zrt mj) ∈ zws) ∨ Cond.codeWith (zy mj) (zcd mj) (zmx mj) (zrt mj) (zhd mj) ∈ zws := by
  intro mj h0 h
  match mj, h0, h with
  | 0, h0, _ => exact absurd rfl h0
  | 1, _, _ => exact Or.inl ⟨rfl, List.mem_filter.mpr ⟨List.mem_of_getElem? zco_1, rfl⟩⟩
  | 2, _, _ => exact Or.inl ⟨rfl, List.mem_filter.mpr ⟨List.mem_of_getElem? zco_2, rfl⟩⟩
  | 3, _, _ => exact Or.inl ⟨rfl, List.mem_filter.mpr ⟨List.mem_of_getElem? zco_3, rfl⟩⟩
  | 4, _, _ => exact Or.inl ⟨rfl, List.mem_filter.mpr ⟨List.mem_of_getElem? zco_4, rfl⟩⟩
  | 5, _, _ => exact Or.inl ⟨rfl, List.mem_filter.mpr ⟨List.mem_of_getElem? zco_5, rfl⟩⟩
  | 6, _, _ => exact Or.inl ⟨rfl, List.mem_filter.mpr ⟨List.mem_of_getElem? zco_6, rfl⟩⟩
  | 7, _, _ => exact Or.inl ⟨rfl, List.mem_filter.mpr ⟨List.mem_of_getElem? zco_7, rfl⟩⟩
  | 8, _, _ => exact Or.inl ⟨rfl, List.mem_filter.mpr ⟨List.mem_of_getElem? zco_8, rfl⟩⟩
  | 9, _, _ => exact Or.inl ⟨rfl, List.mem_filter.mpr ⟨List.mem_of_getElem? zco_9, rfl⟩⟩
  | 10, _, _ => exact Or.inl ⟨rfl, List.mem_filter.mpr ⟨List.mem_of_getElem? zco_10, rfl⟩⟩
  | 11, _, _ => exact Or.inl ⟨rfl, List.mem_filter.mpr ⟨List.mem_of_getElem? zco_11, rfl⟩⟩
  | 12, _, _ => exact Or.inl ⟨rfl, List.mem_filter.mpr ⟨List.mem_of_getElem? zco_12, rfl⟩⟩
  | 13, _, _ => exact Or.inl ⟨rfl, List.mem_filter.mpr ⟨List.mem_of_getElem? zco_13, rfl⟩⟩
  | 14, _, _ => exact Or.inl ⟨rfl, List.mem_filter.mpr ⟨List.mem_of_getElem? zco_14, rfl⟩⟩
  | 15, _, _ => exact Or.inl ⟨rfl, List.mem_filter.mpr ⟨List.mem_of_getElem? zco_15, rfl⟩⟩
  | 16, _, _ => exact Or.inl ⟨rfl, List.mem_filter.mpr ⟨List.mem_of_getElem? zco_16, rfl⟩⟩
  | 17, _, _ => exact Or.inl ⟨rfl, List.mem_filter.mpr ⟨List.mem_of_getElem? zco_17, rfl⟩⟩
  | 18, _, _ => exact Or.inl ⟨rfl, List.mem_filter.mpr ⟨List.mem_of_getElem? zco_18, rfl⟩⟩
  | 19, _, _ => exact Or.inl ⟨rfl, List.mem_filter.mpr ⟨List.mem_of_getElem? zco_19, rfl⟩⟩
  | 20, _, _ => exact Or.inl ⟨rfl, List.mem_filter.mpr ⟨List.mem_of_getElem? zco_20, rfl⟩⟩
  | 21, _, _ => exact Or.inl ⟨rfl, List.mem_filter.mpr ⟨List.mem_of_getElem? zco_21, rfl⟩⟩
  | 22, _, _ => exact Or.inl ⟨rfl, List.mem_filter.mpr ⟨List.mem_of_getElem? zco_22, rfl⟩⟩
  | 23, _, _ => exact Or.inl ⟨rfl, List.mem_filter.mpr ⟨List.mem_of_getElem? zco_23, rfl⟩⟩
  | 24, _, _ => exact Or.inl ⟨rfl, List.mem_filter.mpr ⟨List.mem_of_getElem? zco_24, rfl⟩⟩
  | 25, _, _ => exact Or.inl ⟨rfl, List.mem_filter.mpr ⟨List.mem_of_getElem? zco_25, rfl⟩⟩
  | 26, _, _ => exact Or.inl ⟨rfl, List.mem_filter.mpr ⟨List.mem_of_getElem? zco_26, rfl⟩⟩
  | 27, _, _ => exact Or.inl ⟨rfl, List.mem_filter.mpr ⟨List.mem_of_getElem? zco_27, rfl⟩⟩
  | 28, _, _ => exact Or.inl ⟨rfl, List.mem_filter.mpr ⟨List.mem_of_getElem? zco_28, rfl⟩⟩
  | 29, _, _ => exact Or.inl ⟨rfl, List.mem_filter.mpr ⟨List.mem_of_getElem? zco_29, rfl⟩⟩
  | 30, _, _ => exact Or.inl ⟨rfl, List.mem_filter.mpr ⟨List.mem_of_getElem? zco_30, rfl⟩⟩
  | 31, _, _ => exact Or.inl ⟨rfl, List.mem_filter.mpr ⟨List.mem_of_getElem? zco_31, rfl⟩⟩
  | 32, _, _ => exact Or.inl ⟨rfl, List.mem_filter.mpr ⟨List.mem_of_getElem? zco_32, rfl⟩⟩
  | 33, _, _ => exact Or.inl ⟨rfl, List.mem_filter.mpr ⟨List.mem_of_getElem? zco_33, rfl⟩⟩
  | 34, _, _ => exact Or.inl ⟨rfl, List.mem_filter.mpr ⟨List.mem_of_getElem? zco_34, rfl⟩⟩
  | 35, _, _ => exact Or.inl ⟨rfl, List.mem_filter.mpr ⟨List.mem_of_getElem? zco_35, rfl⟩⟩
  | 36, _, _ => exact Or.inl ⟨rfl, List.mem_filter.mpr ⟨List.mem_of_getElem? zco_36, rfl⟩⟩
  | 37, _, _ => exact Or.inl ⟨rfl, List.mem_filter.mpr ⟨List.mem_of_getElem? zco_37, rfl⟩⟩
  | 38, _, _ => exact Or.inr (List.mem_filter.mpr ⟨List.mem_of_getElem? zco_38, rfl⟩)
  | 39, _, _ => exact Or.inl ⟨rfl, List.mem_filter.mpr ⟨List.mem_of_getElem? zco_39, rfl⟩⟩
  | 40, _, _ => exact Or.inl ⟨rfl, List.mem_filter.mpr ⟨List.mem_of_getElem? zco_40, rfl⟩⟩
  | 41, _, _ => exact Or.inl ⟨rfl, List.mem_filter.mpr ⟨List.mem_of_getElem? zco_41, rfl⟩⟩
  | 42, _, _ => exact Or.inr (List.mem_filter.mpr ⟨List.mem_of_getElem? zco_42, rfl⟩)
  | 43, _, _ => exact Or.inl ⟨rfl, List.mem_filter.mpr ⟨List.mem_of_getElem? zco_43, rfl⟩⟩
  | 44, _, _ => exact Or.inl ⟨rfl, List.mem_filter.mpr ⟨List.mem_of_getElem? zco_44, rfl⟩⟩
  | 45, _, _ => exact Or.inl ⟨rfl, List.mem_filter.mpr ⟨List.mem_of_getElem? zco_45, rfl⟩⟩
  | 46, _, _ => exact Or.inr (List.mem_filter.mpr ⟨List.mem_of_getElem? zco_46, rfl⟩)
  | 47, _, _ => exact Or.inl ⟨rfl, List.mem_filter.mpr ⟨List.mem_of_getElem? zco_47, rfl⟩⟩
  | 48, _, _ => exact Or.inl ⟨rfl, List.mem_filter.mpr ⟨List.mem_of_getElem? zco_48, rfl⟩⟩
  | 49, _, _ => exact Or.inl ⟨rfl, List.mem_filter.mpr ⟨List.mem_of_getElem? zco_49, rfl⟩⟩
  | 50, _, _ => exact Or.inr (List.mem_filter.mpr ⟨List.mem_of_getElem? zco_50, rfl⟩)
  | 51, _, _ => exact Or.inl ⟨rfl, List.mem_filter.mpr ⟨List.mem_of_getElem? zco_51, rfl⟩⟩
  | 52, _, _ => exact Or.inl ⟨rfl, List.mem_filter.mpr ⟨List.mem_of_getElem? zco_52, rfl⟩⟩
  | 53, _, _ => exact Or.inl ⟨rfl, List.mem_filter.mpr ⟨List.mem_of_getElem? zco_53, rfl⟩⟩
  | 54, _, _ => exact Or.inl ⟨rfl, List.mem_filter.mpr ⟨List.mem_of_getElem? zco_54, rfl⟩⟩
  | 55, _, _ => exact Or.inl ⟨rfl, List.mem_filter.mpr ⟨List.mem_of_getElem? zco_55, rfl⟩⟩
  | 56, _, _ => exact Or.inl ⟨rfl, List.mem_filter.mpr ⟨List.mem_of_getElem? zco_56, rfl⟩⟩
  | 57, _, _ => exact Or.inl ⟨rfl, List.mem_filter.mpr ⟨List.mem_of_getElem? zco_57, rfl⟩⟩
  | 58, _, _ => exact Or.inr (List.mem_filter.mpr ⟨List.mem_of_getElem? zco_58, rfl⟩)
  | 59, _, _ => exact Or.inl ⟨rfl, List.mem_filter.mpr ⟨List.mem_of_getElem? zco_59, rfl⟩⟩
  | 60, _, _ => exact Or.inl ⟨rfl, List.mem_filter.mpr ⟨List.mem_of_getElem? zco_60, rfl⟩⟩
  | 61, _, _ => exact Or.inl ⟨rfl, List.mem_filter.mpr ⟨List.mem_of_getElem? zco_61, rfl⟩⟩
  | 62, _, _ => exact Or.inr (List.mem_filter.mpr ⟨List.mem_of_getElem? zco_62, rfl⟩)
  | 63, _, _ => exact Or.inl ⟨rfl, List.mem_filter.mpr ⟨List.mem_of_getElem? zco_63, rfl⟩⟩
  | 64, _, _ => exact Or.inr (List.mem_filter.mpr ⟨List.mem_of_getElem? zco_64, rfl⟩)
  | 65, _, _ => exact Or.inl ⟨rfl, List.mem_filter.mpr ⟨List.mem_of_getElem? zco_65, rfl⟩⟩
  | 66, _, _ => exact Or.inr (List.mem_filter.mpr ⟨List.mem_of_getElem? zco_66, rfl⟩)
  | 67, _, _ => exact Or.inl ⟨rfl, List.mem_filter.mpr ⟨List.mem_of_getElem? zco_67, rfl⟩⟩
  | 68, _, _ => exact Or.inl ⟨rfl, List.mem_filter.mpr ⟨List.mem_of_getElem? zco_68, rfl⟩⟩
  | 69, _, _ => exact Or.inl ⟨rfl, List.mem_filter.mpr ⟨List.mem_of_getElem? zco_69, rfl⟩⟩
  | 70, _, _ => exact Or.inr (List.mem_filter.mpr ⟨List.mem_of_getElem? zco_70, rfl⟩)
  | 71, _, _ => exact Or.inl ⟨rfl, List.mem_filter.mpr ⟨List.mem_of_getElem? zco_71, rfl⟩⟩
  | 72, _, _ => exact Or.inr (List.mem_filter.mpr ⟨List.mem_of_getElem? zco_72, rfl⟩)
  | 73, _, _ => exact Or.inl ⟨rfl, List.mem_filter.mpr ⟨List.mem_of_getElem? zco_73, rfl⟩⟩
  | 74, _, _ => exact Or.inr (List.mem_filter.mpr ⟨List.mem_of_getElem? zco_74, rfl⟩)
  | 75, _, _ => exact Or.inl ⟨rfl, List.mem_filter.mpr ⟨List.mem_of_getElem? zco_75, rfl⟩⟩
  | 76, _, _ => exact Or.inl ⟨rfl, List.mem_filter.mpr ⟨List.mem_of_getElem? zco_76, rfl⟩⟩
  | 77, _, _ => exact Or.inr (List.mem_filter.mpr ⟨List.mem_of_getElem? zco_77, rfl⟩)
  | 78, _, _ => exact Or.inl ⟨rfl, List.mem_filter.mpr ⟨List.mem_of_getElem? zco_78, rfl⟩⟩
  | 79, _, _ => exact Or.inl ⟨rfl, List.mem_filter.mpr ⟨List.mem_of_getElem? zco_79, rfl⟩⟩
  | 80, _, _ => exact Or.inl ⟨rfl, List.mem_filter.mpr ⟨List.mem_of_getElem? zco_80, rfl⟩⟩
  | 81, _, _ => exact Or.inl ⟨rfl, List.mem_filter.mpr ⟨List.mem_of_getElem? zco_81, rfl⟩⟩
  | 82, _, _ => exact Or.inl ⟨rfl, List.mem_filter.mpr ⟨List.mem_of_getElem? zco_82, rfl⟩⟩
  | 83, _, _ => exact Or.inl ⟨rfl, List.mem_filter.mpr ⟨List.mem_of_getElem? zco_83, rfl⟩⟩
  | 84, _, _ => exact Or.inl ⟨rfl, List.mem_filter.mpr ⟨List.mem_of_getElem? zco_84, rfl⟩⟩
  | 85, _, _ => exact Or.inl ⟨rfl, List.mem_filter.mpr ⟨List.mem_of_getElem? zco_85, rfl⟩⟩
  | 86, _, _ => exact Or.inl ⟨rfl, List.mem_filter.mpr ⟨List.mem_of_getElem? zco_86, rfl⟩⟩
  | 87, _, _ => exact Or.inl ⟨rfl, List.mem_filter.mpr ⟨List.mem_of_getElem? zco_87, rfl⟩⟩
  | 88, _, _ => exact Or.inl ⟨rfl, List.mem_filter.mpr ⟨List.mem_of_getElem? zco_88, rfl⟩⟩
  | 89, _, _ => exact Or.inl ⟨rfl, List.mem_filter.mpr ⟨List.mem_of_getElem? zco_89, rfl⟩⟩
  | 90, _, _ => exact Or.inl ⟨rfl, List.mem_filter.mpr ⟨List.mem_of_getElem? zco_90, rfl⟩⟩
  | 91, _, _ => exact Or.inl ⟨rfl, List.mem_filter.mpr ⟨List.mem_of_getElem? zco_91, rfl⟩⟩
  | 92, _, _ => exact Or.inl ⟨rfl, List.mem_filter.mpr ⟨List.mem_of_getElem? zco_92, rfl⟩⟩
  | 93, _, _ => exact Or.inl ⟨rfl, List.mem_filter.mpr ⟨List.mem_of_getElem? zco_93, rfl⟩⟩
  | 94, _, _ => exact Or.inl ⟨rfl, List.mem_filter.mpr ⟨List.mem_of_getElem? zco_94, rfl⟩⟩
  | 95, _, _ => exact Or.inl ⟨rfl, List.mem_filter.mpr ⟨List.mem_of_getElem? zco_95, rfl⟩⟩
  | 96, _, _ => exact Or.inl ⟨rfl, List.mem_filter.mpr ⟨List.mem_of_getElem? zco_96, rfl⟩⟩
  | 97, _, _ => exact Or.inl ⟨rfl, List.mem_filter.mpr ⟨List.mem_of_getElem? zco_97, rfl⟩⟩
  | 98, _, _ => exact Or.inl ⟨rfl, List.mem_filter.mpr ⟨List.mem_of_getElem? zco_98, rfl⟩⟩
  | 99, _, _ => exact Or.inl ⟨rfl, List.mem_filter.mpr ⟨List.mem_of_getElem? zco_99, rfl⟩⟩
  | 100, _, _ => exact Or.inl ⟨rfl, List.mem_filter.mpr ⟨List.mem_of_getElem? zco_100, rfl⟩⟩
  | 101, _, _ => exact Or.inl ⟨rfl, List.mem_filter.mpr ⟨List.mem_of_getElem? zco_101, rfl⟩⟩
  | 102, _, _ => exact Or.inl ⟨rfl, List.mem_filter.mpr ⟨List.mem_of_getElem? zco_102, rfl⟩⟩
  | 103, _, _ => exact Or.inl ⟨rfl, List.mem_filter.mpr ⟨List.mem_of_getElem? zco_103, rfl⟩⟩
  | 104, _, _ => exact Or.inl ⟨rfl, List.mem_filter.mpr ⟨List.mem_of_getElem? zco_104, rfl⟩⟩
  | 105, _, _ => exact Or.inl ⟨rfl, List.mem_filter.mpr ⟨List.mem_of_getElem? zco_105, rfl⟩⟩
  | 106, _, _ => exact Or.inl ⟨rfl, List.mem_filter.mpr ⟨List.mem_of_getElem? zco_106, rfl⟩⟩
  | 107, _, _ => exact Or.inl ⟨rfl, List.mem_filter.mpr ⟨List.mem_of_getElem? zco_107, rfl⟩⟩
  | 108, _, _ => exact Or.inl ⟨rfl, List.mem_filter.mpr ⟨List.mem_of_getElem? zco_108, rfl⟩⟩
  | 109, _, _ => exact Or.inl ⟨rfl, List.mem_filter.mpr ⟨List.mem_of_getElem? zco_109, rfl⟩⟩
  | 110, _, _ => exact Or.inl ⟨rfl, List.mem_filter.mpr ⟨List.mem_of_getElem? zco_110, rfl⟩⟩
  | 111, _, _ => exact Or.inl ⟨rfl, List.mem_filter.mpr ⟨List.mem_of_getElem? zco_111, rfl⟩⟩
  | 112, _, _ => exact Or.inl ⟨rfl, List.mem_filter.mpr ⟨List.mem_of_getElem? zco_112, rfl⟩⟩
  | 113, _, _ => exact Or.inl ⟨rfl, List.mem_filter.mpr ⟨List.mem_of_getElem? zco_113, rfl⟩⟩
  | 114, _, _ => exact Or.inl ⟨rfl, List.mem_filter.mpr ⟨List.mem_of_getElem? zco_114, rfl⟩⟩
  | 115, _, _ => exact Or.inl ⟨rfl, List.mem_filter.mpr ⟨List.mem_of_getElem? zco_115, rfl⟩⟩
  | 116, _, _ => exact Or.inl ⟨rfl, List.mem_filter.mpr ⟨List.mem_of_getElem? zco_116, rfl⟩⟩
  | 117, _, _ => exact Or.inl ⟨rfl, List.mem_filter.mpr ⟨List.mem_of_getElem? zco_117, rfl⟩⟩
  | 118, _, _ => exact Or.inl ⟨rfl, List.mem_filter.mpr ⟨List.mem_of_getElem? zco_118, rfl⟩⟩
  | 119, _, _ => exact Or.inl ⟨rfl, List.mem_filter.mpr ⟨List.mem_of_getElem? zco_119, rfl⟩⟩
  | 120, _, _ => exact Or.inl ⟨rfl, List.mem_filter.mpr ⟨List.mem_of_getElem? zco_120, rfl⟩⟩
  | n + 121, _, h => exact absurd (show n + 121 < 121 from h) (by omega)
/-- what stands in the tables of a method -/
theorem zmeth {S0 : State} {D : va_G} {z : Nat → Nat} (F : zFix S0 D z) {T : State} (hW : S0.WarmedH T.vm) {mj : Nat} (h0 : mj ≠ 0) (hlt : mj < zNm) :
    ∃ (mk : MethodId) (methk : Method) (ck : Code), T.methodNamed? (zy mj) = some mk ∧ T.vm.method? mk = some methk ∧ methk.code = some ck ∧ ck.code = zcd mj ∧ ck.maxLocals = zmx mj ∧ methk.sig.returnType = zrt mj ∧ methk.locks = false ∧
      ck.exceptionTable.toList.map (fun h => (h.startPc, h.endPc, h.handlerPc, h.catchType)) = zhd mj ∧ parseMethodDescriptor (zy mj).desc = some methk.sig ∧ T.plainMethod mk ∧ methk.name = (zy mj).name ∧ T.vm.findClass (zcn (zoc mj)) = some mk.cls ∧ methk.sig.parameters.length = znp mj := by
  have hm := zm_ok h0 hlt
  unfold zmC at hm
  simp only [Bool.and_eq_true, decide_eq_true_eq] at hm
  obtain ⟨-, -, ⟨⟨hcls, hpar⟩, hplain⟩, -⟩ := hm
  have key : ∃ (mk : MethodId) (methk : Method) (ck : Code), T.methodNamed? (zy mj) = some mk ∧ T.vm.method? mk = some methk ∧ methk.code = some ck ∧ ck.code = zcd mj ∧ ck.maxLocals = zmx mj ∧ methk.sig.returnType = zrt mj ∧ methk.locks = false ∧
      ck.exceptionTable.toList.map (fun h => (h.startPc, h.endPc, h.handlerPc, h.catchType)) = zhd mj ∧ parseMethodDescriptor (zy mj).desc = some methk.sig := by
    rcases zco_ok mj h0 hlt with ⟨hh, hw⟩ | hw
    · have hc : (Cond.code (zy mj) (zcd mj) (zmx mj) (zrt mj)).before #[] T = true := F.1 _ hw #[] T hW
      obtain ⟨mk, hn⟩ := Cond.code_named hc
      obtain ⟨meth, c, q1, q2, q3, q4, q5, q6, q7, q8⟩ := Cond.code_spec hn hc
      refine ⟨mk, meth, c, hn, q1, q2, q3, q4, q5, q6, ?_, q8⟩
      rw [hh]
      have : c.exceptionTable.toList = [] := by simpa using q7
      rw [this]; rfl
    · have hc : (Cond.codeWith (zy mj) (zcd mj) (zmx mj) (zrt mj) (zhd mj)).before #[] T = true := F.1 _ hw #[] T hW
      obtain ⟨mk, meth, c, hn, q1, q2, q3, q4, q5, q6, q7, q8⟩ := Cond.codeWith_spec hc
      exact ⟨mk, meth, c, hn, q1, q2, q3, q4, q6, q7, q5, q8⟩
  obtain ⟨mk, methk, ck, hn, h1, h2, h3, h4, h5, h6, h7, h8⟩ := key
  refine ⟨mk, methk, ck, hn, h1, h2, h3, h4, h5, h6, h7, h8, ?_, (name_of_methodNamed hn h1).1, ?_, ?_⟩
  · refine State.plainMethod.of_name (fun k hk => ?_)
    obtain ⟨k', hk', hname⟩ := className_of_methodNamed hn
    cases hk.symm.trans hk'
    rw [hname]; exact hplain
  · rw [← hcls]; exact findClass_of_methodNamed hn
  · rw [h8] at hpar
    exact Option.some.inj hpar
end
section
/-- what is fixed of exceptions at the start: which class is assignable to which; the words of their constructors; the texts -/
def zxnames : List String := ["java/lang/RuntimeException", "java/lang/Exception"]
def zFx (S0 : State) : Prop :=
  (∀ x y : Nat, x < 2 → y < 2 → ∀ cx cy : ClassId, S0.vm.findClass (zxn x) = some cx → S0.vm.findClass (zxn y) = some cy → S0.vm.assignable cx cy = decide (x = y)) ∧
  (∀ oc ic x : Nat, zxl oc ic = some x → ∀ (s : State) (args : Array Value), S0.WarmedH s.vm → (∀ q : Nat, q < S0.heap.size → s.heap[q]? = S0.heap[q]?) → ∀ a ∈ Jvm.Bundle.ownAtoms (zcn oc) ic (zxn x) zxnames, a.before args s = true) ∧
  ∀ oc k : Nat, zxs oc k = true → ∃ (tx : String) (q : Nat), vk_R (zcn oc) k tx q S0
theorem zxc_all : (List.range 10).all (fun oc => (zxcL.getD oc []).all (fun q => decide (q.2.1 < 2) && zat0 q.2.2 (.classLink (zcn oc) q.1 (zxn q.2.1)))) = true := by decide +kernel
theorem zxc_ok {oc k x : Nat} (h : zxc oc k = some x) : x < 2 ∧ Cond.classLink (zcn oc) k (zxn x) ∈ zws := by
  obtain ⟨q, hq, hk, e⟩ := zfind h
  have hc := zall zxc_all (by decide) hq
  cases e
  have hk' : q.1 = k := by simpa using hk
  subst hk'
  rw [Bool.and_eq_true, decide_eq_true_eq] at hc
  exact ⟨hc.1, zin hc.2⟩
theorem zhd_all : ((List.range zNm).drop 1).all (fun mi => (zhd mi).all (fun q => (zxc (zoc mi) q.2.2.2).isSome && decide (q.2.2.2 ≠ 0))) = true := by decide +kernel
theorem zhd_ok {mi : Nat} (h0 : mi ≠ 0) (h : mi < zNm) {q : Nat × Nat × Nat × Nat} (hq : q ∈ zhd mi) : (∃ x, zxc (zoc mi) q.2.2.2 = some x) ∧ q.2.2.2 ≠ 0 := by
  have h1 : mi ∈ (List.range zNm).drop 1 := by
    obtain ⟨k, rfl⟩ : ∃ k, mi = k + 1 := ⟨mi - 1, by omega⟩
    refine List.mem_of_getElem? (i := k) ?_
    rw [List.getElem?_drop, List.getElem?_range (by omega)]
    congr 1; omega
  have h2 := List.all_eq_true.mp (List.all_eq_true.mp zhd_all mi h1) q hq
  rw [Bool.and_eq_true, decide_eq_true_eq] at h2
  exact ⟨Option.isSome_iff_exists.mp h2.1, h2.2⟩
section ZCL2
variable {p : Program} {l : Launch} {e : Env} {Rm : Room} {s : State} {m : MethodId} {args : Array Value} {below : List Frame} {meth : Method} {c : Code} {H : Heap} {locs : List Loc} {cells slots : Nat} {Q : State → Prop}
variable {S0 : State} {D : va_G} {z : Nat → Nat} {L mi pc : Nat} {lv : zLv} {st : List Value} {h : zHp} {ls : Array Slot}
/-- a thrown object comes into the method: its handler, or out -/
theorem zcaught (Fx : zFx S0) (F : zFix S0 D z) (C : zCx S0 p s m meth c mi) (hmi : mi < zNm) {T : State} (X : Stand p l e Rm s m args below meth c T locs cells slots) (hq : ∀ q ∈ locs, S0.heap.size ≤ q.base) (hR : zRl S0 D z L h T.heap) (hl : zLs S0 z mi lv ls) {stk : List Value} {x : Nat × Nat}
    (hcell : ∃ cell : Cell, T.heap[zr S0 z x.2]? = some cell ∧ cell.vm = .none ∧ S0.vm.findClass (zxn x.1) = some cell.cls)
    (kk : match zcatch mi pc x.1 with
      | some pc' => zG p l e Rm s m args below meth c Q S0 D z L mi pc' lv [.ref x.2] h cells slots
      | none => zhd mi = [] ∧ ∀ t, zEnd S0 D z L s below (.inr x) h cells slots t → Q t) :
    ∃ t, Steps p.tables e below ((T.setTop (F0 m pc ls stk)).pushFrame (.throwing (zr S0 z x.2))) t ∧ Q t := by
  have hts := zCx.ts (args := args) F C
  obtain ⟨hx, hb, hml, hown, hlocks, hret, hname, hW, hsz, htab, hag, hns⟩ := C
  obtain ⟨cell, c1, c2, c3⟩ := hcell
  cases hk : zcatch mi pc x.1 with
  | none =>
    rw [hk] at kk
    obtain ⟨hh, hQ⟩ := kk
    have hout : ∀ y ∈ c.exceptionTable.toList, covers y (F0 m pc ls stk).pc = false := by
      intro y hy
      rcases htab with ht | ht
      · rw [hh] at ht; cases ht
      · rw [hh] at ht
        rw [List.map_eq_nil_iff.mp ht] at hy
        cases hy
    obtain ⟨w1, w2, w3, w4, w5⟩ := X.leaveThrown (zr S0 z x.2) (g := F0 m pc ls stk) rfl rfl rfl hout hlocks
    exact ⟨_, w1, hQ _ ⟨_, w2, w3, w4, hR, ⟨locs, w5, hq⟩, rfl, cell, c1, c2, c3⟩⟩
  | some pc' =>
    rw [hk] at kk
    dsimp only at kk
    unfold zcatch at hk
    obtain ⟨q, hq1, epc⟩ := Option.map_eq_some_iff.mp hk
    obtain ⟨hp, as, bs, hsp, hno⟩ := List.find?_eq_some_iff_append.mp hq1
    rw [Bool.and_eq_true, decide_eq_true_eq, decide_eq_true_eq] at hp
    obtain ⟨hcov, hxq⟩ := hp
    have hmi0 : mi ≠ 0 := by
      rintro rfl
      have : q ∈ zhd 0 := by rw [hsp]; simp
      have h2 : zhd 0 = [(0, 0, 0, 0)] := rfl
      rw [h2, List.mem_singleton] at this
      subst this
      exact absurd hcov.2 (by simp)
    have ht : c.exceptionTable.toList.map (fun h => (h.startPc, h.endPc, h.handlerPc, h.catchType)) = as ++ q :: bs := by
      rcases htab with ht | ht
      · have : q ∈ zhd mi := by rw [hsp]; simp
        rw [ht, List.mem_singleton] at this
        subst this
        exact absurd hcov.2 (by simp)
      · rw [ht, hsp]
    obtain ⟨l1, l2, e1, e2, e3⟩ := List.map_eq_append_iff.mp ht
    obtain ⟨y, l3, e4, e5, e6⟩ := List.map_eq_cons_iff.mp e3
    subst e5
    have hpl : e.platform.magicAccessors = ({} : Platform).magicAccessors := by rw [X.admits.platform]
    have hal := hW.alike
    obtain ⟨hx2, hwx⟩ := zxc_ok hxq
    obtain ⟨cT, hcT, hclT⟩ := Cond.classLink_spec hown (hts _ hwx) e.platform hpl
    have hcT0 : S0.vm.findClass (zxn x.1) = some cT := by rw [← hcT]; exact (hal.findClass _ _).symm
    have ecT : cT = cell.cls := Option.some.inj (hcT0.symm.trans c3)
    have hself : s.vm.assignable cell.cls cT = true := by
      rw [hal.assignable, Fx.1 x.1 x.1 hx2 hx2 cell.cls cT c3 hcT0]
      simp
    obtain ⟨hy0, -⟩ := (⟨(zhd_ok hmi0 hmi (show (y.startPc, y.endPc, y.handlerPc, y.catchType) ∈ zhd mi by rw [hsp]; simp)).2, trivial⟩ : y.catchType ≠ 0 ∧ True)
    obtain ⟨vm', X', step⟩ := X.caughtThrough (zr S0 z x.2) (g := F0 m pc ls stk) rfl c1 (by rw [c2]; rfl) (by
        rw [← ecT]
        exact Vm.classAt_of_findClass hcT) l1 y l3 (by rw [e1, e4]) (fun w hw => by
        have hwm : (w.startPc, w.endPc, w.handlerPc, w.catchType) ∈ as := by
          rw [← e2]; exact List.mem_map.mpr ⟨w, hw, rfl⟩
        have hn1 := hno _ hwm
        by_cases hcw : w.startPc ≤ pc ∧ pc < w.endPc
        · refine Or.inr ?_
          obtain ⟨⟨x2, hx2'⟩, hw0⟩ := zhd_ok hmi0 hmi (q := (w.startPc, w.endPc, w.handlerPc, w.catchType)) (by rw [hsp]; exact List.mem_append_left _ hwm)
          have hne : x2 ≠ x.1 := by
            rintro rfl
            simp [hcw] at hn1
            exact hn1 hx2'
          obtain ⟨hlt2, hw2⟩ := zxc_ok hx2'
          obtain ⟨c9, hc9, hcl9⟩ := Cond.classLink_spec hown (hts _ hw2) e.platform hpl
          have hc90 : S0.vm.findClass (zxn x2) = some c9 := by rw [← hc9]; exact (hal.findClass _ _).symm
          refine ⟨hw0, c9, hcl9, ?_⟩
          rw [hal.assignable, Fx.1 x.1 x2 hx2 hlt2 cell.cls c9 c3 hc90]
          simp [Ne.symm hne]
        · refine Or.inl ?_
          show (decide (w.startPc ≤ pc) && decide (pc < w.endPc)) = false
          by_cases h1 : w.startPc ≤ pc
          · have h2 : ¬ pc < w.endPc := fun h2 => hcw ⟨h1, h2⟩
            simp [h2]
          · simp [h1]) (by
        show (decide (y.startPc ≤ pc) && decide (pc < y.endPc)) = true
        simp [hcov.1, hcov.2]) (Or.inr ⟨hy0, cT, hclT, hself⟩)
    subst epc
    obtain ⟨t, a1, b1⟩ := zg_w kk hR hl hq (T.setVm vm') rfl X'
    refine ⟨t, ?_, b1⟩
    rw [X.pushThrowing_eq]
    exact step t a1
/-- what goes on behind the call (zfin's last premise) -/
def zKk (p : Program) (l : Launch) (e : Env) (Rm : Room) (s : State) (m : MethodId) (args : Array Value) (below : List Frame) (meth : Method) (c : Code) (Q : State → Prop) (S0 : State) (D : va_G) (z : Nat → Nat) (L mi pc : Nat) (lv : zLv) (rest : List Value) (h h1 : zHp) (o : zOut) (cells slots : Nat) : Prop :=
  match o with
      | .inl v => zG p l e Rm s m args below meth c Q S0 D z L mi (pc + 3) lv (v.toList ++ rest) h1 (cells + (h1.1 - h.1)) (slots + (h1.2.1 - h.2.1))
      | .inr x => (match zcatch mi pc x.1 with
        | some pc' => zG p l e Rm s m args below meth c Q S0 D z L mi pc' lv [.ref x.2] h1 (cells + (h1.1 - h.1)) (slots + (h1.2.1 - h.2.1))
        | none => zhd mi = [] ∧ ∀ t, zEnd S0 D z L s below (.inr x) h1 (cells + (h1.1 - h.1)) (slots + (h1.2.1 - h.2.1)) t → Q t)
theorem zfin (Fx : zFx S0) (F : zFix S0 D z) (C : zCx S0 p s m meth c mi) (hmi : mi < zNm) {T : State} (hR : zRl S0 D z L h T.heap) (X : Stand p l e Rm s m args below meth c T locs cells slots) (hq : ∀ q ∈ locs, S0.heap.size ≤ q.base) (hl : zLs S0 z mi lv ls) {rest as : List Value} (hcr : zcat rest ≤ 8)
    {ig : Instr} (hd : decode (zcd mi) pc = .ok (ig, 3)) {mj : Nat} (h0 : mj ≠ 0) (hlt : mj < zNm) {mk : MethodId} (hn : T.methodNamed? (zy mj) = some mk) (hac : zlg mj = false → ∀ v ∈ as, v.category = 1) (hal : (zexp as).length ≤ zmx mj)
    {o : zOut} {h1 : zHp} (hcells : cells + (h1.1 - h.1) ≤ Rm.cells) (hslots : slots + (h1.2.1 - h.2.1) ≤ Rm.slots) (hfr : zrk mj + 1 ≤ Rm.frames) (hlo : 8 + (zmx mj + 11) + zlo mj ≤ Rm.locals)
    (ih : ∀ (R' : Room) (s' : State) (m' : MethodId) (args' : Array Value) (below' : List Frame) (meth' : Method) (c' : Code), zCx S0 p s' m' meth' c' mj → R'.frames = zrk mj → R'.locals = zlo mj → R'.cells = h1.1 - h.1 → R'.slots = h1.2.1 - h.2.1 →
      zG p l e R' s' m' args' below' meth' c' (zEnd S0 D z L s' below' o h1 (h1.1 - h.1) (h1.2.1 - h.2.1)) S0 D z L mj 0 (zent mj as) [] h 0 0)
    (kk : zKk p l e Rm s m args below meth c Q S0 D z L mi pc lv rest h h1 o cells slots) :
    ∃ t, Steps p.tables e below (doInvoke e (T.setTop (F0 m pc ls (rest.map (zv S0 z)))) [] mk (as.map (zv S0 z)).toArray).1 t ∧ Q t := by
  have hWT : S0.WarmedH T.vm := State.WarmedH.trans C.2.2.2.2.2.2.2.1 X.warmed
  obtain ⟨mk', methk, ck, k0, k1, k2, k3, k4, k5, k6, k7, k8, k9, k10, k11, k12⟩ := zmeth F hWT h0 hlt
  cases Option.some.inj (hn.symm.trans k0)
  have Ck : zCx S0 p (T.calling (F0 m pc ls (rest.map (zv S0 z))) mk (as.map (zv S0 z)).toArray) mk methk ck mj :=
    ⟨C.1, k3, k4, k11, k6, k5, k10, hWT, by show S0.heap.size ≤ T.heap.size; rw [hR.2.1]; omega, Or.inr k7, hR.2.2.1, hR.2.2.2.2.2⟩
  obtain ⟨T', Lc, X', hqq, hR1, hm⟩ := zcore hR X hq (g := F0 m pc ls (rest.map (zv S0 z))) rfl (by rw [C.2.2.1]; exact hl.size) (ig := ig) (len := 3) (by rw [C.2.1]; exact hd) (by show 2 * 0 + _ ≤ 8; rw [zcat_map]; omega) k1 k2 k6 k4 k9 hac hal Ck hcells hslots hfr hlo ih
  cases o with
  | inl v =>
    unfold zKk at kk
    dsimp only at kk hm
    obtain ⟨t, a1, b1⟩ := zg_w kk hR1 hl hqq T' rfl X'
    refine ⟨t, hm t ?_, b1⟩
    have ev : (v.toList ++ rest).map (zv S0 z) = (v.map (zv S0 z)).toList ++ rest.map (zv S0 z) := by cases v <;> rfl
    rw [ev] at a1
    exact a1
  | inr x =>
    unfold zKk at kk
    dsimp only at kk hm
    obtain ⟨t, a1, b1⟩ := zcaught (stk := rest.map (zv S0 z)) Fx F C hmi X' hqq hR1 hl hm.1 kk
    exact ⟨t, hm.2 t a1, b1⟩
end ZCL2
end
section
/-! THE THREE KINDS OF CALLS -/
theorem zml_nz_all : (List.range 10).all (fun oc => (zmlL.getD oc []).all (fun q => decide (q.2.1 ≠ 0))) = true := by decide +kernel
theorem zml_nz {oc k mj : Nat} (h : zml oc k = some mj) : mj ≠ 0 := by
  obtain ⟨q, hq, hk, e⟩ := zfind h
  have hc := zall zml_nz_all (by decide) hq
  cases e
  exact of_decide_eq_true hc
theorem zinit_all : (List.range zNm).all (fun mj => !decide ((zy mj).name = "<init>") || (decide (zrt mj = none) && [1, 2, 3, 4, 5, 12, 13, 80].contains mj)) = true := by decide +kernel
theorem zinit_ok {mj : Nat} (h : mj < zNm) (hn : (zy mj).name = "<init>") : zrt mj = none ∧ Cond.code (zy mj) (zcd mj) (zmx mj) (zrt mj) ∈ zws := by
  have h1 := List.all_eq_true.mp zinit_all mj (List.mem_range.mpr h)
  rw [Bool.or_eq_true, Bool.and_eq_true, decide_eq_true_eq] at h1
  rcases h1 with h1 | ⟨h1, h2⟩
  · simp [hn] at h1
  · refine ⟨h1, ?_⟩
    have h3 : mj ∈ [1, 2, 3, 4, 5, 12, 13, 80] := List.contains_iff_mem.mp h2
    simp only [List.mem_cons, List.not_mem_nil, or_false] at h3
    rcases h3 with rfl | rfl | rfl | rfl | rfl | rfl | rfl | rfl
    · exact List.mem_filter.mpr ⟨List.mem_of_getElem? zco_1, rfl⟩
    · exact List.mem_filter.mpr ⟨List.mem_of_getElem? zco_2, rfl⟩
    · exact List.mem_filter.mpr ⟨List.mem_of_getElem? zco_3, rfl⟩
    · exact List.mem_filter.mpr ⟨List.mem_of_getElem? zco_4, rfl⟩
    · exact List.mem_filter.mpr ⟨List.mem_of_getElem? zco_5, rfl⟩
    · exact List.mem_filter.mpr ⟨List.mem_of_getElem? zco_12, rfl⟩
    · exact List.mem_filter.mpr ⟨List.mem_of_getElem? zco_13, rfl⟩
    · exact List.mem_filter.mpr ⟨List.mem_of_getElem? zco_80, rfl⟩
/-- what a call that the logical machine makes has -/
def zCf (mi mj : Nat) (as rest : List Value) (len : Nat) : Prop :=
  zrk mj < zrk mi ∧ 8 + (zmx mj + 11) + zlo mj ≤ zlo mi ∧ mj < zNm ∧ zcat rest ≤ 8 ∧ (zlg mj = false → ∀ v ∈ as, v.category = 1) ∧ (zexp as).length ≤ zmx mj ∧ len = 3
theorem ztake_ok {n : Nat} {st as rest : List Value} (h : ztake n st = some (as, rest)) : st = as.reverse ++ rest ∧ as.length = n := by
  unfold ztake at h
  split at h
  next hl =>
    cases h
    refine ⟨by rw [List.reverse_reverse, List.take_append_drop], ?_⟩
    rw [List.length_reverse, List.length_take]; omega
  next => cases h
theorem zcall_true {mi mj mj' L len : Nat} {h : zHp} {st as rest : List Value} (hc : zcall mi mj true L h st = some (.inr (.inl (mj', as, rest, len)))) :
    mj' = mj ∧ zCf mi mj as rest len ∧ zat mj = false ∧ ∃ (b : Nat) (as' : List Value), as = .ref b :: as' ∧ as'.length = znp mj ∧ st = as'.reverse ++ .ref b :: rest ∧ zk L h b = some (.inr (zoc mj)) := by
  unfold zcall at hc
  split at hc
  next h1 =>
    split at hc
    next as' rest' ht =>
      obtain ⟨e1, e2⟩ := ztake_ok ht
      refine Decidable.byCases (fun h2 => ?_) (fun h2 => by rw [if_neg h2] at hc; cases hc)
      · rw [if_pos h2] at hc
        dsimp only at hc
        split at hc
        next b r =>
          split at hc
          next h3 =>
            cases hc
            refine ⟨rfl, ⟨h1.1.1, h1.1.2, h1.2.2, h3.2, fun hg v hv => ?_, ?_, rfl⟩, by simpa using h1.2.1, b, as', rfl, e2, e1, h3.1⟩
            · rcases List.mem_cons.mp hv with rfl | hv
              · rfl
              · have := h2.1
                rw [hg, Bool.false_or] at this
                simpa using List.all_eq_true.mp this v hv
            · have := h2.2
              show (some (Value.ref b) :: zexp as').length ≤ _
              simp at this ⊢
              omega
          next => cases hc
        next => cases hc
    next => cases hc
  next => cases hc
theorem zcall_false {mi mj mj' L len : Nat} {h : zHp} {st as rest : List Value} (hc : zcall mi mj false L h st = some (.inr (.inl (mj', as, rest, len)))) :
    mj' = mj ∧ zCf mi mj as rest len ∧ zat mj = true ∧ as.length = znp mj ∧ st = as.reverse ++ rest := by
  unfold zcall at hc
  split at hc
  next h1 =>
    split at hc
    next as' rest' ht =>
      obtain ⟨e1, e2⟩ := ztake_ok ht
      refine Decidable.byCases (fun h2 => ?_) (fun h2 => by rw [if_neg h2] at hc; cases hc)
      · rw [if_pos h2] at hc
        dsimp only at hc
        split at hc
        next h3 =>
          cases hc
          refine ⟨rfl, ⟨h1.1.1, h1.1.2, h1.2.2, h3, fun hg v hv => ?_, ?_, rfl⟩, by simpa using h1.2.1, e2, e1⟩
          · have := h2.1
            rw [hg, Bool.false_or] at this
            simpa using List.all_eq_true.mp this v hv
          · have := h2.2
            simp at this ⊢
            omega
        next => cases hc
    next => cases hc
  next => cases hc
section ZCK
variable {p : Program} {l : Launch} {e : Env} {Rm : Room} {s : State} {m : MethodId} {args : Array Value} {below : List Frame} {meth : Method} {c : Code} {H : Heap} {locs : List Loc} {cells slots : Nat} {Q : State → Prop}
variable {S0 : State} {D : va_G} {z : Nat → Nat} {L mi pc : Nat} {lv : zLv} {st : List Value} {h : zHp} {ls : Array Slot}
/-- the words of a method that is called -/
theorem zmw {mj : Nat} (h0 : mj ≠ 0) (hlt : mj < zNm) (hts : ∀ w ∈ zws, w.before args s = true) : (Cond.initialized (zy mj).cls).before args s = true ∧ (zat mj = true → (Cond.static (zy mj)).before args s = true) ∧
    (zat mj = false → (Cond.instanceMethod (zy mj)).before args s = true ∧ ((zy mj).name ≠ "<init>" → (Cond.selects (zy mj).cls (zy mj) (zy mj)).before args s = true)) ∧
    (zy mj).cls = zcn (zoc mj) ∧ (parseMethodDescriptor (zy mj).desc).map (fun d => d.parameters.length) = some (znp mj) ∧ ((zy mj).cls ≠ "java/lang/invoke/MethodHandle" ∧ (zy mj).cls ≠ "java/lang/invoke/VarHandle") := by
  have hm := zm_ok h0 hlt
  unfold zmC at hm
  rw [Bool.and_eq_true, Bool.and_eq_true, Bool.and_eq_true, Bool.and_eq_true, Bool.and_eq_true, decide_eq_true_eq, decide_eq_true_eq, decide_eq_true_eq] at hm
  obtain ⟨hi, hs, ⟨⟨hc, hp⟩, hpl⟩, hne⟩ := hm
  refine ⟨hts _ (zin hi), fun ha => ?_, fun ha => ?_, hc, hp, hne⟩
  · rw [if_pos ha] at hs
    exact hts _ (zin hs)
  · rw [if_neg (by rw [ha]; decide), Bool.and_eq_true, Bool.or_eq_true] at hs
    refine ⟨hts _ (zin hs.1), fun hn => ?_⟩
    rcases hs.2 with h2 | h2
    · exact absurd (of_decide_eq_true h2) hn
    · exact hts _ (zin h2)
def zIh (p : Program) (l : Launch) (e : Env) (S0 : State) (D : va_G) (z : Nat → Nat) (L mj : Nat) (as : List Value) (h h1 : zHp) (o : zOut) : Prop :=
  ∀ (R' : Room) (s' : State) (m' : MethodId) (args' : Array Value) (below' : List Frame) (meth' : Method) (c' : Code), zCx S0 p s' m' meth' c' mj → R'.frames = zrk mj → R'.locals = zlo mj → R'.cells = h1.1 - h.1 → R'.slots = h1.2.1 - h.2.1 →
      zG p l e R' s' m' args' below' meth' c' (zEnd S0 D z L s' below' o h1 (h1.1 - h.1) (h1.2.1 - h.2.1)) S0 D z L mj 0 (zent mj as) [] h 0 0
theorem zs_callV (Fx : zFx S0) (F : zFix S0 D z) (C : zCx S0 p s m meth c mi) (hmi : mi < zNm) {k len mj b : Nat} {as rest : List Value} (hd : decode (zcd mi) pc = .ok (.invokevirtual k, 3)) (hk : zml (zoc mi) k = some mj) (hni : (zy mj).name ≠ "<init>") (hcf : zCf mi mj (.ref b :: as) rest len) (hat : zat mj = false) (hal : as.length = znp mj) (hst : st = as.reverse ++ .ref b :: rest) (hb : zk L h b = some (.inr (zoc mj)))
    {o : zOut} {h1 : zHp} (hcells : cells + (h1.1 - h.1) ≤ Rm.cells) (hslots : slots + (h1.2.1 - h.2.1) ≤ Rm.slots) (hfr : zrk mi ≤ Rm.frames) (hlo : zlo mi ≤ Rm.locals)
    (ih : zIh p l e S0 D z L mj (.ref b :: as) h h1 o) (kk : zKk p l e Rm s m args below meth c Q S0 D z L mi pc lv rest h h1 o cells slots) : zG p l e Rm s m args below meth c Q S0 D z L mi pc lv st h cells slots := by
  intro H locs ls hR hl hq T hT X
  subst hT
  subst hst
  have hts := zCx.ts (args := args) F C
  have CC := C
  obtain ⟨hx, hbb, hml, hown, hlocks, hret, hname, hW, hsz, htab, hag, hns⟩ := C
  obtain ⟨hr1, hr2, hlt, hcr, hac, hxl, hl3⟩ := hcf
  have h0 := zml_nz hk
  obtain ⟨-, w2, w3, hcl, hpar, hy⟩ := zmw (args := args) (s := s) h0 hlt hts
  obtain ⟨hinst, hsel⟩ := w3 hat
  have hsel := hsel hni
  obtain ⟨cellB, c1, hci, c2, c3, -⟩ := hR.at hb
  have hfc : s.vm.findClass (zcn (zoc mj)) = some cellB.cls := by
    have hK := va_K.moved hW.alike F.2.1
    obtain ⟨-, hfc, -⟩ := hK.1 (zoc mj) _ (zcls_at _ hci)
    rw [c3]; exact hfc
  rw [← hcl] at hfc
  obtain ⟨mk, methM, hnamed, hmethM, hstM, habM⟩ := Cond.instanceMethod_spec hinst
  obtain ⟨c2', r2, m2, q1, q2, q3, q4, kP, hkP, hkPi⟩ := Cond.selects_spec hsel
  cases hfc.symm.trans q1
  cases (State.methodFound?_of_named hnamed hy).symm.trans q2
  cases hnamed.symm.trans q3
  have hselP : selectMethod e.platform s.vm cellB.cls mk = .method mk := by rw [Launch.admits_selectMethod X.admits]; exact q4
  obtain ⟨mk', methk, ck, k0, k1, k2, k3, k4, k5, k6, k7, k8, k9, k10, k11, k12⟩ := zmeth F hW h0 hlt
  cases Option.some.inj (hnamed.symm.trans k0)
  cases Option.some.inj (hmethM.symm.trans k1)
  have hlen : (as.map (zv S0 z)).length = methM.sig.parameters.length := by rw [List.length_map, hal, k12]
  have hstk : (F0 m pc ls ((as.reverse ++ .ref b :: rest).map (zv S0 z))).stack = (as.map (zv S0 z)).reverse ++ .ref (zr S0 z b) :: rest.map (zv S0 z) := by
    show (as.reverse ++ .ref b :: rest).map (zv S0 z) = _
    rw [List.map_append, List.map_reverse]; rfl
  have fin : ∀ vm₁, Stand p l e Rm s m args below meth c (T.setVm vm₁) locs cells slots → ∃ t, Steps p.tables e below (doInvoke e ((T.setVm vm₁).setTop (F0 m pc ls (rest.map (zv S0 z)))) [] mk ((.ref b :: as).map (zv S0 z)).toArray).1 t ∧ Q t := by
    intro vm₁ X₁
    exact zfin Fx F CC hmi (T := T.setVm vm₁) hR X₁ hq hl hcr hd h0 hlt (X₁.named hnamed) hac hxl hcells hslots (by omega) (by omega) ih kk
  rcases (zml_ok hk).2 with hlk | ⟨host, hlk⟩
  · obtain ⟨vm₁, X₁, hstep₁⟩ := X.invokevirtual hx hown (hts _ hlk) hnamed hmethM hstM hkP hkPi hy (a := zr S0 z b) (cell := cellB) c1
      (fun z h => by rw [h] at c2; cases c2) hselP hmethM habM hkP hkPi (g := F0 m pc ls ((as.reverse ++ .ref b :: rest).map (zv S0 z))) rfl (argsL := as.map (zv S0 z)) (rest := rest.map (zv S0 z)) hlen hstk (by rw [hbb]; exact hd)
    obtain ⟨t, a1, b1⟩ := fin vm₁ X₁
    exact ⟨t, hstep₁ _ fun acts => by rw [doInvoke_state]; exact a1, b1⟩
  · obtain ⟨vm₁, X₁, hstep₁⟩ := X.invokevirtualNest hx hown (hts _ hlk) hnamed hmethM hstM hkP hkPi hy (a := zr S0 z b) (cell := cellB) c1
      (fun z h => by rw [h] at c2; cases c2) hselP hmethM habM hkP hkPi (g := F0 m pc ls ((as.reverse ++ .ref b :: rest).map (zv S0 z))) rfl (argsL := as.map (zv S0 z)) (rest := rest.map (zv S0 z)) hlen hstk (by rw [hbb]; exact hd)
    obtain ⟨t, a1, b1⟩ := fin vm₁ X₁
    exact ⟨t, hstep₁ _ fun acts => by rw [doInvoke_state]; exact a1, b1⟩
theorem zs_callS (Fx : zFx S0) (F : zFix S0 D z) (C : zCx S0 p s m meth c mi) (hmi : mi < zNm) {k len mj : Nat} {as rest : List Value} (hd : decode (zcd mi) pc = .ok (.invokestatic k, 3)) (hk : zml (zoc mi) k = some mj) (hcf : zCf mi mj as rest len) (hat : zat mj = true) (hal : as.length = znp mj) (hst : st = as.reverse ++ rest)
    {o : zOut} {h1 : zHp} (hcells : cells + (h1.1 - h.1) ≤ Rm.cells) (hslots : slots + (h1.2.1 - h.2.1) ≤ Rm.slots) (hfr : zrk mi ≤ Rm.frames) (hlo : zlo mi ≤ Rm.locals)
    (ih : zIh p l e S0 D z L mj as h h1 o) (kk : zKk p l e Rm s m args below meth c Q S0 D z L mi pc lv rest h h1 o cells slots) : zG p l e Rm s m args below meth c Q S0 D z L mi pc lv st h cells slots := by
  intro H locs ls hR hl hq T hT X
  subst hT
  subst hst
  have hts := zCx.ts (args := args) F C
  have CC := C
  obtain ⟨hx, hbb, hml, hown, hlocks, hret, hname, hW, hsz, htab, hag, hns⟩ := C
  obtain ⟨hr1, hr2, hlt, hcr, hac, hxl, hl3⟩ := hcf
  have h0 := zml_nz hk
  obtain ⟨hinit, w2, w3, hcl, hpar, hy⟩ := zmw (args := args) (s := s) h0 hlt hts
  have hstat := w2 hat
  obtain ⟨mk, methk, ck, hnamed, k1, k2, k3, k4, k5, k6, k7, k8, k9, k10, k11, k12⟩ := zmeth F hW h0 hlt
  have hstatic : methk.isStatic = true := Cond.static_spec hnamed k1 hstat
  obtain ⟨kP, hkP, -⟩ := className_of_methodNamed hnamed
  have hinitP : kP.init = .initialized := Cond.initialized_spec (findClass_of_methodNamed hnamed) hkP hinit
  have hlen : (as.map (zv S0 z)).length = methk.sig.parameters.length := by rw [List.length_map, hal, k12]
  have hstk : (F0 m pc ls ((as.reverse ++ rest).map (zv S0 z))).stack = (as.map (zv S0 z)).reverse ++ rest.map (zv S0 z) := by
    show (as.reverse ++ rest).map (zv S0 z) = _
    rw [List.map_append, List.map_reverse]
  have fin : ∀ vm₁, Stand p l e Rm s m args below meth c (T.setVm vm₁) locs cells slots → ∃ t, Steps p.tables e below (doInvoke e ((T.setVm vm₁).setTop (F0 m pc ls (rest.map (zv S0 z)))) [] mk (as.map (zv S0 z)).toArray).1 t ∧ Q t := by
    intro vm₁ X₁
    exact zfin Fx F CC hmi (T := T.setVm vm₁) hR X₁ hq hl hcr hd h0 hlt (X₁.named hnamed) hac hxl hcells hslots (by omega) (by omega) ih kk
  rcases (zml_ok hk).2 with hlk | ⟨host, hlk⟩
  · obtain ⟨vm₁, X₁, hstep₁⟩ := X.invokestatic hx hown (hts _ hlk) hnamed k1 hstatic hkP hinitP hy (g := F0 m pc ls ((as.reverse ++ rest).map (zv S0 z))) rfl (argsL := as.map (zv S0 z)) (rest := rest.map (zv S0 z)) hlen hstk (by rw [hbb]; exact hd)
    obtain ⟨t, a1, b1⟩ := fin vm₁ X₁
    exact ⟨t, hstep₁ _ fun acts => by rw [doInvoke_state]; exact a1, b1⟩
  · obtain ⟨vm₁, X₁, hstep₁⟩ := X.invokestaticNest hx hown (hts _ hlk) hnamed k1 hstatic hkP hinitP hy (g := F0 m pc ls ((as.reverse ++ rest).map (zv S0 z))) rfl (argsL := as.map (zv S0 z)) (rest := rest.map (zv S0 z)) hlen hstk (by rw [hbb]; exact hd)
    obtain ⟨t, a1, b1⟩ := fin vm₁ X₁
    exact ⟨t, hstep₁ _ fun acts => by rw [doInvoke_state]; exact a1, b1⟩
theorem zs_callI (Fx : zFx S0) (F : zFix S0 D z) (C : zCx S0 p s m meth c mi) (hmi : mi < zNm) {k len mj b : Nat} {as rest : List Value} (hd : decode (zcd mi) pc = .ok (.invokespecial k, 3)) (hk : zml (zoc mi) k = some mj) (hni : (zy mj).name = "<init>") (hcf : zCf mi mj (.ref b :: as) rest len) (hat : zat mj = false) (hal : as.length = znp mj) (hst : st = as.reverse ++ .ref b :: rest)
    {o : zOut} {h1 : zHp} (hcells : cells + (h1.1 - h.1) ≤ Rm.cells) (hslots : slots + (h1.2.1 - h.2.1) ≤ Rm.slots) (hfr : zrk mi ≤ Rm.frames) (hlo : zlo mi ≤ Rm.locals)
    (ih : zIh p l e S0 D z L mj (.ref b :: as) h h1 o) (kk : zKk p l e Rm s m args below meth c Q S0 D z L mi pc lv rest h h1 o cells slots) : zG p l e Rm s m args below meth c Q S0 D z L mi pc lv st h cells slots := by
  intro H locs ls hR hl hq T hT X
  subst hT
  subst hst
  have hts := zCx.ts (args := args) F C
  have CC := C
  obtain ⟨hx, hbb, hml, hown, hlocks, hret, hname, hW, hsz, htab, hag, hns⟩ := C
  obtain ⟨hr1, hr2, hlt, hcr, hac, hxl, hl3⟩ := hcf
  have h0 := zml_nz hk
  obtain ⟨-, w2, w3, hcl, hpar, hy⟩ := zmw (args := args) (s := s) h0 hlt hts
  obtain ⟨hinst, -⟩ := w3 hat
  obtain ⟨hrt, hcw⟩ := zinit_ok hlt hni
  rw [hrt] at hcw
  have hcode := hts _ hcw
  have hpl : e.platform.magicAccessors = ({} : Platform).magicAccessors := by rw [X.admits.platform]
  have hlen : ∀ sig, parseMethodDescriptor (zy mj).desc = some sig → (as.map (zv S0 z)).length = sig.parameters.length := by
    intro sig hsig
    rw [hsig] at hpar
    rw [List.length_map, hal]
    exact (Option.some.inj hpar).symm
  have hstk : (F0 m pc ls ((as.reverse ++ .ref b :: rest).map (zv S0 z))).stack = (as.map (zv S0 z)).reverse ++ .ref (zr S0 z b) :: rest.map (zv S0 z) := by
    show (as.reverse ++ .ref b :: rest).map (zv S0 z) = _
    rw [List.map_append, List.map_reverse]; rfl
  have fin : ∀ mk vm₁, s.methodNamed? (zy mj) = some mk → Stand p l e Rm s m args below meth c (T.setVm vm₁) locs cells slots → ∃ t, Steps p.tables e below (doInvoke e ((T.setVm vm₁).setTop (F0 m pc ls (rest.map (zv S0 z)))) [] mk ((.ref b :: as).map (zv S0 z)).toArray).1 t ∧ Q t := by
    intro mk vm₁ hnamed X₁
    exact zfin Fx F CC hmi (T := T.setVm vm₁) hR X₁ hq hl hcr hd h0 hlt (X₁.named hnamed) hac hxl hcells hslots (by omega) (by omega) ih kk
  rcases (zml_ok hk).2 with hlk | ⟨host, hlk⟩
  · obtain ⟨mk, methM, cM, kP, vm₁, hnamed, hmethM, hcodeM, -, hlocalsM, -, hkP, -, hW₁, hstep₁⟩ := Steps.initColdArgs (e := e) X.here hx X.warmed hpl hown hni hy (hts _ hlk) hinst hcode (f := F0 m pc ls ((as.reverse ++ .ref b :: rest).map (zv S0 z))) rfl hlen hstk (by rw [hbb]; exact hd)
    obtain ⟨t, a1, b1⟩ := fin mk vm₁ hnamed (X.noted hW₁)
    exact ⟨t, hstep₁ _ fun acts => by rw [doInvoke_state]; exact a1, b1⟩
  · obtain ⟨mk, methM, cM, kP, vm₁, hnamed, hmethM, hcodeM, -, hlocalsM, -, hkP, -, hW₁, hstep₁⟩ := Steps.initColdArgsNest (e := e) X.here hx X.warmed hpl hown hni hy (hts _ hlk) hinst hcode (f := F0 m pc ls ((as.reverse ++ .ref b :: rest).map (zv S0 z))) rfl hlen hstk (by rw [hbb]; exact hd)
    obtain ⟨t, a1, b1⟩ := fin mk vm₁ hnamed (X.noted hW₁)
    exact ⟨t, hstep₁ _ fun acts => by rw [doInvoke_state]; exact a1, b1⟩
end ZCK
end
section
/-! A THROW: the walk is begun anew at the point where it stands, so that what was made before keeps its contents -/
section ZTH
variable {p : Program} {l : Launch} {e : Env} {Rm : Room} {s : State} {m : MethodId} {args : Array Value} {below : List Frame} {meth : Method} {c : Code} {H : Heap} {locs : List Loc} {cells slots : Nat} {Q : State → Prop}
variable {S0 : State} {D : va_G} {z : Nat → Nat} {L mi pc : Nat} {lv : zLv} {st : List Value} {h : zHp} {ls : Array Slot}
theorem zhears {s s' : State} (hvm : s.vm.Alike s'.vm) {m : MethodId} {below : List Frame} (h : s.hears m below = true) : s'.hears m below = true := by
  have hm : ∀ k, s'.vm.method? k = s.vm.method? k := fun k => hvm.method? k
  have hc : ∀ k, s'.code? k = s.code? k := fun k => by rw [State.code?_eq, State.code?_eq, hm]
  unfold State.hears at h ⊢
  split
  next g r => dsimp only at h; rw [hc]; exact h
  next => rfl
  next => rfl
  next h1 h2 h3 =>
    split at h
    next => exact absurd rfl (h1 _ _)
    next => exact absurd rfl (h2 _ _)
    next => exact absurd rfl (h3 _ _)
    next => rw [hm]; exact h
theorem zrebase {T : State} (X : Stand p l e Rm s m args below meth c T locs cells slots) (hc : cells ≤ Rm.cells) (hs : slots ≤ Rm.slots) :
    Stand p l e { frames := Rm.frames, cells := Rm.cells - cells, slots := Rm.slots - slots, locals := Rm.locals } (T.setFrames (.invoking m args :: below)) m args below meth c T [] 0 0 := by
  obtain ⟨g₀, hg₀⟩ := X.frames_eq
  obtain ⟨th, hth, -⟩ := State.frames_cons hg₀
  have hcur : T.cur < T.threads.size := (Array.getElem?_eq_some_iff.mp hth).1
  have hfr : (T.setFrames (.invoking m args :: below)).frames = .invoking m args :: below := State.frames_setFrames _ hcur
  have hal := X.warmed.alike
  have hm : (T.setFrames (.invoking m args :: below)).vm.method? m = some meth := by
    show T.vm.method? m = _
    rw [hal.method?]; exact X.method
  obtain ⟨e2, q2, q3, q4, q5, q6⟩ := X.same
  have hcT : T.heap.size ≤ s.heap.size + cells := q3
  have hsT : T.slotsUsed ≤ s.slotsUsed + slots := by
    have q4' : T.slotsUsed = s.slotsUsed + ((T.heap.toList.drop s.heap.size).map (·.slots.size)).sum := q4
    have q5' : ((T.heap.toList.drop s.heap.size).map (·.slots.size)).sum ≤ slots := q5
    omega
  have hcur' : (T.setFrames (.invoking m args :: below)).cur < (T.setFrames (.invoking m args :: below)).threads.size := State.cur_lt_of_frames hfr
  obtain ⟨th', hth', -⟩ := State.frames_cons hfr
  refine ⟨X.admits, X.cas, X.clock, hfr, ?_, zhears (s := s) hal X.hears, hm, X.code, X.here, X.tail, State.WarmedH.refl _, by rw [State.stackLimits_setFrames], by rw [State.stackBytes_setFrames], ?_⟩
  · refine State.hasRoom_ride (s := s) (r := Rm) ?_ ?_ ?_ ?_ ?_ ?_ ?_ X.room
    · rw [hfr, X.frames]; exact Nat.le_refl _
    · rw [State.localsInUse_invoking hfr hm X.code, State.localsInUse_invoking X.frames X.method X.code]; exact Nat.le_refl _
    · rw [State.stackLimits_setFrames]; exact X.limits
    · rw [State.stackBytes_setFrames]; exact X.bytes
    · show T.heap.size + (Rm.cells - cells) ≤ _
      omega
    · show T.slotsUsed + (Rm.slots - slots) ≤ _
      omega
    · exact X.book
  · have h := (State.sameButNew.refl (T.setFrames (.invoking m args :: below)) hth').setFrames (.java g₀ :: below) hcur'
    have : (T.setFrames (.invoking m args :: below)).setFrames (.java g₀ :: below) = T := by
      rw [State.setFrames_setFrames, ← hg₀]
      exact State.setFrames_self hth
    rw [this] at h
    exact h
theorem zxl_all : (List.range 10).all (fun oc => (zxlL.getD oc []).all (fun q => decide (q.2.1 < 2))) = true := by decide +kernel
theorem zxi_all : (List.range 2).all (fun x => zat0 (44 + x) (.initialized (zxn x)) && Jvm.Bundle.fit (zxn x)) = true := by decide +kernel
theorem zs_throw (hfl : l.flags = pinnedFlags ++ [noTraceFlag]) (Fx : zFx S0) (F : zFix S0 D z) (C : zCx S0 p s m meth c mi) {k x : Nat} {o : zOut} {h' : zHp} (hd : decode (zcd mi) pc = .ok (.new k, 3)) (hk : zcl (zoc mi) k = some (.inr x)) (hz : zthrow L mi pc x st h = some (.inr (.inr (o, h')))) (hc1 : cells + 1 ≤ Rm.cells) (hs1 : slots + 6 ≤ Rm.slots) (hfr : zrk mi ≤ Rm.frames) (hlo : zlo mi ≤ Rm.locals) :
    h'.1 = h.1 + 1 ∧ h'.2.1 = h.2.1 + 6 ∧ zG p l e Rm s m args below meth c (zEnd S0 D z L s below o h' (cells + 1) (slots + 6)) S0 D z L mi pc lv st h cells slots := by
  unfold zthrow at hz
  split at hz
  next is ic e3 e4 e6 e9 =>
    split at hz
    next hh =>
      cases hz
      refine ⟨rfl, rfl, ?_⟩
      obtain ⟨⟨⟨hxl, hK⟩, hhd, hxs⟩, ⟨h6, h90⟩, hcat⟩ := hh
      intro H locs ls hR hl hq T hT X
      subst hT
      obtain ⟨hx, hb, hml, hown, hlocks, hret, hname, hW, hsz, htab, hag, hns⟩ := C
      have Xr := zrebase X (by omega) (by omega)
      have htr := Launch.traces_off hfl X.admits
      have hWT : S0.WarmedH T.vm := State.WarmedH.trans hW X.warmed
      have hx2 : x < 2 := by
        obtain ⟨q, hq', hk', e⟩ := zfind hxl
        have hc := zall zxl_all (by decide) hq'
        cases e
        exact of_decide_eq_true hc
      have hxi := List.all_eq_true.mp zxi_all x (List.mem_range.mpr hx2)
      rw [Bool.and_eq_true] at hxi
      generalize hs' : T.setFrames (.invoking m args :: below) = s' at Xr
      have hvm' : s'.vm = T.vm := by rw [← hs']; rfl
      have hhp' : s'.heap = T.heap := by rw [← hs']; rfl
      have hW' : S0.WarmedH s'.vm := by rw [hvm']; exact hWT
      have hts' : ∀ w ∈ zws, w.before args s' = true := fun w hw => F.1 w hw args s' hW'
      have hown' : s'.vm.findClass (zcn (zoc mi)) = some m.cls := by rw [hvm']; exact (X.warmed.alike.findClass _ _).trans hown
      have hat := Fx.2.1 (zoc mi) ic x hxl s' args hW' (fun q hq => by rw [hhp']; exact hR.2.2.1 q hq)
      obtain ⟨tx, qs, hstr⟩ := Fx.2.2 (zoc mi) is hxs
      have hstr' := vk_R.warm hW' hstr
      have hout : ∀ y ∈ c.exceptionTable.toList, covers y (pc + 9) = false := by
        intro y hy
        rcases htab with ht | ht
        · rw [hhd] at ht; cases ht
        · rw [hhd] at ht
          rw [List.map_eq_nil_iff.mp ht] at hy
          cases hy
      have hcatm : (((st.map (zv S0 z)).map fun v => v.category)).sum ≤ 8 := by rw [zcat_map]; exact hcat
      have key : W p l e { frames := Rm.frames, cells := Rm.cells - cells, slots := Rm.slots - slots, locals := Rm.locals } s' m args below meth c T.heap [] 0 0
          (fun t => t.status = .running ∧ Ended t below (.threw T.heap.size) ∧ s'.WarmedH t.vm ∧ s'.sameButNew ({ t with vm := s'.vm } : State) [] 1 6 ∧ ∃ ce : Cell, t.heap[T.heap.size]? = some ce ∧ ce.vm = .none ∧ s'.vm.findClass (zxn x) = some ce.cls) (F0 m pc ls (st.map (zv S0 z))) := by
        refine W.newc hx hb hown' (hts' _ (zclx_ok hk)) (hat (.instantiable (zxn x) 6) (by simp [Jvm.Bundle.ownAtoms])) (hts' _ (zin hxi.1)) rfl hd (by show 0 + 1 ≤ Rm.cells - cells; omega) (by show 0 + 6 ≤ Rm.slots - slots; omega) (fun cC kC q1 q2 q3 q4 => ?_)
        refine lv_dup (pc := pc + 3) (va := .ref T.heap.size) hx hb e3 rfl ?_
        refine va_ldcS (pc := pc + 4) hx hb hown' hstr' e4 ?_
        intro W2 hW2 X2
        obtain ⟨U, u1, u2, u3, u4, u5, ce, u6, u7⟩ := X2.ctorThrowS hx htr (names := zxnames) hown' hxi.2 (by decide +kernel) hat (fun y hy => by cases hy) q1 q2 (a := T.heap.size) (by rw [hW2]; simp [freshCell]) (by rw [hhp']; exact Nat.le_refl _) (msg := .ref qs) rfl
          (g := F0 m (pc + 6) ls (.ref qs :: .ref T.heap.size :: .ref T.heap.size :: st.map (zv S0 z))) rfl (by rw [hml]; exact hl.size) rfl rfl rfl (by rw [hb]; exact e6) (by rw [hb]; exact e9) hout (by show 2 + 3 < Rm.frames; omega) (by
            show 2 * 0 + (((Value.ref T.heap.size :: st.map (zv S0 z)).map fun v => v.category)).sum + (13 * (2 + 1) + 42) ≤ Rm.locals
            rw [List.map_cons, List.sum_cons]
            show 2 * 0 + (1 + _) + _ ≤ _
            omega) hlocks
        exact ⟨U, u1, u2, u3, u4, u5, ce, u6, u7.vm, u7.cls⟩
      obtain ⟨t, a1, b1, b2, b3, b4, ce, b5, b6, b7⟩ := key T rfl Xr
      have hzr := zr_new hR
      have hts : t.heap.size = T.heap.size + 1 := by
        have h1 := (Array.getElem?_eq_some_iff.mp b5).1
        have h2 : t.heap.size ≤ s'.heap.size + 1 := b4.2.2.1
        rw [hhp'] at h2
        omega
      have hold : ∀ q : Nat, q < T.heap.size → t.heap[q]? = T.heap[q]? := by
        intro q hq
        have h1 : s'.heap[q]? = some T.heap[q] := by rw [hhp']; exact Array.getElem?_eq_getElem hq
        have h2 : t.heap[q]? = some T.heap[q] := b4.old_cell h1
        rw [h2, Array.getElem?_eq_getElem hq]
      have hfX : s.sameButNew ({ t with vm := s.vm } : State) locs (cells + 1) (slots + 6) := by
        have h1 := X.same.setFrames (.invoking m args :: below) X.cur
        have e1 : (T.setVm s.vm).setFrames (.invoking m args :: below) = s'.setVm s.vm := by rw [← hs']; rfl
        rw [e1] at h1
        have h2 := h1.trans (b4.setVm s.vm)
        rw [List.append_nil] at h2
        exact h2
      refine ⟨t, a1, _, b1, b2, ?_, ?_, ⟨locs, hfX, hq⟩, ?_⟩
      · exact State.WarmedH.trans (show s.WarmedH s'.vm by rw [hvm']; exact X.warmed) b3
      · exact hR.new rfl (fun b hb t j => rfl) b5 (by rw [b6]; rfl) (fun kd hkd => by rw [hK] at hkd; cases hkd) hts hold
      · refine ⟨by rw [hzr], ce, by rw [hzr]; exact b5, b6, ?_⟩
        rw [← b7]; exact (hW'.alike.findClass _ _).symm
    next => cases hz
  next => cases hz
end ZTH
end
section
/-! THE SOUNDNESS OF THE LOGICAL MACHINE -/
def zMo (h : zHp) (r : zRes) : Prop := match r with
  | .inl (_, _, _, h') => h.1 ≤ h'.1 ∧ h.2.1 ≤ h'.2.1
  | .inr (.inl (mj, _, _, len)) => len = 3 ∧ mj < zNm
  | .inr (.inr (_, h')) => h.1 ≤ h'.1 ∧ h.2.1 ≤ h'.2.1
def zOk (p : Program) (l : Launch) (e : Env) (S0 : State) (D : va_G) (z : Nat → Nat) (L mi pc : Nat) (lv : zLv) (st : List Value) (h : zHp) (r : zRes) : Prop :=
  ∀ (Rm : Room) (s : State) (m : MethodId) (args : Array Value) (below : List Frame) (meth : Method) (c : Code) (cells slots : Nat) (Q : State → Prop), zCx S0 p s m meth c mi → zrk mi ≤ Rm.frames → zlo mi ≤ Rm.locals → match r with
  | .inl (pc', lv', st', h') => cells + (h'.1 - h.1) ≤ Rm.cells → slots + (h'.2.1 - h.2.1) ≤ Rm.slots → zG p l e Rm s m args below meth c Q S0 D z L mi pc' lv' st' h' (cells + (h'.1 - h.1)) (slots + (h'.2.1 - h.2.1)) → zG p l e Rm s m args below meth c Q S0 D z L mi pc lv st h cells slots
  | .inr (.inl (mj, as, rest, _)) => ∀ (o : zOut) (h1 : zHp), cells + (h1.1 - h.1) ≤ Rm.cells → slots + (h1.2.1 - h.2.1) ≤ Rm.slots → zIh p l e S0 D z L mj as h h1 o → zKk p l e Rm s m args below meth c Q S0 D z L mi pc lv rest h h1 o cells slots → zG p l e Rm s m args below meth c Q S0 D z L mi pc lv st h cells slots
  | .inr (.inr (o, h')) => cells + (h'.1 - h.1) ≤ Rm.cells → slots + (h'.2.1 - h.2.1) ≤ Rm.slots → zG p l e Rm s m args below meth c (zEnd S0 D z L s below o h' (cells + (h'.1 - h.1)) (slots + (h'.2.1 - h.2.1))) S0 D z L mi pc lv st h cells slots
def zAll (p : Program) (l : Launch) (e : Env) (S0 : State) (D : va_G) (z : Nat → Nat) (L mi pc : Nat) (lv : zLv) (st : List Value) (h : zHp) (r : zRes) : Prop := zMo h r ∧ zOk p l e S0 D z L mi pc lv st h r
section ZSO
variable {p : Program} {l : Launch} {e : Env} {S0 : State} {D : va_G} {z : Nat → Nat} {L mi pc pc' : Nat} {lv lv' : zLv} {st st' : List Value} {h h' : zHp} {r : zRes}
theorem zleaf (hk : ∀ (Rm : Room) (s : State) (m : MethodId) (args : Array Value) (below : List Frame) (meth : Method) (c : Code) (cells slots : Nat) (Q : State → Prop), zCx S0 p s m meth c mi → zrk mi ≤ Rm.frames → zlo mi ≤ Rm.locals → cells ≤ Rm.cells → slots ≤ Rm.slots →
      zG p l e Rm s m args below meth c Q S0 D z L mi pc' lv' st' h' cells slots → zG p l e Rm s m args below meth c Q S0 D z L mi pc lv st h cells slots) (h1 : h'.1 = h.1) (h2 : h'.2.1 = h.2.1) : zAll p l e S0 D z L mi pc lv st h (.inl (pc', lv', st', h')) := by
  refine ⟨⟨by rw [h1]; exact Nat.le_refl _, by rw [h2]; exact Nat.le_refl _⟩, fun Rm s m args below meth c cells slots Q C hfr hlo => ?_⟩
  show _ → _ → _ → _
  rw [h1, h2, Nat.sub_self, Nat.sub_self, Nat.add_zero, Nat.add_zero]
  exact hk Rm s m args below meth c cells slots Q C hfr hlo
/-- what ends a step -/
theorem zn_all (hs : zn pc' lv' st' h' = some r) (hk : zAll p l e S0 D z L mi pc lv st h (.inl (pc', lv', st', h'))) : zAll p l e S0 D z L mi pc lv st h r := by
  cases hs; exact hk
theorem zcall_all (hfl : l.flags = pinnedFlags ++ [noTraceFlag]) (Fx : zFx S0) (F : zFix S0 D z) (hmi : mi < zNm) {k len mj : Nat} {rv : Bool} {i : Instr} (hd : decode (zcd mi) pc = .ok (i, 3)) (hi : i = .invokevirtual k ∧ rv = true ∧ (zy mj).name ≠ "<init>" ∨ i = .invokespecial k ∧ rv = true ∧ (zy mj).name = "<init>" ∨ i = .invokestatic k ∧ rv = false) (hk : zml (zoc mi) k = some mj) (hs : zcall mi mj rv L h st = some r) : zAll p l e S0 D z L mi pc lv st h r := by
  have hsh : ∃ as rest len, r = .inr (.inl (mj, as, rest, len)) := by
    unfold zcall at hs
    split at hs
    next =>
      split at hs
      next as' rest' ht =>
        refine Decidable.byCases (fun h2 => ?_) (fun h2 => by rw [if_neg h2] at hs; cases hs)
        rw [if_pos h2] at hs
        cases rv
        · dsimp only at hs
          split at hs
          · cases hs; exact ⟨_, _, _, rfl⟩
          · cases hs
        · dsimp only at hs
          split at hs
          · split at hs
            · cases hs; exact ⟨_, _, _, rfl⟩
            · cases hs
          · cases hs
      next => cases hs
    next => cases hs
  obtain ⟨as, rest, len, rfl⟩ := hsh
  rcases hi with ⟨rfl, rfl, hn⟩ | ⟨rfl, rfl, hn⟩ | ⟨rfl, rfl⟩
  · obtain ⟨-, hcf, hat, b, as', rfl, e2, e3, e4⟩ := zcall_true hs
    exact ⟨⟨hcf.2.2.2.2.2.2, hcf.2.2.1⟩, fun Rm s m args below meth c cells slots Q C hfr hlo o h1 hc1 hc2 ih kk => zs_callV Fx F C hmi hd hk hn hcf hat e2 e3 e4 hc1 hc2 hfr hlo ih kk⟩
  · obtain ⟨-, hcf, hat, b, as', rfl, e2, e3, e4⟩ := zcall_true hs
    exact ⟨⟨hcf.2.2.2.2.2.2, hcf.2.2.1⟩, fun Rm s m args below meth c cells slots Q C hfr hlo o h1 hc1 hc2 ih kk => zs_callI Fx F C hmi hd hk hn hcf hat e2 e3 hc1 hc2 hfr hlo ih kk⟩
  · obtain ⟨-, hcf, hat, e2, e3⟩ := zcall_false hs
    exact ⟨⟨hcf.2.2.2.2.2.2, hcf.2.2.1⟩, fun Rm s m args below meth c cells slots Q C hfr hlo o h1 hc1 hc2 ih kk => zs_callS Fx F C hmi hd hk hcf hat e2 e3 hc1 hc2 hfr hlo ih kk⟩
theorem zdone {o : zOut} (hk : ∀ (Rm : Room) (s : State) (m : MethodId) (args : Array Value) (below : List Frame) (meth : Method) (c : Code) (cells slots : Nat), zCx S0 p s m meth c mi → zG p l e Rm s m args below meth c (zEnd S0 D z L s below o h cells slots) S0 D z L mi pc lv st h cells slots) : zAll p l e S0 D z L mi pc lv st h (.inr (.inr (o, h))) := by
  refine ⟨⟨Nat.le_refl _, Nat.le_refl _⟩, fun Rm s m args below meth c cells slots Q C hfr hlo => ?_⟩
  show _ → _ → zG _ _ _ _ _ _ _ _ _ _ _ _ _ _ _ _ _ _ _ _ _ _
  rw [Nat.sub_self, Nat.sub_self, Nat.add_zero, Nat.add_zero]
  exact fun _ _ => hk Rm s m args below meth c cells slots C
theorem zins2_all (hfl : l.flags = pinnedFlags ++ [noTraceFlag]) (Fx : zFx S0) (F : zFix S0 D z) (hmi : mi < zNm) {i : Instr} {len : Nat} (hd : decode (zcd mi) pc = .ok (i, len)) (hlen : zlok i len = true) (hs : zins2 L mi pc lv st h i len = some r) : zAll p l e S0 D z L mi pc lv st h r := by
  unfold zins2 at hs
  split at hs
  next k => -- ldc
    split at hs
    next v hv => exact zn_all hs (zleaf (fun _ _ _ _ _ _ _ _ _ _ C _ _ _ _ => zs_ldc F C hd hlen hv) rfl rfl)
    next => cases hs
  next k => -- ldc2_w
    split at hs
    next v hv => exact zn_all hs (zleaf (fun _ _ _ _ _ _ _ _ _ _ C _ _ _ _ => zs_ldc2 F C hd hlen hv) rfl rfl)
    next => cases hs
  next k n => -- iinc
    split at hs
    next => cases hs
    next hg =>
      split at hs
      next x hv => exact zn_all hs (zleaf (fun _ _ _ _ _ _ _ _ _ _ C _ _ _ _ => zs_iinc C hd hlen (by simpa using hg) hv) rfl rfl)
      next => cases hs
  next off => -- goto
    split at hs
    next ho => exact zn_all hs (zleaf (fun _ _ _ _ _ _ _ _ _ _ C _ _ _ _ => zs_goto C hd hlen ho) rfl rfl)
    next => cases hs
  next cd off => -- ifCond
    split at hs
    next x r' =>
      split at hs
      next ho => exact zn_all hs (zleaf (fun _ _ _ _ _ _ _ _ _ _ C _ _ _ _ => zs_if C hd hlen ho) rfl rfl)
      next => cases hs
    next => cases hs
  next cd off => -- if_icmp
    split at hs
    next y x r' =>
      split at hs
      next ho => exact zn_all hs (zleaf (fun _ _ _ _ _ _ _ _ _ _ C _ _ _ _ => zs_icmp C hd hlen ho) rfl rfl)
      next => cases hs
    next => cases hs
  next d lo hi offs => -- tableswitch
    split at hs
    next x r' =>
      split at hs
      next ho => exact zn_all hs (zleaf (fun _ _ _ _ _ _ _ _ _ _ C _ _ _ _ => zs_sw C hd ho.1 ho.2) rfl rfl)
      next => cases hs
    next => cases hs
  next k => -- getfield
    split at hs
    next a r' ci f hf =>
      split at hs
      next ho => exact zn_all hs (zleaf (fun _ _ _ _ _ _ _ _ _ _ C _ _ _ _ => zs_getf F C hd hlen hf ho.1 ho.2) rfl rfl)
      next => cases hs
    next => cases hs
  next k => -- putfield
    split at hs
    next v a r' ci f hf =>
      split at hs
      next ho =>
        unfold zo at hs
        split at hs
        next h2 hp =>
          obtain ⟨q1, q2, -⟩ := zput_facts (S0 := S0) (z := z) hp
          exact zn_all hs (zleaf (fun _ _ _ _ _ _ _ _ _ _ C _ _ _ _ => zs_putf F C hd hlen hf ho.1.1 ho.1.2.1 ho.1.2.2 ho.2 hp) q1 q2)
        next => cases hs
      next => cases hs
    next => cases hs
  next k => -- getstatic
    split at hs
    next a ha => exact zn_all hs (zleaf (fun _ _ _ _ _ _ _ _ _ _ C _ _ _ _ => zs_gets F C hd hlen ha) rfl rfl)
    next => cases hs
  next => -- aastore
    split at hs
    next v j a r' =>
      split at hs
      next ci C n hkv hka =>
        split at hs
        next ho =>
          obtain ⟨⟨rfl, h2⟩, h3, h4⟩ := ho
          exact zn_all hs (zleaf (fun _ _ _ _ _ _ _ _ _ _ C _ _ _ _ => zs_aast F C hd hlen hkv hka h2 h3 h4) rfl rfl)
        next => cases hs
      next => cases hs
    next => cases hs
  next => -- arraylength
    split at hs
    next a r' =>
      split at hs
      next t n hk => exact zn_all hs (zleaf (fun _ _ _ _ _ _ _ _ _ _ C _ _ _ _ => zs_alen F C hd hlen hk) rfl rfl)
      next => cases hs
    next => cases hs
  next k => -- new
    split at hs
    next ci hci =>
      split at hs
      next hK =>
        cases hs
        refine ⟨⟨by show h.1 ≤ h.1 + 1; omega, by show h.2.1 ≤ h.2.1 + zfN ci; omega⟩, fun Rm s m args below meth c cells slots Q C hfr hlo hc1 hc2 kk => ?_⟩
        have e1 : (znew h (zfN ci)).1 - h.1 = 1 := by show h.1 + 1 - h.1 = 1; omega
        have e2 : (znew h (zfN ci)).2.1 - h.2.1 = zfN ci := by show h.2.1 + zfN ci - h.2.1 = _; omega
        rw [e1] at hc1 kk
        rw [e2] at hc2 kk
        exact zs_new F C hd hlen hci hK hc1 hc2 kk
      next => cases hs
    next x hx =>
      have hsh : ∃ o h', r = .inr (.inr (o, h')) := by
        unfold zthrow at hs
        split at hs
        · split at hs
          · cases hs; exact ⟨_, _, rfl⟩
          · cases hs
        · cases hs
      obtain ⟨o, h', rfl⟩ := hsh
      simp only [zlok, zlen, beq_iff_eq] at hlen
      subst hlen
      have hmo : h'.1 = h.1 + 1 ∧ h'.2.1 = h.2.1 + 6 := by
        unfold zthrow at hs
        split at hs
        · split at hs
          · cases hs; exact ⟨rfl, rfl⟩
          · cases hs
        · cases hs
      refine ⟨⟨by show h.1 ≤ h'.1; omega, by show h.2.1 ≤ h'.2.1; omega⟩, fun Rm s m args below meth c cells slots Q C hfr hlo hc1 hc2 => ?_⟩
      have e1 : h'.1 - h.1 = 1 := by omega
      have e2 : h'.2.1 - h.2.1 = 6 := by omega
      rw [e1] at hc1 ⊢
      rw [e2] at hc2 ⊢
      exact (zs_throw hfl Fx F C hd hx hs hc1 hc2 hfr hlo).2.2
    next => cases hs
  next t => -- newarray
    split at hs
    next n r' =>
      split at hs
      next ho =>
        cases hs
        refine ⟨⟨by show h.1 ≤ h.1 + 1; omega, by show h.2.1 ≤ h.2.1 + _; omega⟩, fun Rm s m args below meth c cells slots Q C hfr hlo hc1 hc2 kk => ?_⟩
        have e1 : (znew h n.toNatClampNeg).1 - h.1 = 1 := by show h.1 + 1 - h.1 = 1; omega
        have e2 : (znew h n.toNatClampNeg).2.1 - h.2.1 = n.toNatClampNeg := by show h.2.1 + n.toNatClampNeg - h.2.1 = _; omega
        rw [e1] at hc1 kk
        rw [e2] at hc2 kk
        exact zs_newa F C hd hlen ho.1.2 ho.1.1 ho.2.1 ho.2.2 hc1 hc2 kk
      next => cases hs
    next => cases hs
  next k => -- anewarray
    split at hs
    next n r' A hA =>
      split at hs
      next ho =>
        cases hs
        refine ⟨⟨by show h.1 ≤ h.1 + 1; omega, by show h.2.1 ≤ h.2.1 + _; omega⟩, fun Rm s m args below meth c cells slots Q C hfr hlo hc1 hc2 kk => ?_⟩
        have e1 : (znew h n.toNatClampNeg).1 - h.1 = 1 := by show h.1 + 1 - h.1 = 1; omega
        have e2 : (znew h n.toNatClampNeg).2.1 - h.2.1 = n.toNatClampNeg := by show h.2.1 + n.toNatClampNeg - h.2.1 = _; omega
        rw [e1] at hc1 kk
        rw [e2] at hc2 kk
        exact zs_anew F C hd hlen hA ho.1 ho.2.1 ho.2.2 hc1 hc2 kk
      next => cases hs
    next => cases hs
  next k => -- multianewarray
    split at hs
    next w n r' =>
      split at hs
      next ho =>
        obtain ⟨⟨h1, h2, h3⟩, ⟨h4, h5⟩, h6, h7⟩ := ho
        cases hs
        refine ⟨⟨by show h.1 ≤ h.1 + 1 + _; omega, by show h.2.1 ≤ h.2.1 + _ + _; omega⟩, fun Rm s m args below meth c cells slots Q C hfr hlo hc1 hc2 kk => ?_⟩
        have e1 : (zrows h n.toNatClampNeg w.toNatClampNeg).1 - h.1 = 1 + n.toNatClampNeg := by show h.1 + 1 + n.toNatClampNeg - h.1 = _; omega
        have e2 : (zrows h n.toNatClampNeg w.toNatClampNeg).2.1 - h.2.1 = n.toNatClampNeg + n.toNatClampNeg * w.toNatClampNeg := by show h.2.1 + n.toNatClampNeg + n.toNatClampNeg * w.toNatClampNeg - h.2.1 = _; omega
        rw [e1] at hc1
        rw [e2] at hc2
        rw [e1, e2, ← Nat.add_assoc, ← Nat.add_assoc] at kk
        exact zs_multi F C hd hlen h1 h2 h3 h4 (fun i hi => of_decide_eq_true (List.all_eq_true.mp h5 i (List.mem_range.mpr hi))) h6 h7 hc1 hc2 kk
      next => cases hs
    next => cases hs
  next k => -- invokespecial
    split at hs
    next hob =>
      split at hs
      next a r' =>
        split at hs
        next ho => exact zn_all hs (zleaf (fun _ _ _ _ _ _ _ _ _ _ C hfr hlo _ _ => zs_obj F C hd hlen hob (by omega) (by omega)) rfl rfl)
        next => cases hs
      next => cases hs
    next =>
      split at hs
      next mj hk =>
        split at hs
        next hn =>
          simp only [zlok, zlen, beq_iff_eq] at hlen
          subst hlen
          exact zcall_all hfl Fx F hmi (len := 3) hd (Or.inr (Or.inl ⟨rfl, rfl, hn⟩)) hk hs
        next => cases hs
      next => cases hs
  next k => -- invokevirtual
    split at hs
    next mj hk =>
      split at hs
      next => cases hs
      next hn =>
        simp only [zlok, zlen, beq_iff_eq] at hlen
        subst hlen
        exact zcall_all hfl Fx F hmi (len := 3) hd (Or.inl ⟨rfl, rfl, hn⟩) hk hs
    next => cases hs
  next k => -- invokestatic
    split at hs
    next hac =>
      unfold zacopy at hs
      split at hs
      next n dp d sp sr r' =>
        split at hs
        next n0 n1 hks hkd =>
          split at hs
          next ho =>
            obtain ⟨⟨⟨a1, a2, a3⟩, a4, a5⟩, ⟨a6, a7⟩, a8, a9⟩ := ho
            simp only [zlok, zlen, beq_iff_eq] at hlen
            subst hlen
            exact zn_all hs (zleaf (fun _ _ _ _ _ _ _ _ _ _ C hfr hlo _ _ => zs_copy F C hd rfl hac hks hkd a1 a2 a3 a4 a5 a6 (by omega) (by omega)) rfl rfl)
          next => cases hs
        next => cases hs
      next => cases hs
    next =>
      split at hs
      next hmn =>
        split at hs
        next y x r' =>
          split at hs
          next ho => exact zn_all hs (zleaf (fun _ _ _ _ _ _ _ _ _ _ C hfr hlo hc hsl => zs_min F C hd hlen hmn (by omega) (by omega) hc hsl) rfl rfl)
          next => cases hs
        next => cases hs
      next =>
        split at hs
        next mj hk =>
          simp only [zlok, zlen, beq_iff_eq] at hlen
          subst hlen
          exact zcall_all hfl Fx F hmi (len := 3) hd (Or.inr (Or.inr ⟨rfl, rfl⟩)) hk hs
        next => cases hs
  next => -- ireturn
    unfold zret at hs
    split at hs
    next v hr => cases hs; exact zdone (fun _ _ _ _ _ _ _ _ _ C => zs_iret C hd hlen (Or.inl hr))
    next v hr =>
      split at hs
      next hv => cases hs; exact zdone (fun _ _ _ _ _ _ _ _ _ C => zs_iret C hd hlen (Or.inr ⟨hr, hv⟩))
      next => cases hs
    next => cases hs
  next => -- areturn
    unfold zaret at hs
    split at hs
    next v n hr => cases hs; exact zdone (fun _ _ _ _ _ _ _ _ _ C => zs_aret C hd hlen hr (Or.inl ⟨_, rfl⟩))
    next v n hr => cases hs; exact zdone (fun _ _ _ _ _ _ _ _ _ C => zs_aret C hd hlen hr (Or.inr ⟨_, rfl⟩))
    next => cases hs
  next => -- return
    unfold zvret at hs
    split at hs
    next hr => cases hs; exact zdone (fun _ _ _ _ _ _ _ _ _ C => zs_vret C hd hlen hr)
    next => cases hs
  next => -- arithmetic
    split at hs
    next y x r' =>
      split at hs
      next v hv => exact zn_all hs (zleaf (fun _ _ _ _ _ _ _ _ _ _ C _ _ _ _ => zs_bin C hd hlen hv) rfl rfl)
      next => cases hs
    next => cases hs
theorem zstep_all (hfl : l.flags = pinnedFlags ++ [noTraceFlag]) (Fx : zFx S0) (F : zFix S0 D z) (hmi : mi < zNm) (hs : zstep L mi pc lv st h = some r) : zAll p l e S0 D z L mi pc lv st h r := by
  unfold zstep at hs
  split at hs
  next i len hd =>
    split at hs
    next hlen =>
      unfold zins at hs
      split at hs
      next v hv => exact zn_all hs (zleaf (fun _ _ _ _ _ _ _ _ _ _ C _ _ _ _ => zs_const C hd hlen hv) rfl rfl)
      next =>
        split at hs
        next q hq =>
          unfold zpush at hs
          split at hs
          next v hv => exact zn_all hs (zleaf (fun _ _ _ _ _ _ _ _ _ _ C _ _ _ _ => zs_load C hd hlen hq hv) rfl rfl)
          next => cases hs
        next =>
          split at hs
          next q hq =>
            split at hs
            next v r' =>
              split at hs
              next ho => exact zn_all hs (zleaf (fun _ _ _ _ _ _ _ _ _ _ C _ _ _ _ => zs_store C hd hlen hq ho.1.1 ho.1.2 ho.2) rfl rfl)
              next => cases hs
            next => cases hs
          next =>
            split at hs
            next ty hty =>
              split at hs
              next j a r' =>
                unfold zpush at hs
                split at hs
                next v hv => exact zn_all hs (zleaf (fun _ _ _ _ _ _ _ _ _ _ C _ _ _ _ => zs_ald F C hd hlen hty hv) rfl rfl)
                next => cases hs
              next => cases hs
            next =>
              split at hs
              next ty hty =>
                split at hs
                next v j a r' =>
                  unfold zo at hs
                  split at hs
                  next h2 hp =>
                    have hp' := hp
                    unfold zast at hp'
                    split at hp'
                    next t n hkk =>
                      split at hp'
                      next =>
                        obtain ⟨q1, q2, -⟩ := zput_facts (S0 := S0) (z := z) hp'
                        exact zn_all hs (zleaf (fun _ _ _ _ _ _ _ _ _ _ C _ _ _ _ => zs_ast F C hd hlen hty hp) q1 q2)
                      next => cases hp'
                    next => cases hp'
                  next => cases hs
                next => cases hs
              next =>
                split at hs
                next st' hst => exact zn_all hs (zleaf (fun _ _ _ _ _ _ _ _ _ _ C _ _ _ _ => zs_stk C hd hlen hst) rfl rfl)
                next => exact zins2_all hfl Fx F hmi hd hlen hs
    next => cases hs
  next => cases hs
/-- runs of the logical machine only make -/
theorem zev_mono (p : Program) (e : Env) (hfl : l.flags = pinnedFlags ++ [noTraceFlag]) (Fx : zFx S0) (F : zFix S0 D z) : ∀ (n mi pc : Nat) (lv : zLv) (st : List Value) (h h' : zHp) (o : zOut), mi < zNm → zev L n mi pc lv st h = some (o, h') → h.1 ≤ h'.1 ∧ h.2.1 ≤ h'.2.1 := by
  intro n
  induction n with
  | zero => intro mi pc lv st h h' o _ hr; simp [zev] at hr
  | succ n ih =>
    intro mi pc lv st h h' o hmi hr
    rw [zev] at hr
    cases hs : zstep L mi pc lv st h with
    | none => rw [hs] at hr; cases hr
    | some q =>
      have hm := (zstep_all (p := p) (e := e) hfl Fx F hmi hs).1
      rw [hs] at hr
      rcases q with ⟨pc', lv', st', h1⟩ | ⟨mj, as, rest, len⟩ | ⟨o', h1⟩
      · have h2 := ih _ _ _ _ _ _ _ hmi hr
        exact ⟨Nat.le_trans hm.1 h2.1, Nat.le_trans hm.2 h2.2⟩
      · dsimp only at hr
        cases hc : zev L n mj 0 (zent mj as) [] h with
        | none => rw [hc] at hr; cases hr
        | some w =>
          obtain ⟨o1, h1⟩ := w
          have h1m := ih _ _ _ _ _ _ _ hm.2 hc
          rw [hc] at hr
          rcases o1 with v | x
          · have h2 := ih _ _ _ _ _ _ _ hmi hr
            exact ⟨Nat.le_trans h1m.1 h2.1, Nat.le_trans h1m.2 h2.2⟩
          · dsimp only at hr
            cases hk : zcatch mi pc x.1 with
            | none =>
              rw [hk] at hr
              dsimp only at hr
              split at hr
              · cases hr; exact h1m
              · cases hr
            | some pc' =>
              rw [hk] at hr
              have h2 := ih _ _ _ _ _ _ _ hmi hr
              exact ⟨Nat.le_trans h1m.1 h2.1, Nat.le_trans h1m.2 h2.2⟩
      · cases hr
        exact hm
theorem zsound (hfl : l.flags = pinnedFlags ++ [noTraceFlag]) (Fx : zFx S0) (F : zFix S0 D z) : ∀ (n mi pc : Nat) (lv : zLv) (st : List Value) (h h' : zHp) (o : zOut), mi < zNm → zev L n mi pc lv st h = some (o, h') →
    ∀ (Rm : Room) (s : State) (m : MethodId) (args : Array Value) (below : List Frame) (meth : Method) (c : Code) (cells slots : Nat), zCx S0 p s m meth c mi → zrk mi ≤ Rm.frames → zlo mi ≤ Rm.locals → cells + (h'.1 - h.1) ≤ Rm.cells → slots + (h'.2.1 - h.2.1) ≤ Rm.slots →
      zG p l e Rm s m args below meth c (zEnd S0 D z L s below o h' (cells + (h'.1 - h.1)) (slots + (h'.2.1 - h.2.1))) S0 D z L mi pc lv st h cells slots := by
  intro n
  induction n with
  | zero => intro mi pc lv st h h' o _ hr; simp [zev] at hr
  | succ n ih =>
    intro mi pc lv st h h' o hmi hr Rm s m args below meth c cells slots C hfr hlo hc1 hc2
    rw [zev] at hr
    cases hs : zstep L mi pc lv st h with
    | none => rw [hs] at hr; cases hr
    | some q =>
      obtain ⟨hm, hok⟩ := zstep_all (p := p) (e := e) hfl Fx F hmi hs
      have hok := hok Rm s m args below meth c cells slots (zEnd S0 D z L s below o h' (cells + (h'.1 - h.1)) (slots + (h'.2.1 - h.2.1))) C hfr hlo
      rw [hs] at hr
      rcases q with ⟨pc', lv', st', h1⟩ | ⟨mj, as, rest, len⟩ | ⟨o', h1⟩
      · have h2 := zev_mono p e hfl Fx F n _ _ _ _ _ _ _ hmi hr
        have hm1 : h.1 ≤ h1.1 ∧ h.2.1 ≤ h1.2.1 := hm
        have k := ih _ _ _ _ _ _ _ hmi hr Rm s m args below meth c (cells + (h1.1 - h.1)) (slots + (h1.2.1 - h.2.1)) C hfr hlo (by omega) (by omega)
        rw [show cells + (h1.1 - h.1) + (h'.1 - h1.1) = cells + (h'.1 - h.1) by omega, show slots + (h1.2.1 - h.2.1) + (h'.2.1 - h1.2.1) = slots + (h'.2.1 - h.2.1) by omega] at k
        exact hok (by omega) (by omega) k
      · dsimp only at hr
        obtain ⟨hl3, hmj⟩ := hm
        subst hl3
        cases hc : zev L n mj 0 (zent mj as) [] h with
        | none => rw [hc] at hr; cases hr
        | some w =>
          obtain ⟨o1, h1⟩ := w
          have hm1 := zev_mono p e hfl Fx F n _ _ _ _ _ _ _ hmj hc
          rw [hc] at hr
          have hih : zIh p l e S0 D z L mj as h h1 o1 := by
            intro R' s' m' args' below' meth' c' C' g1 g2 g3 g4
            have k := ih _ _ _ _ _ _ _ hmj hc R' s' m' args' below' meth' c' 0 0 C' (by omega) (by omega) (by omega) (by omega)
            rw [Nat.zero_add, Nat.zero_add] at k
            exact k
          have fin : ∀ (pc2 : Nat) (st2 : List Value), zev L n mi pc2 lv st2 h1 = some (o, h') → h1.1 ≤ h'.1 ∧ h1.2.1 ≤ h'.2.1 ∧ zG p l e Rm s m args below meth c (zEnd S0 D z L s below o h' (cells + (h'.1 - h.1)) (slots + (h'.2.1 - h.2.1))) S0 D z L mi pc2 lv st2 h1 (cells + (h1.1 - h.1)) (slots + (h1.2.1 - h.2.1)) := by
            intro pc2 st2 hr2
            have h2 := zev_mono p e hfl Fx F n _ _ _ _ _ _ _ hmi hr2
            have k := ih _ _ _ _ _ _ _ hmi hr2 Rm s m args below meth c (cells + (h1.1 - h.1)) (slots + (h1.2.1 - h.2.1)) C hfr hlo (by omega) (by omega)
            rw [show cells + (h1.1 - h.1) + (h'.1 - h1.1) = cells + (h'.1 - h.1) by omega, show slots + (h1.2.1 - h.2.1) + (h'.2.1 - h1.2.1) = slots + (h'.2.1 - h.2.1) by omega] at k
            exact ⟨h2.1, h2.2, k⟩
          rcases o1 with v | x
          · obtain ⟨q1, q2, q3⟩ := fin _ _ hr
            exact hok (.inl v) h1 (by omega) (by omega) hih q3
          · dsimp only at hr
            cases hk : zcatch mi pc x.1 with
            | none =>
              rw [hk] at hr
              dsimp only at hr
              split at hr
              next hhd =>
                cases hr
                refine hok (.inr x) _ hc1 hc2 hih ?_
                unfold zKk
                dsimp only
                rw [hk]
                exact ⟨hhd, fun t ht => ht⟩
              next => cases hr
            | some pc' =>
              rw [hk] at hr
              obtain ⟨q1, q2, q3⟩ := fin _ _ hr
              refine hok (.inr x) h1 (by omega) (by omega) hih ?_
              unfold zKk
              dsimp only
              rw [hk]
              exact q3
      · cases hr
        exact hok hc1 hc2
end ZSO
end
section
/-! THE START: what the Statement gives is what the logical machine stands on -/
def zST : List Int32 := [1779033703, -1150833019, 1013904242, -1521486534, 1359893119, -1694144372, 528734635, 1541459225]
def zRD : List Int32 := [1116352408, 1899447441, -1245643825, -373957723, 961987163, 1508970993, -1841331548, -1424204075, -670586216, 310598401, 607225278, 1426881987, 1925078388, -2132889090, -1680079193, -1046744716, -459576895, -272742522, 264347078, 604807628, 770255983, 1249150122, 1555081692, 1996064986, -1740746414, -1473132947, -1341970488, -1084653625, -958395405, -710438585, 113926993, 338241895, 666307205, 773529912, 1294757372, 1396182291, 1695183700, 1986661051, -2117940946, -1838011259, -1564481375, -1474664885, -1035236496, -949202525, -778901479, -694614492, -200395387, 275423344, 430227734, 506948616, 659060556, 883997877, 958139571, 1322822218, 1537002063, 1747873779, 1955562222, 2024104815, -2067236844, -1933114872, -1866530822, -1538233109, -1090935817, -965641998]
def zstT : Term := .static "ReleaseLeaves$Digester" "START" "[I"
def zrdT : Term := .static "ReleaseLeaves$Digester" "ROUNDS" "[I"
def zI0 (xs : Nat → Int32) : zI := fun a j => if a = 0 then xs j else if a = 1 then zST.getD j 0 else zRD.getD j 0
/-- the logical heap at the start -/
def zH0 (xs : Nat → Int32) : zHp := (3, 0, zI0 xs, fun _ _ => 0, fun _ _ => none)
def zfl0 : List Cond := flatC (Jvm.Cond.and given_1 narrow_1)
theorem zao_all : lw_tbl.all (fun w => match w with | .arrayOver (.object _) => true | .arrayOver (.array _) => true | .arrayOver _ => false | _ => true) = true := by decide +kernel
theorem zfix1 {s : State} {A : Array Value} (hts : ∀ w ∈ lw_tbl, w.before A s = true) : ∀ w ∈ zws, ∀ (a : Array Value) (U : State), s.WarmedH U.vm → w.before a U = true := by
  intro w hw a U hW
  obtain ⟨h1, h2⟩ := List.mem_filter.mp hw
  have hb := hts w h1
  have hao := List.all_eq_true.mp zao_all w h1
  unfold zgw at h2
  rw [Bool.or_eq_true] at h2
  rcases h2 with h2 | h2
  · exact word_at hW (good_of_word h2) hb
  · split at h2
    next => exact va_Nw.use rfl (va_Nw.warmF hW (va_Nw.of rfl hb))
    next => exact va_Nw.use rfl (va_Nw.warmM hW (va_Nw.of rfl hb))
    next ty =>
      cases ty with
      | object C => exact va_AO.use (va_AO.moved hW.alike (va_AO.of hb))
      | array t => exact over_moved hW.alike hb
      | _ => cases hao
    next => cases h2
theorem zfixK {s : State} {A : Array Value} (hz : ∀ w ∈ zws, w.before A s = true) : ∃ D : va_G, va_K D zcls [] s := by
  have h : ∀ ci, ∃ q : ClassId × (Nat → Nat), ci < zNc → u_Kn s (zcn ci) (zfT ci) (zfN ci) q.1 q.2 := by
    intro ci
    by_cases hci : ci < zNc
    · have h2 := List.all_eq_true.mp zins_all ci (List.mem_range.mpr hci)
      rw [Bool.and_eq_true] at h2
      obtain ⟨cC, iS, hk⟩ := u_known hz (zlay ci hci) (hz _ (zin h2.1))
      exact ⟨(cC, iS), fun _ => hk⟩
    · exact ⟨(0, fun _ => 0), fun h => absurd h hci⟩
  refine ⟨(fun ci => (Classical.choose (h ci)).1, fun ci => (Classical.choose (h ci)).2), fun c q hq => ?_, fun k q hk => by simp at hk⟩
  have hc : c < zNc := (List.getElem?_eq_some_iff.mp hq).1
  cases Option.some.inj (hq.symm.trans (zcls_at c hc))
  exact Classical.choose_spec (h c) hc
/-- a static array of ints that the Statement gives -/
theorem zstat {s : State} {A : Array Value} {n : String} {vs : List Int32} {N : Nat} (hN : N < 2 ^ 31) (hf : ∀ w ∈ zfl0, w.before A s = true) (hz : ∀ w ∈ zws, w.before A s = true)
    (w1 : Cond.arrayOf (.static "ReleaseLeaves$Digester" n "[I") .int ∈ zfl0) (w2 : Cond.eq (.length (.static "ReleaseLeaves$Digester" n "[I")) (.int (Int32.ofNat N)) ∈ zfl0)
    (w3 : (List.range N).all (fun j => decide (Cond.eq (.elem (.static "ReleaseLeaves$Digester" n "[I") (.int (Int32.ofNat j))) (.int (vs.getD j 0)) ∈ zfl0)) = true)
    (w4 : (Cond.laysStatic "ReleaseLeaves$Digester" n "[I").before A s = true) (w5 : Cond.initialized "ReleaseLeaves$Digester" ∈ zws) :
    ∃ t : Nat, va_Z "ReleaseLeaves$Digester" n "[I" (.ref t) (fun q => s.heap.size ≤ q) s s.heap ∧ va_T .int t N (fun j => .int (vs.getD j 0)) (fun q => s.heap.size ≤ q) s s.heap := by
  obtain ⟨t, h1, h2⟩ := va_Tof (A := fun q => s.heap.size ≤ q) hN (hf _ w1) (va_eqt (hf _ w2)) (f := fun j => .int (vs.getD j 0)) (fun j hj => va_eqt (hf _ (of_decide_eq_true (List.all_eq_true.mp w3 j (List.mem_range.mpr hj))))) (fun a ha => by omega)
  exact ⟨t, va_Zof w4 (hz _ w5) h1 (fun a ha => by omega), h2⟩
theorem zstw : (Cond.arrayOf zstT .int ∈ zfl0 ∧ Cond.eq (.length zstT) (.int (Int32.ofNat 8)) ∈ zfl0 ∧ (List.range 8).all (fun j => decide (Cond.eq (.elem zstT (.int (Int32.ofNat j))) (.int (zST.getD j 0)) ∈ zfl0)) = true) ∧
    (Cond.arrayOf zrdT .int ∈ zfl0 ∧ Cond.eq (.length zrdT) (.int (Int32.ofNat 64)) ∈ zfl0 ∧ (List.range 64).all (fun j => decide (Cond.eq (.elem zrdT (.int (Int32.ofNat j))) (.int (zRD.getD j 0)) ∈ zfl0)) = true) := by
  refine ⟨⟨?_, ?_, ?_⟩, ?_, ?_, ?_⟩ <;> decide +kernel
theorem zlsw : Cond.laysStatic "ReleaseLeaves$Digester" "START" "[I" ∈ lw_tbl ∧ Cond.laysStatic "ReleaseLeaves$Digester" "ROUNDS" "[I" ∈ lw_tbl ∧ zat0 33 (.initialized "ReleaseLeaves$Digester") = true := by
  refine ⟨?_, ?_, ?_⟩ <;> decide +kernel
theorem zsl_all : (List.range 10).all (fun oc => (zslL.getD oc []).all (fun q => zat0 q.2.2.1 (.fieldLink (zcn oc) q.1 q.2.2.2.1 q.2.2.2.2.1 q.2.2.2.2.2) && (decide (q.2.1 = 1 ∧ q.2.2.2 = ("ReleaseLeaves$Digester", "START", "[I")) || decide (q.2.1 = 2 ∧ q.2.2.2 = ("ReleaseLeaves$Digester", "ROUNDS", "[I"))))) = true := by decide +kernel
/-- the statics, the script -/
theorem zstart {s : State} {b L : Nat} {xs : Nat → Int32} (hts : ∀ w ∈ lw_tbl, w.before #[Value.ref b] s = true) (hX : va_X b L xs s s.heap) (hb : b < s.heap.size) (hg : (Jvm.Cond.and given_1 narrow_1).before #[Value.ref b] s = true) :
    ∃ (D : va_G) (z : Nat → Nat), zFix s D z ∧ zRl s D z L (zH0 xs) s.heap ∧ z 0 = b := by
  have hf : ∀ w ∈ zfl0, w.before #[Value.ref b] s = true := flat_of_before _ hg
  have hz1 := zfix1 hts
  have hz : ∀ w ∈ zws, w.before #[Value.ref b] s = true := fun w hw => hz1 w hw _ s (State.WarmedH.refl s)
  obtain ⟨D, hK⟩ := zfixK hz
  obtain ⟨⟨a1, a2, a3⟩, b1, b2, b3⟩ := zstw
  obtain ⟨l1, l2, l3⟩ := zlsw
  obtain ⟨t1, Z1, T1⟩ := zstat (vs := zST) (N := 8) (by decide) hf hz a1 a2 a3 (hts _ l1) (zin l3)
  obtain ⟨t2, Z2, T2⟩ := zstat (vs := zRD) (N := 64) (by decide) hf hz b1 b2 b3 (hts _ l2) (zin l3)
  refine ⟨D, fun a => if a = 0 then b else if a = 1 then t1 else t2, ⟨hz1, hK, fun oc k a ha => ?_⟩, ⟨Nat.le_refl _, rfl, fun q _ => rfl, fun a ha => ?_, fun a kd ha hkd => ?_, fun q cell hq hc => ?_⟩, rfl⟩
  · obtain ⟨q, hq, hk, e⟩ := zfind ha
    have hc := zall zsl_all (by decide) hq
    have hk' : q.1 = k := by simpa using hk
    subst hk'
    subst e
    rw [Bool.and_eq_true, Bool.or_eq_true, decide_eq_true_eq, decide_eq_true_eq] at hc
    obtain ⟨hc1, ⟨hc2, hc3⟩ | ⟨hc2, hc3⟩⟩ := hc
    · refine ⟨by rw [hc2]; decide, _, _, _, zin hc1, ?_⟩
      rw [hc2, hc3]
      exact Z1
    · refine ⟨by rw [hc2]; decide, _, _, _, zin hc1, ?_⟩
      rw [hc2, hc3]
      exact Z2
  · dsimp only
    split
    · exact hb
    · split
      · obtain ⟨cell, h1, -⟩ := T1
        exact (Array.getElem?_eq_some_iff.mp h1).1
      · obtain ⟨cell, h1, -⟩ := T2
        exact (Array.getElem?_eq_some_iff.mp h1).1
  · have ha3 : a < 3 := ha
    have hzr : ∀ z : Nat → Nat, zr s z a = z a := fun z => if_pos ha3
    rw [hzr]
    match a, ha3 with
    | 0, _ =>
      cases hkd
      obtain ⟨scr, h1, h2, h3, h4, h5⟩ := hX
      exact ⟨scr, h1, h3, h2, zsz_of h4, fun j hj => h5 j hj, fun C hC => (by cases hC)⟩
    | 1, _ =>
      cases hkd
      obtain ⟨scr, h1, h2, h3, h4, h5, h6, -⟩ := T1
      exact ⟨scr, h1, h3, h2, ⟨h4, h5⟩, fun j hj => h6 j hj, fun C hC => (by cases hC)⟩
    | 2, _ =>
      cases hkd
      obtain ⟨scr, h1, h2, h3, h4, h5, h6, -⟩ := T2
      exact ⟨scr, h1, h3, h2, ⟨h4, h5⟩, fun j hj => h6 j hj, fun C hC => (by cases hC)⟩
  · exact absurd (Array.getElem?_eq_some_iff.mp hc).1 (by omega)
end
section
/-! THE START: exceptions and their texts -/
theorem zst_moved {S0 U : State} {A A' : Array Value} (hal : S0.vm.Alike U.vm) (hh : ∀ q : Nat, q < S0.heap.size → U.heap[q]? = S0.heap[q]?) {O f d : String} (h : (Cond.laysStatic O f d).before A S0 = true) :
    (Cond.laysStatic O f d).before A' U = true ∧ ((Cond.isRef (.static O f d)).before A S0 = true → (Cond.isRef (.static O f d)).before A' U = true) := by
  obtain ⟨c, k, i, fd, a, cell, hc, hf, hst, hsta, hcell, hiss, hcls, hlt, hty⟩ := Cond.laysStatic_spec h
  obtain ⟨k', hi', hek⟩ := State.fieldFound?_setVm hal hf
  have hf' : U.fieldFound? O f d = some (c, k', i, fd) := hi'
  have ha : a < S0.heap.size := (Array.getElem?_eq_some_iff.mp hcell).1
  have hcell' : U.heap[a]? = some cell := by rw [hh a ha]; exact hcell
  have hk' : k'.statics = some a := by rw [hek]; exact hsta
  refine ⟨Cond.laysStatic_of (s := U) (by rw [hal.findClass]; exact hc) hf' hst hk' hcell' hiss hcls hlt (by rw [hek]; exact hty), fun hr => ?_⟩
  have e0 : (Term.static O f d).eval A S0 none [] S0 = cell.slots[fd.slot]? := by
    simp [Term.eval, State.fieldNamed?, hf, hst, hsta, hcell, hiss]
  have e1 : (Term.static O f d).eval A' U none [] U = cell.slots[fd.slot]? := by
    simp [Term.eval, State.fieldNamed?, hf', hst, hk', hcell', hiss]
  simp only [Cond.before, Cond.holds, Cond.value] at hr ⊢
  rw [e0] at hr
  rw [e1]
  exact hr
/-- a word of an exception's: of the tables, or of a static -/
def zxw (w : Cond) : Bool := match w with
  | .laysStatic O f d => decide (Cond.laysStatic O f d ∈ lw_tbl)
  | .isRef (.static O f d) => decide (Cond.isRef (.static O f d) ∈ zfl0) && decide (Cond.laysStatic O f d ∈ lw_tbl)
  | .declares x => decide (Cond.declares x ∈ lw_tbl)
  | .castable a b => decide (Cond.castable a b ∈ lw_tbl)
  | w => decide (w ∈ lw_tbl) && goodWord w
theorem zxw_all : (List.range 10).all (fun oc => (zxlL.getD oc []).all (fun q => (Jvm.Bundle.ownAtoms (zcn oc) q.1 (zxn q.2.1) zxnames).all zxw)) = true := by decide +kernel
theorem zxw_ok {S0 U : State} {A A' : Array Value} (hts : ∀ w ∈ lw_tbl, w.before A S0 = true) (hf : ∀ w ∈ zfl0, w.before A S0 = true) (hW : S0.WarmedH U.vm) (hh : ∀ q : Nat, q < S0.heap.size → U.heap[q]? = S0.heap[q]?) {w : Cond} (h : zxw w = true) : w.before A' U = true := by
  unfold zxw at h
  split at h
  next O f d => exact (zst_moved hW.alike hh (hts _ (of_decide_eq_true h))).1
  next O f d =>
    rw [Bool.and_eq_true, decide_eq_true_eq, decide_eq_true_eq] at h
    exact (zst_moved hW.alike hh (hts _ h.2)).2 (hf _ h.1)
  next x =>
    have h1 := hts _ (of_decide_eq_true h)
    rw [← Cond.declares_setVm hW.alike] at h1
    exact va_tabs rfl (rfl : (S0.setVm U.vm).vm = U.vm) h1
  next a b =>
    have h1 := hts _ (of_decide_eq_true h)
    rw [← Cond.castable_setVm hW.alike] at h1
    exact va_tabs rfl (rfl : (S0.setVm U.vm).vm = U.vm) h1
  next =>
    rw [Bool.and_eq_true, decide_eq_true_eq] at h
    exact word_at hW (good_of_word h.2) (hts _ h.1)
theorem zxcast : (Cond.castable (zxn 0) (zxn 0) ∈ lw_tbl ∧ Cond.castable (zxn 1) (zxn 1) ∈ lw_tbl) ∧ (Cond.not (.castable (zxn 0) (zxn 1)) ∈ zfl0 ∧ Cond.not (.castable (zxn 1) (zxn 0)) ∈ zfl0) := by
  refine ⟨⟨?_, ?_⟩, ?_, ?_⟩ <;> decide +kernel
theorem zxs_all : zxsL.all (fun q => decide (lw_tbl[q.2.2.2]? = some (.stringRef (zcn q.1) q.2.1 q.2.2.1))) = true := by decide +kernel
theorem zstartx {s : State} {A : Array Value} (hts : ∀ w ∈ lw_tbl, w.before A s = true) (hg : (Jvm.Cond.and given_1 narrow_1).before A s = true) : zFx s := by
  have hf : ∀ w ∈ zfl0, w.before A s = true := flat_of_before _ hg
  refine ⟨fun x y hx hy cx cy hcx hcy => ?_, fun oc ic x hx U args hW hh w hw => ?_, fun oc k hk => ?_⟩
  · obtain ⟨⟨c1, c2⟩, c3, c4⟩ := zxcast
    have pos : ∀ x' : Nat, Cond.castable (zxn x') (zxn x') ∈ lw_tbl → ∀ c : ClassId, s.vm.findClass (zxn x') = some c → s.vm.assignable c c = true := by
      intro x' hw c hc
      obtain ⟨c3, c4, hc3, hc4, hasg⟩ := Cond.castable_spec (hts _ hw)
      cases Option.some.inj (hc3.symm.trans hc)
      cases Option.some.inj (hc4.symm.trans hc)
      exact hasg
    have neg : ∀ x' y' : Nat, Cond.not (.castable (zxn x') (zxn y')) ∈ zfl0 → ∀ c d : ClassId, s.vm.findClass (zxn x') = some c → s.vm.findClass (zxn y') = some d → s.vm.assignable c d = false := by
      intro x' y' hw c d hc hd
      have h1 := hf _ hw
      simp only [Cond.before, Cond.holds, Cond.value, hc, hd] at h1
      simpa using h1
    match x, y, hx, hy with
    | 0, 0, _, _ => cases Option.some.inj (hcx.symm.trans hcy); exact pos 0 c1 cx hcx
    | 1, 1, _, _ => cases Option.some.inj (hcx.symm.trans hcy); exact pos 1 c2 cx hcx
    | 0, 1, _, _ => exact neg 0 1 c3 cx cy hcx hcy
    | 1, 0, _, _ => exact neg 1 0 c4 cx cy hcx hcy
  · obtain ⟨q, hq, hk, e⟩ := zfind hx
    have hc := zall zxw_all (by decide) hq
    have hk' : q.1 = ic := by simpa using hk
    subst hk'
    subst e
    exact zxw_ok hts hf hW hh (List.all_eq_true.mp hc w hw)
  · obtain ⟨q, hq, e⟩ := List.any_eq_true.mp hk
    rw [Bool.and_eq_true, beq_iff_eq, beq_iff_eq] at e
    obtain ⟨rfl, rfl⟩ := e
    have h1 := hts _ (List.mem_of_getElem? (of_decide_eq_true (List.all_eq_true.mp zxs_all q hq)))
    have hcur : ∃ cur, s.vm.findClass (zcn q.1) = some cur := by
      have h2 := h1
      simp only [Cond.before, Cond.holds, Cond.value] at h2
      cases hc : s.vm.findClass (zcn q.1) with
      | none => simp [hc] at h2
      | some cur => exact ⟨cur, rfl⟩
    obtain ⟨cur, hcur⟩ := hcur
    obtain ⟨k, cf, i, a, -, -, -, -, -, h6⟩ := Cond.stringRef_spec hcur h1
    exact ⟨q.2.2.1, a, vk_R.of h1 h6⟩
end
section
/-! THE CLAIM OUT OF ONE WALK OF THE LAW'S BODY. Your part is whole_start (and what it stands on); all else here is the same for every law, but numbers. -/
def R_law : String := "ReleaseLeavesLaw"
def lw_P (b : Addr) (xs : List Int32) (args : Array Value) (s : State) : Prop := args = #[.ref b] ∧ s.IntsAt b xs ∧ xs.length ≤ 2048 ∧ (Jvm.Cond.and given_1 narrow_1).before args s = true
def lw_Q (_ : Array Value) (s : State) (o : Outcome) (t : State) : Prop := o = .returned (some (.int 1)) ∧ Framed s o t [] 601024 7293034
def lw_Z (below : List Frame) (a : Array Value) (s : State) : State → Prop := fun t => ∃ o, t.status = .running ∧ Ended t below o ∧ lw_Q a s o t
/-- what holds at the law's entry: the machine, the code, the tables' words (any of lw_tbl by 'hts w (by decide +kernel)'), the script of L ints xs at the cell b, what the Statement gives of the start (any of its parts by flat_of_before) -/
def lw_At (p : Program) (s : State) (m : MethodId) (meth : Method) (c : Code) (b L : Nat) (xs : Nat → Int32) : Prop :=
  p.tables.exec = Jvm.exec ∧ c.code = code ∧ meth.sig.returnType = ret ∧ c.maxLocals = 7 ∧ s.vm.findClass R_law = some m.cls ∧ (∀ w ∈ lw_tbl, w.before #[Value.ref b] s = true) ∧ va_X b L xs s s.heap ∧ b < s.heap.size ∧ meth.locks = false ∧ (Jvm.Cond.and given_1 narrow_1).before #[Value.ref b] s = true
/-- THE LOGICAL CLAIM: the law's run of the logical machine ends with 1, within the room -/
def zLaw (L : Nat) (xs : Nat → Int32) : Prop := zW L 0 0 (zent 0 [.ref 0]) [] (zH0 xs) (fun o h' => o = .inl (some (.int 1)) ∧ h'.1 ≤ 601027 ∧ h'.2.1 ≤ 7293034)
theorem whole_start {p : Program} {e : Env} {s : State} {m : MethodId} {below : List Frame} {meth : Method} {c : Code} (l : Launch) (hfl : l.flags = pinnedFlags ++ [noTraceFlag]) {b L : Nat} {xs : Nat → Int32} (hL : zLaw L xs) (hname : meth.name = "law") (C0 : lw_At p s m meth c b L xs) : W p l e room_1 s m #[Value.ref b] below meth c s.heap [] 0 0 (lw_Z below #[Value.ref b] s) (entryFrame m ([Value.ref b] : List Value).toArray 7) := by
  obtain ⟨hx, hb, hr, hml, hown, hts, hX, hbl, hlk, hg⟩ := C0
  obtain ⟨D, z, F, hR, hz0⟩ := zstart hts hX hbl hg
  have Fx := zstartx hts hg
  obtain ⟨n, o, h', hev, ho, hc, hs⟩ := hL
  subst ho
  have C : zCx s p s m meth c 0 := ⟨hx, hb, hml, hown, hlk, hr, hname, State.WarmedH.refl s, Nat.le_refl _, Or.inl rfl, fun q _ => rfl, fun q cell hq hcell => absurd (Array.getElem?_eq_some_iff.mp hcell).1 (by omega)⟩
  have k := zsound (p := p) (e := e) hfl Fx F n 0 0 _ _ _ _ _ (by decide) hev room_1 s m #[Value.ref b] below meth c 0 0 C (by decide) (by decide) (by show 0 + (h'.1 - 3) ≤ 601024; omega) (by show 0 + (h'.2.1 - 0) ≤ 7293034; omega)
  obtain ⟨ls, e0, hl0⟩ := zLs.entry (S0 := s) (z := z) (mj := 0) (as := [.ref 0]) (fun _ v hv => by rw [List.mem_singleton.mp hv]; rfl) (by decide) m
  have e1 : ([.ref 0] : List Value).map (zv s z) = [.ref b] := by
    show [Value.ref (zr s z 0)] = _
    rw [show zr s z 0 = z 0 from if_pos (by decide), hz0]
  rw [e1] at e0
  have e2 : entryFrame m ([Value.ref b] : List Value).toArray 7 = F0 m 0 ls [] := e0
  rw [e2]
  refine zw_mono (fun t ht => ?_) (zg_w k hR hl0 (fun q hq => by cases hq))
  obtain ⟨oc, q1, q2, q3, -, ⟨Lc, q5, q6⟩, q7⟩ := ht
  refine ⟨oc, q1, q2, q7, ⟨_, q7⟩, q3, q5.weaken (fun y hy hlt => absurd (q6 y hy) (Nat.not_le.mpr hlt)) (by show 0 + (h'.1 - 3) ≤ 601024; omega) (by show 0 + (h'.2.1 - 0) ≤ 7293034; omega)⟩
set_option maxHeartbeats 4000000 in
theorem lw_walk (hz : ∀ (L : Nat) (xs : Nat → Int32), L ≤ 2048 → zLaw L xs) (l : Launch) (hfl : l.flags = pinnedFlags ++ [noTraceFlag]) (b : Addr) (xs : List Int32) : MetFree l x (headSpec (Jvm.Cond.code x code maxLocals ret :: tables_1) room_1) (lw_P b xs) (fun _ _ _ _ _ => True) lw_Q := by
  refine MetFree.of_bodyS (code := code) (maxLocals := maxLocals) (ret := ret) (by decide) ?_ ?_
  · intro args s m h hn
    obtain ⟨meth, c, h1, h2, h3, h4, h5, h6, -, -⟩ := Cond.code_spec hn (atoms_spec (ws := Jvm.Cond.code x code maxLocals ret :: tables_1) h _ List.mem_cons_self)
    exact ⟨meth, c, h1, h2, h3, h4, h5, h6⟩
  · intro p e s m args below meth c s₁ B hml0 hP _
    obtain ⟨rfl, hx, hbd, hgv⟩ := hP
    obtain ⟨scr, harrAt, hlist, hof, hsmall⟩ := hx
    obtain ⟨hcb, hkn, -, -⟩ := State.arrayAt?_spec harrAt
    have hown : s.vm.findClass R_law = some m.cls := findClass_of_methodNamed B.named
    have hts0 : ∀ c ∈ (Jvm.Cond.code x code maxLocals ret :: tables_1), c.before #[Value.ref b] s = true := atoms_spec (ws := Jvm.Cond.code x code maxLocals ret :: tables_1) B.pre
    have hts : ∀ w ∈ lw_tbl, w.before #[Value.ref b] s = true := k2_hts_sels lw_privs (fun w hw => hts0 w (List.mem_cons_of_mem _ hw)) lw_privs_ok
    have hml : c.maxLocals = 7 := B.maxLocals_eq (hts0 _ List.mem_cons_self)
    have X₀ : Stand p l e room_1 s m #[Value.ref b] below meth c s₁ [] 0 0 := Stand.of_body B
    have hh0 : s₁.heap = s.heap := by rw [B.state]; rfl
    have hsz : scr.slots.size = xs.length := by rw [← Array.length_toList, hlist, List.length_map]
    have hval : ∀ j : Nat, j < xs.length → scr.slots[j]? = some (.int (xs.getD j 0)) := fun j hj => by
      rw [← Array.getElem?_toList, hlist]
      simp [hj]
    have hbl : b < s.heap.size := (Array.getElem?_eq_some_iff.mp hcb).1
    have hX : va_X b xs.length (fun j => xs.getD j 0) s s.heap := ⟨scr, hcb, hof, hkn, hsz, hval⟩
    have K : W p l e room_1 s m #[Value.ref b] below meth c s₁.heap [] 0 0 (lw_Z below #[Value.ref b] s) (entryFrame m ([Value.ref b] : List Value).toArray 7) := by
      rw [hh0]
      exact whole_start l hfl (hz _ _ hbd) (name_of_methodNamed B.named X₀.method).1 ⟨B.exec, B.bytes, B.returns, hml, hown, hts, hX, hbl, B.notSynchronized, hgv⟩
    obtain ⟨t, a1, o, b1, b2, b3⟩ := K s₁ rfl X₀
    exact ⟨t, o, a1, b1, b2, b3⟩
theorem lw_pre_spec {args : Array Value} {s : State} (h : (Jvm.Cond.and given_1 narrow_1).before args s = true) (hr : rest_1_c.before args s = true) : ∃ (b : Addr) (xs : List Int32), lw_P b xs args s := by
  have hs := flat_of_before _ h
  have hq := flat_of_before _ hr
  have hc : (Cond.count 1).before args s = true := hs _ (by decide +kernel)
  have harr : (Cond.arrayOf (.arg 0) .int).before args s = true := hs _ (by decide +kernel)
  have hle : (Cond.le (.length (.arg 0)) (.int 2048)).before args s = true := hs _ (by decide +kernel)
  have hlen : (Cond.isInt (.length (.arg 0))).before args s = true := hq _ (by decide +kernel)
  have hall : (Cond.all (.arg 0) (.isInt (.elem (.arg 0) (.index 0)))).before args s = true := hq _ (by decide +kernel)
  obtain ⟨b, xs, hb, hx⟩ := State.ints_of_pre rfl harr hlen hall
  have hsm : xs.length < 2 ^ 31 := hx.choose_spec.2.2.2
  have hev : (Term.length (.arg 0)).eval args s none [] s = some (.int xs.length.toInt32) := hx.length_eval hb
  have hv := Cond.le_ints hev (show (Term.int 2048).eval args s none [] s = some (.int 2048) from rfl)
  have hd : xs.length.toInt32 ≤ 2048 := by
    simpa [Cond.before, Cond.holds, hv] using hle
  have hN : xs.length ≤ 2048 := (Int32.ofNat_le_ofNat hsm (by decide)).mp (show Int32.ofNat xs.length ≤ Int32.ofNat 2048 from hd)
  exact ⟨b, xs, Cond.one_arg hc (show args[0]? = some (.ref b) from hb), hx, hN, h⟩
theorem lw_comes (hz : ∀ (L : Nat) (xs : Nat → Int32), L ≤ 2048 → zLaw L xs) (l : Launch) (hfl : l.flags = pinnedFlags ++ [noTraceFlag]) : Comes l x (Jvm.Cond.code x code maxLocals ret :: tables_1) room_1 (fun tb e args s => Calls_1 tb e args s ∧ rest_1 tb e args s ∧ Pre_1 tb e args s)
    (fun _ _ args s o t => lw_Q args s o t) := by
  intro p e ha hc hk s m args below hf hfit hheap happ hpre
  obtain ⟨b, xs, hP⟩ := lw_pre_spec hpre.2.2 hpre.2.1
  obtain ⟨k, o, h1, h2, h3, hQ⟩ := lw_walk hz l hfl b xs p e ha hc hk s m args below hf ((Spec.applies_iff_loose hf).mp happ).1 hP trivial
  exact ⟨k, o, h1, h2, h3, hQ⟩
theorem lw_frame {s t : State} {o : Outcome} {args : Array Value} (h : Framed s o t [] 601024 7293034) :
    Framed s o t (fieldLocs frame_1_writes args s ++ arrayLocs frame_1_arrays args s ++ staticLocs frame_1_statics s) 601024 7293034 := h
theorem lw_limb (hz : ∀ (L : Nat) (xs : Nat → Int32), L ≤ 2048 → zLaw L xs) (L : Cond) (hL : ∀ (args : Array Value) (s t : State), L.after args s (.returned (some (.int 1))) t = true) :
    ArmFor flags0 classFile x code maxLocals ret World_1 tables_1 room_1 Calls_1 rest_1 Pre_1
      (fun tb e a s o t => postC L tb e a s o t ∧ Framed s o t (fieldLocs frame_1_writes a s ++ arrayLocs frame_1_arrays a s ++ staticLocs frame_1_statics s) 601024 7293034) := by
  intro l hfl _ _ p e ha hc hk s m args below hf hfit hheap happ hpre
  obtain ⟨k, o, h1, h2, h3, rfl, hF⟩ := lw_comes hz l hfl p e ha hc hk s m args below hf hfit hheap happ hpre
  exact ⟨k, _, h1, h2, h3, hL args s _, lw_frame hF⟩
theorem ztop (hz : ∀ (L : Nat) (xs : Nat → Int32), L ≤ 2048 → zLaw L xs) : Claimed_1_1 ∧ Claimed_1_2 := ⟨lw_limb hz limb_1_1 (fun args s t => by simp [limb_1_1, Cond.after, Cond.holds, Cond.value]), lw_limb hz limb_1_2 (fun args s t => Cond.after_iff.mpr (by
  first | (rw [show limb_1_2 = Cond.eq .result (.int 1) from rfl, Cond.eq_ints (x := 1) (y := 1) rfl rfl]; simp; done) | (simp [limb_1_2, Cond.value, Term.eval]; done)))⟩
end
section
/-! THE RULES OF THE LOGICAL MACHINE, an instruction each. zD..: what is fixed of an instruction (its kind, what it names, the next pc), read off the code. -/
def zD (mi pc : Nat) (i : Instr) (len pc' : Nat) : Bool := (decide (decode (zcd mi) pc = .ok (i, len)) && zlok i len) && decide (pc + len = pc')
/-- an int constant; a long one -/
def zDc (mi pc pc' : Nat) (v : Int32) : Bool := match decode (zcd mi) pc with
  | .ok (i, len) => (zlok i len && decide (pc + len = pc')) && (match zcst i with
    | some w => decide (w = .int v)
    | none => (match i with
      | .ldc k => decide (zkl (zoc mi) k = some v)
      | _ => false))
  | _ => false
def zDC (mi pc pc' : Nat) (v : Int64) : Bool := match decode (zcd mi) pc with
  | .ok (i, len) => (zlok i len && decide (pc + len = pc')) && (match zcst i with
    | some w => decide (w = .long v)
    | none => (match i with
      | .ldc2_w k => decide (zkL (zoc mi) k = some v)
      | _ => false))
  | _ => false
/-- iinc: local k, by c -/
def zDi (mi pc pc' k : Nat) (c : Int32) : Bool := match decode (zcd mi) pc with
  | .ok (.iinc j n, 3) => (decide (j = k) && decide (Int32.ofInt n = c)) && (decide (pc + 3 = pc') && !zlg mi)
  | _ => false
def zDj (mi pc tg : Nat) : Bool := match decode (zcd mi) pc with
  | .ok (.goto off, 3) => decide (0 ≤ (pc : Int) + off) && decide (zjmp pc off = tg)
  | _ => false
def zDf (mi pc : Nat) (c : ClassFile.Cond) (tg nx : Nat) : Bool := match decode (zcd mi) pc with
  | .ok (.ifCond d off, 3) => (decide (d = c) && decide (0 ≤ (pc : Int) + off)) && (decide (zjmp pc off = tg) && decide (pc + 3 = nx))
  | _ => false
def zDm (mi pc : Nat) (c : ClassFile.Cond) (tg nx : Nat) : Bool := match decode (zcd mi) pc with
  | .ok (.if_icmp d off, 3) => (decide (d = c) && decide (0 ≤ (pc : Int) + off)) && (decide (zjmp pc off = tg) && decide (pc + 3 = nx))
  | _ => false
/-- fields: class ci, place f, type t; a store may be of a final field in its constructor alone -/
def zDg (mi pc pc' ci f : Nat) (t : FieldType) : Bool := match decode (zcd mi) pc with
  | .ok (.getfield k, 3) => (decide (zfl (zoc mi) k = some (ci, f)) && decide (f < zfN ci)) && (decide (zft ci f = t) && decide (pc + 3 = pc'))
  | _ => false
def zDp (mi pc pc' ci f : Nat) (t : FieldType) : Bool := match decode (zcd mi) pc with
  | .ok (.putfield k, 3) => ((decide (zfl (zoc mi) k = some (ci, f)) && decide (f < zfN ci)) && (decide (zft ci f = t) && decide (pc + 3 = pc'))) && (!(zfT ci f).2.2.2 || decide (zoc mi = ci ∧ (zy mi).name = "<init>"))
  | _ => false
def zDs (mi pc pc' a : Nat) : Bool := match decode (zcd mi) pc with
  | .ok (.getstatic k, 3) => decide (zsl (zoc mi) k = some a) && decide (pc + 3 = pc')
  | _ => false
/-- calls: method mj; 0: virtual, 1: a constructor, 2: static -/
def zDk (mi pc pc' mj kd : Nat) : Bool := match decode (zcd mi) pc with
  | .ok (i, 3) => ((decide (zml (zoc mi) (match i with | .invokevirtual k => k | .invokespecial k => k | .invokestatic k => k | _ => 0) = some mj) && decide (pc + 3 = pc')) && (decide (zrk mj < zrk mi) && decide (8 + (zmx mj + 11) + zlo mj ≤ zlo mi))) && ((zat mj == decide (kd = 2)) && decide (mj < zNm) &&
    (match i with
      | .invokevirtual _ => decide (kd = 0) && !decide ((zy mj).name = "<init>")
      | .invokespecial k => (decide (kd = 1) && decide ((zy mj).name = "<init>")) && !zob (zoc mi) k
      | .invokestatic k => (decide (kd = 2) && !zac (zoc mi) k) && !zmn (zoc mi) k
      | _ => false))
  | _ => false
/-- Object.<init>; arraycopy; min -/
def zDo (mi pc pc' : Nat) : Bool := match decode (zcd mi) pc with
  | .ok (.invokespecial k, 3) => (zob (zoc mi) k && decide (pc + 3 = pc')) && decide (1 ≤ zrk mi ∧ 20 ≤ zlo mi)
  | _ => false
def zDy (mi pc pc' : Nat) : Bool := match decode (zcd mi) pc with
  | .ok (.invokestatic k, 3) => (zac (zoc mi) k && decide (pc + 3 = pc')) && decide (1 ≤ zrk mi ∧ 26 ≤ zlo mi)
  | _ => false
def zDn (mi pc pc' : Nat) : Bool := match decode (zcd mi) pc with
  | .ok (.invokestatic k, 3) => (zmn (zoc mi) k && decide (pc + 3 = pc')) && (decide (1 ≤ zrk mi ∧ 21 ≤ zlo mi) && !zac (zoc mi) k)
  | _ => false
/-- makers -/
def zDw (mi pc pc' ci : Nat) : Bool := match decode (zcd mi) pc with
  | .ok (.new k, 3) => decide (zcl (zoc mi) k = some (.inl ci)) && decide (pc + 3 = pc')
  | _ => false
def zDa (mi pc pc' : Nat) (C : String) : Bool := match decode (zcd mi) pc with
  | .ok (.anewarray k, 3) => decide (zal (zoc mi) k = some C) && decide (pc + 3 = pc')
  | _ => false
def zDu (mi pc pc' : Nat) : Bool := match decode (zcd mi) pc with
  | .ok (.multianewarray k 2, 4) => zmu (zoc mi) k && decide (pc + 4 = pc')
  | _ => false
/-- a throw: new, dup, ldc, invokespecial, athrow -/
def zDx (mi pc x : Nat) : Bool := match decode (zcd mi) pc with
  | .ok (.new k, 3) => decide (zcl (zoc mi) k = some (.inr x)) && (match decode (zcd mi) (pc + 3), decode (zcd mi) (pc + 4), decode (zcd mi) (pc + 6), decode (zcd mi) (pc + 9) with
    | .ok (.dup, 1), .ok (.ldc is, 2), .ok (.invokespecial ic, 3), .ok (.athrow, 1) => (decide (zxl (zoc mi) ic = some x) && decide (zhd mi = [])) && (zxs (zoc mi) is && decide (6 ≤ zrk mi ∧ 90 ≤ zlo mi))
    | _, _, _, _ => false)
  | _ => false
section ZX
variable {L mi pc pc' : Nat} {lv : zLv} {st : List Value} {N U : Nat} {I : zI} {J : zJ} {R : zR} {Q : zOut → zHp → Prop} {r : zLv}
theorem zD_ok {i : Instr} {len : Nat} (h : zD mi pc i len pc' = true) : decode (zcd mi) pc = .ok (i, len) ∧ zlok i len = true ∧ pc + len = pc' := by
  unfold zD at h
  rw [Bool.and_eq_true, Bool.and_eq_true, decide_eq_true_eq, decide_eq_true_eq] at h
  exact ⟨h.1.1, h.1.2, h.2⟩
theorem zx_go {h h' : zHp} {i : Instr} {len : Nat} {lv' : zLv} {st' : List Value} (hd : zD mi pc i len pc' = true) (hs : zins L mi pc lv st h i len = some (.inl (pc + len, lv', st', h'))) (w : zW L mi pc' lv' st' h' Q) : zW L mi pc lv st h Q := by
  obtain ⟨h1, h2, h3⟩ := zD_ok hd
  refine (zw_next (pc' := pc + len) (lv' := lv') (st' := st') (h' := h') ?_).mpr (by rw [h3]; exact w)
  unfold zstep
  rw [h1]
  show (if zlok i len = true then _ else none) = _
  rw [if_pos h2]
  exact hs
/-- a step by decode alone -/
theorem zx_st {h h' : zHp} {i : Instr} {len : Nat} {lv' : zLv} {st' : List Value} (h1 : decode (zcd mi) pc = .ok (i, len)) (h2 : zlok i len = true) (hs : zins L mi pc lv st h i len = some (.inl (pc', lv', st', h'))) (w : zW L mi pc' lv' st' h' Q) : zW L mi pc lv st h Q := by
  refine (zw_next (pc' := pc') (lv' := lv') (st' := st') (h' := h') ?_).mpr w
  unfold zstep
  rw [h1]
  show (if zlok i len = true then _ else none) = _
  rw [if_pos h2]
  exact hs
theorem zx_c {v : Int32} (hd : zDc mi pc pc' v = true) {h : zHp} (w : zW L mi pc' lv (.int v :: st) h Q) : zW L mi pc lv st h Q := by
  unfold zDc at hd
  split at hd
  next i len h1 =>
    rw [Bool.and_eq_true, Bool.and_eq_true, decide_eq_true_eq] at hd
    obtain ⟨⟨h2, h3⟩, h4⟩ := hd
    subst h3
    split at h4
    next u hu =>
      rw [decide_eq_true_eq] at h4
      subst h4
      refine zx_st (pc' := pc + len) (st' := .int v :: st) h1 h2 ?_ w
      unfold zins; rw [hu]; rfl
    next hu =>
      split at h4
      next k =>
        rw [decide_eq_true_eq] at h4
        refine zx_st (pc' := pc + len) (st' := .int v :: st) h1 h2 ?_ w
        show zins2 L mi pc lv st h (.ldc k) len = _
        unfold zins2; dsimp only; rw [h4]; rfl
      next => cases h4
  next => cases hd
theorem zx_C {v : Int64} (hd : zDC mi pc pc' v = true) {h : zHp} (w : zW L mi pc' lv (.long v :: st) h Q) : zW L mi pc lv st h Q := by
  unfold zDC at hd
  split at hd
  next i len h1 =>
    rw [Bool.and_eq_true, Bool.and_eq_true, decide_eq_true_eq] at hd
    obtain ⟨⟨h2, h3⟩, h4⟩ := hd
    subst h3
    split at h4
    next u hu =>
      rw [decide_eq_true_eq] at h4
      subst h4
      refine zx_st (pc' := pc + len) (st' := .long v :: st) h1 h2 ?_ w
      unfold zins; rw [hu]; rfl
    next hu =>
      split at h4
      next k =>
        rw [decide_eq_true_eq] at h4
        refine zx_st (pc' := pc + len) (st' := .long v :: st) h1 h2 ?_ w
        show zins2 L mi pc lv st h (.ldc2_w k) len = _
        unfold zins2; dsimp only; rw [h4]; rfl
      next => cases h4
  next => cases hd
theorem zx_il0 {x : Int32} {h : zHp} (hd : zD mi pc (.iload_n 0) 1 pc' = true) (w : zW L mi pc' (some (.int x) :: r) (.int x :: st) h Q) : zW L mi pc (some (.int x) :: r) st h Q := zx_go hd rfl w
theorem zx_al0 {x : Nat} {h : zHp} (hd : zD mi pc (.aload_n 0) 1 pc' = true) (w : zW L mi pc' (some (.ref x) :: r) (.ref x :: st) h Q) : zW L mi pc (some (.ref x) :: r) st h Q := zx_go hd rfl w
theorem zx_is0 {v : Option Value} {x : Int32} {h : zHp} (hd : zD mi pc (.istore_n 0) 1 pc' = true) (hg : zlg mi = false) (w : zW L mi pc' (some (.int x) :: r) st h Q) : zW L mi pc (v :: r) (.int x :: st) h Q := by
  refine zx_go hd ?_ w
  show (if (_ ∧ _) ∧ _ then _ else _) = _
  rw [if_pos ⟨⟨rfl, by show 0 < _; simp⟩, hg⟩]; rfl
theorem zx_as0 {v : Option Value} {x : Nat} {h : zHp} (hd : zD mi pc (.astore_n 0) 1 pc' = true) (hg : zlg mi = false) (w : zW L mi pc' (some (.ref x) :: r) st h Q) : zW L mi pc (v :: r) (.ref x :: st) h Q := by
  refine zx_go hd ?_ w
  show (if (_ ∧ _) ∧ _ then _ else _) = _
  rw [if_pos ⟨⟨rfl, by show 0 < _; simp⟩, hg⟩]; rfl
theorem zx_ii0 {x c : Int32} {h : zHp} (hd : zDi mi pc pc' 0 c = true) (w : zW L mi pc' (some (.int (x + c)) :: r) st h Q) : zW L mi pc (some (.int x) :: r) st h Q := by
  unfold zDi at hd
  split at hd
  next j n h1 =>
    rw [Bool.and_eq_true, Bool.and_eq_true, Bool.and_eq_true, decide_eq_true_eq, decide_eq_true_eq, decide_eq_true_eq, Bool.not_eq_true'] at hd
    obtain ⟨⟨rfl, rfl⟩, rfl, hg⟩ := hd
    refine zx_st h1 rfl ?_ w
    show (if zlg mi = true then none else _) = _
    rw [if_neg (by rw [hg]; decide)]; rfl
  next => cases hd
theorem zx_il1 {l0 : Option Value} {x : Int32} {h : zHp} (hd : zD mi pc (.iload_n 1) 1 pc' = true) (w : zW L mi pc' (l0 :: some (.int x) :: r) (.int x :: st) h Q) : zW L mi pc (l0 :: some (.int x) :: r) st h Q := zx_go hd rfl w
theorem zx_al1 {l0 : Option Value} {x : Nat} {h : zHp} (hd : zD mi pc (.aload_n 1) 1 pc' = true) (w : zW L mi pc' (l0 :: some (.ref x) :: r) (.ref x :: st) h Q) : zW L mi pc (l0 :: some (.ref x) :: r) st h Q := zx_go hd rfl w
theorem zx_is1 {l0 : Option Value} {v : Option Value} {x : Int32} {h : zHp} (hd : zD mi pc (.istore_n 1) 1 pc' = true) (hg : zlg mi = false) (w : zW L mi pc' (l0 :: some (.int x) :: r) st h Q) : zW L mi pc (l0 :: v :: r) (.int x :: st) h Q := by
  refine zx_go hd ?_ w
  show (if (_ ∧ _) ∧ _ then _ else _) = _
  rw [if_pos ⟨⟨rfl, by show 1 < _; simp⟩, hg⟩]; rfl
theorem zx_as1 {l0 : Option Value} {v : Option Value} {x : Nat} {h : zHp} (hd : zD mi pc (.astore_n 1) 1 pc' = true) (hg : zlg mi = false) (w : zW L mi pc' (l0 :: some (.ref x) :: r) st h Q) : zW L mi pc (l0 :: v :: r) (.ref x :: st) h Q := by
  refine zx_go hd ?_ w
  show (if (_ ∧ _) ∧ _ then _ else _) = _
  rw [if_pos ⟨⟨rfl, by show 1 < _; simp⟩, hg⟩]; rfl
theorem zx_ii1 {l0 : Option Value} {x c : Int32} {h : zHp} (hd : zDi mi pc pc' 1 c = true) (w : zW L mi pc' (l0 :: some (.int (x + c)) :: r) st h Q) : zW L mi pc (l0 :: some (.int x) :: r) st h Q := by
  unfold zDi at hd
  split at hd
  next j n h1 =>
    rw [Bool.and_eq_true, Bool.and_eq_true, Bool.and_eq_true, decide_eq_true_eq, decide_eq_true_eq, decide_eq_true_eq, Bool.not_eq_true'] at hd
    obtain ⟨⟨rfl, rfl⟩, rfl, hg⟩ := hd
    refine zx_st h1 rfl ?_ w
    show (if zlg mi = true then none else _) = _
    rw [if_neg (by rw [hg]; decide)]; rfl
  next => cases hd
theorem zx_il2 {l0 l1 : Option Value} {x : Int32} {h : zHp} (hd : zD mi pc (.iload_n 2) 1 pc' = true) (w : zW L mi pc' (l0 :: l1 :: some (.int x) :: r) (.int x :: st) h Q) : zW L mi pc (l0 :: l1 :: some (.int x) :: r) st h Q := zx_go hd rfl w
theorem zx_al2 {l0 l1 : Option Value} {x : Nat} {h : zHp} (hd : zD mi pc (.aload_n 2) 1 pc' = true) (w : zW L mi pc' (l0 :: l1 :: some (.ref x) :: r) (.ref x :: st) h Q) : zW L mi pc (l0 :: l1 :: some (.ref x) :: r) st h Q := zx_go hd rfl w
theorem zx_is2 {l0 l1 : Option Value} {v : Option Value} {x : Int32} {h : zHp} (hd : zD mi pc (.istore_n 2) 1 pc' = true) (hg : zlg mi = false) (w : zW L mi pc' (l0 :: l1 :: some (.int x) :: r) st h Q) : zW L mi pc (l0 :: l1 :: v :: r) (.int x :: st) h Q := by
  refine zx_go hd ?_ w
  show (if (_ ∧ _) ∧ _ then _ else _) = _
  rw [if_pos ⟨⟨rfl, by show 2 < _; simp⟩, hg⟩]; rfl
theorem zx_as2 {l0 l1 : Option Value} {v : Option Value} {x : Nat} {h : zHp} (hd : zD mi pc (.astore_n 2) 1 pc' = true) (hg : zlg mi = false) (w : zW L mi pc' (l0 :: l1 :: some (.ref x) :: r) st h Q) : zW L mi pc (l0 :: l1 :: v :: r) (.ref x :: st) h Q := by
  refine zx_go hd ?_ w
  show (if (_ ∧ _) ∧ _ then _ else _) = _
  rw [if_pos ⟨⟨rfl, by show 2 < _; simp⟩, hg⟩]; rfl
theorem zx_ii2 {l0 l1 : Option Value} {x c : Int32} {h : zHp} (hd : zDi mi pc pc' 2 c = true) (w : zW L mi pc' (l0 :: l1 :: some (.int (x + c)) :: r) st h Q) : zW L mi pc (l0 :: l1 :: some (.int x) :: r) st h Q := by
  unfold zDi at hd
  split at hd
  next j n h1 =>
    rw [Bool.and_eq_true, Bool.and_eq_true, Bool.and_eq_true, decide_eq_true_eq, decide_eq_true_eq, decide_eq_true_eq, Bool.not_eq_true'] at hd
    obtain ⟨⟨rfl, rfl⟩, rfl, hg⟩ := hd
    refine zx_st h1 rfl ?_ w
    show (if zlg mi = true then none else _) = _
    rw [if_neg (by rw [hg]; decide)]; rfl
  next => cases hd
theorem zx_il3 {l0 l1 l2 : Option Value} {x : Int32} {h : zHp} (hd : zD mi pc (.iload_n 3) 1 pc' = true) (w : zW L mi pc' (l0 :: l1 :: l2 :: some (.int x) :: r) (.int x :: st) h Q) : zW L mi pc (l0 :: l1 :: l2 :: some (.int x) :: r) st h Q := zx_go hd rfl w
theorem zx_al3 {l0 l1 l2 : Option Value} {x : Nat} {h : zHp} (hd : zD mi pc (.aload_n 3) 1 pc' = true) (w : zW L mi pc' (l0 :: l1 :: l2 :: some (.ref x) :: r) (.ref x :: st) h Q) : zW L mi pc (l0 :: l1 :: l2 :: some (.ref x) :: r) st h Q := zx_go hd rfl w
theorem zx_is3 {l0 l1 l2 : Option Value} {v : Option Value} {x : Int32} {h : zHp} (hd : zD mi pc (.istore_n 3) 1 pc' = true) (hg : zlg mi = false) (w : zW L mi pc' (l0 :: l1 :: l2 :: some (.int x) :: r) st h Q) : zW L mi pc (l0 :: l1 :: l2 :: v :: r) (.int x :: st) h Q := by
  refine zx_go hd ?_ w
  show (if (_ ∧ _) ∧ _ then _ else _) = _
  rw [if_pos ⟨⟨rfl, by show 3 < _; simp⟩, hg⟩]; rfl
theorem zx_as3 {l0 l1 l2 : Option Value} {v : Option Value} {x : Nat} {h : zHp} (hd : zD mi pc (.astore_n 3) 1 pc' = true) (hg : zlg mi = false) (w : zW L mi pc' (l0 :: l1 :: l2 :: some (.ref x) :: r) st h Q) : zW L mi pc (l0 :: l1 :: l2 :: v :: r) (.ref x :: st) h Q := by
  refine zx_go hd ?_ w
  show (if (_ ∧ _) ∧ _ then _ else _) = _
  rw [if_pos ⟨⟨rfl, by show 3 < _; simp⟩, hg⟩]; rfl
theorem zx_ii3 {l0 l1 l2 : Option Value} {x c : Int32} {h : zHp} (hd : zDi mi pc pc' 3 c = true) (w : zW L mi pc' (l0 :: l1 :: l2 :: some (.int (x + c)) :: r) st h Q) : zW L mi pc (l0 :: l1 :: l2 :: some (.int x) :: r) st h Q := by
  unfold zDi at hd
  split at hd
  next j n h1 =>
    rw [Bool.and_eq_true, Bool.and_eq_true, Bool.and_eq_true, decide_eq_true_eq, decide_eq_true_eq, decide_eq_true_eq, Bool.not_eq_true'] at hd
    obtain ⟨⟨rfl, rfl⟩, rfl, hg⟩ := hd
    refine zx_st h1 rfl ?_ w
    show (if zlg mi = true then none else _) = _
    rw [if_neg (by rw [hg]; decide)]; rfl
  next => cases hd
theorem zx_il4 {l0 l1 l2 l3 : Option Value} {x : Int32} {h : zHp} (hd : zD mi pc (.iload 4) 2 pc' = true) (w : zW L mi pc' (l0 :: l1 :: l2 :: l3 :: some (.int x) :: r) (.int x :: st) h Q) : zW L mi pc (l0 :: l1 :: l2 :: l3 :: some (.int x) :: r) st h Q := zx_go hd rfl w
theorem zx_al4 {l0 l1 l2 l3 : Option Value} {x : Nat} {h : zHp} (hd : zD mi pc (.aload 4) 2 pc' = true) (w : zW L mi pc' (l0 :: l1 :: l2 :: l3 :: some (.ref x) :: r) (.ref x :: st) h Q) : zW L mi pc (l0 :: l1 :: l2 :: l3 :: some (.ref x) :: r) st h Q := zx_go hd rfl w
theorem zx_is4 {l0 l1 l2 l3 : Option Value} {v : Option Value} {x : Int32} {h : zHp} (hd : zD mi pc (.istore 4) 2 pc' = true) (hg : zlg mi = false) (w : zW L mi pc' (l0 :: l1 :: l2 :: l3 :: some (.int x) :: r) st h Q) : zW L mi pc (l0 :: l1 :: l2 :: l3 :: v :: r) (.int x :: st) h Q := by
  refine zx_go hd ?_ w
  show (if (_ ∧ _) ∧ _ then _ else _) = _
  rw [if_pos ⟨⟨rfl, by show 4 < _; simp⟩, hg⟩]; rfl
theorem zx_as4 {l0 l1 l2 l3 : Option Value} {v : Option Value} {x : Nat} {h : zHp} (hd : zD mi pc (.astore 4) 2 pc' = true) (hg : zlg mi = false) (w : zW L mi pc' (l0 :: l1 :: l2 :: l3 :: some (.ref x) :: r) st h Q) : zW L mi pc (l0 :: l1 :: l2 :: l3 :: v :: r) (.ref x :: st) h Q := by
  refine zx_go hd ?_ w
  show (if (_ ∧ _) ∧ _ then _ else _) = _
  rw [if_pos ⟨⟨rfl, by show 4 < _; simp⟩, hg⟩]; rfl
theorem zx_ii4 {l0 l1 l2 l3 : Option Value} {x c : Int32} {h : zHp} (hd : zDi mi pc pc' 4 c = true) (w : zW L mi pc' (l0 :: l1 :: l2 :: l3 :: some (.int (x + c)) :: r) st h Q) : zW L mi pc (l0 :: l1 :: l2 :: l3 :: some (.int x) :: r) st h Q := by
  unfold zDi at hd
  split at hd
  next j n h1 =>
    rw [Bool.and_eq_true, Bool.and_eq_true, Bool.and_eq_true, decide_eq_true_eq, decide_eq_true_eq, decide_eq_true_eq, Bool.not_eq_true'] at hd
    obtain ⟨⟨rfl, rfl⟩, rfl, hg⟩ := hd
    refine zx_st h1 rfl ?_ w
    show (if zlg mi = true then none else _) = _
    rw [if_neg (by rw [hg]; decide)]; rfl
  next => cases hd
theorem zx_il5 {l0 l1 l2 l3 l4 : Option Value} {x : Int32} {h : zHp} (hd : zD mi pc (.iload 5) 2 pc' = true) (w : zW L mi pc' (l0 :: l1 :: l2 :: l3 :: l4 :: some (.int x) :: r) (.int x :: st) h Q) : zW L mi pc (l0 :: l1 :: l2 :: l3 :: l4 :: some (.int x) :: r) st h Q := zx_go hd rfl w
theorem zx_al5 {l0 l1 l2 l3 l4 : Option Value} {x : Nat} {h : zHp} (hd : zD mi pc (.aload 5) 2 pc' = true) (w : zW L mi pc' (l0 :: l1 :: l2 :: l3 :: l4 :: some (.ref x) :: r) (.ref x :: st) h Q) : zW L mi pc (l0 :: l1 :: l2 :: l3 :: l4 :: some (.ref x) :: r) st h Q := zx_go hd rfl w
theorem zx_is5 {l0 l1 l2 l3 l4 : Option Value} {v : Option Value} {x : Int32} {h : zHp} (hd : zD mi pc (.istore 5) 2 pc' = true) (hg : zlg mi = false) (w : zW L mi pc' (l0 :: l1 :: l2 :: l3 :: l4 :: some (.int x) :: r) st h Q) : zW L mi pc (l0 :: l1 :: l2 :: l3 :: l4 :: v :: r) (.int x :: st) h Q := by
  refine zx_go hd ?_ w
  show (if (_ ∧ _) ∧ _ then _ else _) = _
  rw [if_pos ⟨⟨rfl, by show 5 < _; simp⟩, hg⟩]; rfl
theorem zx_as5 {l0 l1 l2 l3 l4 : Option Value} {v : Option Value} {x : Nat} {h : zHp} (hd : zD mi pc (.astore 5) 2 pc' = true) (hg : zlg mi = false) (w : zW L mi pc' (l0 :: l1 :: l2 :: l3 :: l4 :: some (.ref x) :: r) st h Q) : zW L mi pc (l0 :: l1 :: l2 :: l3 :: l4 :: v :: r) (.ref x :: st) h Q := by
  refine zx_go hd ?_ w
  show (if (_ ∧ _) ∧ _ then _ else _) = _
  rw [if_pos ⟨⟨rfl, by show 5 < _; simp⟩, hg⟩]; rfl
theorem zx_ii5 {l0 l1 l2 l3 l4 : Option Value} {x c : Int32} {h : zHp} (hd : zDi mi pc pc' 5 c = true) (w : zW L mi pc' (l0 :: l1 :: l2 :: l3 :: l4 :: some (.int (x + c)) :: r) st h Q) : zW L mi pc (l0 :: l1 :: l2 :: l3 :: l4 :: some (.int x) :: r) st h Q := by
  unfold zDi at hd
  split at hd
  next j n h1 =>
    rw [Bool.and_eq_true, Bool.and_eq_true, Bool.and_eq_true, decide_eq_true_eq, decide_eq_true_eq, decide_eq_true_eq, Bool.not_eq_true'] at hd
    obtain ⟨⟨rfl, rfl⟩, rfl, hg⟩ := hd
    refine zx_st h1 rfl ?_ w
    show (if zlg mi = true then none else _) = _
    rw [if_neg (by rw [hg]; decide)]; rfl
  next => cases hd
theorem zx_il6 {l0 l1 l2 l3 l4 l5 : Option Value} {x : Int32} {h : zHp} (hd : zD mi pc (.iload 6) 2 pc' = true) (w : zW L mi pc' (l0 :: l1 :: l2 :: l3 :: l4 :: l5 :: some (.int x) :: r) (.int x :: st) h Q) : zW L mi pc (l0 :: l1 :: l2 :: l3 :: l4 :: l5 :: some (.int x) :: r) st h Q := zx_go hd rfl w
theorem zx_al6 {l0 l1 l2 l3 l4 l5 : Option Value} {x : Nat} {h : zHp} (hd : zD mi pc (.aload 6) 2 pc' = true) (w : zW L mi pc' (l0 :: l1 :: l2 :: l3 :: l4 :: l5 :: some (.ref x) :: r) (.ref x :: st) h Q) : zW L mi pc (l0 :: l1 :: l2 :: l3 :: l4 :: l5 :: some (.ref x) :: r) st h Q := zx_go hd rfl w
theorem zx_is6 {l0 l1 l2 l3 l4 l5 : Option Value} {v : Option Value} {x : Int32} {h : zHp} (hd : zD mi pc (.istore 6) 2 pc' = true) (hg : zlg mi = false) (w : zW L mi pc' (l0 :: l1 :: l2 :: l3 :: l4 :: l5 :: some (.int x) :: r) st h Q) : zW L mi pc (l0 :: l1 :: l2 :: l3 :: l4 :: l5 :: v :: r) (.int x :: st) h Q := by
  refine zx_go hd ?_ w
  show (if (_ ∧ _) ∧ _ then _ else _) = _
  rw [if_pos ⟨⟨rfl, by show 6 < _; simp⟩, hg⟩]; rfl
theorem zx_as6 {l0 l1 l2 l3 l4 l5 : Option Value} {v : Option Value} {x : Nat} {h : zHp} (hd : zD mi pc (.astore 6) 2 pc' = true) (hg : zlg mi = false) (w : zW L mi pc' (l0 :: l1 :: l2 :: l3 :: l4 :: l5 :: some (.ref x) :: r) st h Q) : zW L mi pc (l0 :: l1 :: l2 :: l3 :: l4 :: l5 :: v :: r) (.ref x :: st) h Q := by
  refine zx_go hd ?_ w
  show (if (_ ∧ _) ∧ _ then _ else _) = _
  rw [if_pos ⟨⟨rfl, by show 6 < _; simp⟩, hg⟩]; rfl
theorem zx_ii6 {l0 l1 l2 l3 l4 l5 : Option Value} {x c : Int32} {h : zHp} (hd : zDi mi pc pc' 6 c = true) (w : zW L mi pc' (l0 :: l1 :: l2 :: l3 :: l4 :: l5 :: some (.int (x + c)) :: r) st h Q) : zW L mi pc (l0 :: l1 :: l2 :: l3 :: l4 :: l5 :: some (.int x) :: r) st h Q := by
  unfold zDi at hd
  split at hd
  next j n h1 =>
    rw [Bool.and_eq_true, Bool.and_eq_true, Bool.and_eq_true, decide_eq_true_eq, decide_eq_true_eq, decide_eq_true_eq, Bool.not_eq_true'] at hd
    obtain ⟨⟨rfl, rfl⟩, rfl, hg⟩ := hd
    refine zx_st h1 rfl ?_ w
    show (if zlg mi = true then none else _) = _
    rw [if_neg (by rw [hg]; decide)]; rfl
  next => cases hd
theorem zx_il7 {l0 l1 l2 l3 l4 l5 l6 : Option Value} {x : Int32} {h : zHp} (hd : zD mi pc (.iload 7) 2 pc' = true) (w : zW L mi pc' (l0 :: l1 :: l2 :: l3 :: l4 :: l5 :: l6 :: some (.int x) :: r) (.int x :: st) h Q) : zW L mi pc (l0 :: l1 :: l2 :: l3 :: l4 :: l5 :: l6 :: some (.int x) :: r) st h Q := zx_go hd rfl w
theorem zx_al7 {l0 l1 l2 l3 l4 l5 l6 : Option Value} {x : Nat} {h : zHp} (hd : zD mi pc (.aload 7) 2 pc' = true) (w : zW L mi pc' (l0 :: l1 :: l2 :: l3 :: l4 :: l5 :: l6 :: some (.ref x) :: r) (.ref x :: st) h Q) : zW L mi pc (l0 :: l1 :: l2 :: l3 :: l4 :: l5 :: l6 :: some (.ref x) :: r) st h Q := zx_go hd rfl w
theorem zx_is7 {l0 l1 l2 l3 l4 l5 l6 : Option Value} {v : Option Value} {x : Int32} {h : zHp} (hd : zD mi pc (.istore 7) 2 pc' = true) (hg : zlg mi = false) (w : zW L mi pc' (l0 :: l1 :: l2 :: l3 :: l4 :: l5 :: l6 :: some (.int x) :: r) st h Q) : zW L mi pc (l0 :: l1 :: l2 :: l3 :: l4 :: l5 :: l6 :: v :: r) (.int x :: st) h Q := by
  refine zx_go hd ?_ w
  show (if (_ ∧ _) ∧ _ then _ else _) = _
  rw [if_pos ⟨⟨rfl, by show 7 < _; simp⟩, hg⟩]; rfl
theorem zx_as7 {l0 l1 l2 l3 l4 l5 l6 : Option Value} {v : Option Value} {x : Nat} {h : zHp} (hd : zD mi pc (.astore 7) 2 pc' = true) (hg : zlg mi = false) (w : zW L mi pc' (l0 :: l1 :: l2 :: l3 :: l4 :: l5 :: l6 :: some (.ref x) :: r) st h Q) : zW L mi pc (l0 :: l1 :: l2 :: l3 :: l4 :: l5 :: l6 :: v :: r) (.ref x :: st) h Q := by
  refine zx_go hd ?_ w
  show (if (_ ∧ _) ∧ _ then _ else _) = _
  rw [if_pos ⟨⟨rfl, by show 7 < _; simp⟩, hg⟩]; rfl
theorem zx_ii7 {l0 l1 l2 l3 l4 l5 l6 : Option Value} {x c : Int32} {h : zHp} (hd : zDi mi pc pc' 7 c = true) (w : zW L mi pc' (l0 :: l1 :: l2 :: l3 :: l4 :: l5 :: l6 :: some (.int (x + c)) :: r) st h Q) : zW L mi pc (l0 :: l1 :: l2 :: l3 :: l4 :: l5 :: l6 :: some (.int x) :: r) st h Q := by
  unfold zDi at hd
  split at hd
  next j n h1 =>
    rw [Bool.and_eq_true, Bool.and_eq_true, Bool.and_eq_true, decide_eq_true_eq, decide_eq_true_eq, decide_eq_true_eq, Bool.not_eq_true'] at hd
    obtain ⟨⟨rfl, rfl⟩, rfl, hg⟩ := hd
    refine zx_st h1 rfl ?_ w
    show (if zlg mi = true then none else _) = _
    rw [if_neg (by rw [hg]; decide)]; rfl
  next => cases hd
theorem zx_il8 {l0 l1 l2 l3 l4 l5 l6 l7 : Option Value} {x : Int32} {h : zHp} (hd : zD mi pc (.iload 8) 2 pc' = true) (w : zW L mi pc' (l0 :: l1 :: l2 :: l3 :: l4 :: l5 :: l6 :: l7 :: some (.int x) :: r) (.int x :: st) h Q) : zW L mi pc (l0 :: l1 :: l2 :: l3 :: l4 :: l5 :: l6 :: l7 :: some (.int x) :: r) st h Q := zx_go hd rfl w
theorem zx_al8 {l0 l1 l2 l3 l4 l5 l6 l7 : Option Value} {x : Nat} {h : zHp} (hd : zD mi pc (.aload 8) 2 pc' = true) (w : zW L mi pc' (l0 :: l1 :: l2 :: l3 :: l4 :: l5 :: l6 :: l7 :: some (.ref x) :: r) (.ref x :: st) h Q) : zW L mi pc (l0 :: l1 :: l2 :: l3 :: l4 :: l5 :: l6 :: l7 :: some (.ref x) :: r) st h Q := zx_go hd rfl w
theorem zx_is8 {l0 l1 l2 l3 l4 l5 l6 l7 : Option Value} {v : Option Value} {x : Int32} {h : zHp} (hd : zD mi pc (.istore 8) 2 pc' = true) (hg : zlg mi = false) (w : zW L mi pc' (l0 :: l1 :: l2 :: l3 :: l4 :: l5 :: l6 :: l7 :: some (.int x) :: r) st h Q) : zW L mi pc (l0 :: l1 :: l2 :: l3 :: l4 :: l5 :: l6 :: l7 :: v :: r) (.int x :: st) h Q := by
  refine zx_go hd ?_ w
  show (if (_ ∧ _) ∧ _ then _ else _) = _
  rw [if_pos ⟨⟨rfl, by show 8 < _; simp⟩, hg⟩]; rfl
theorem zx_as8 {l0 l1 l2 l3 l4 l5 l6 l7 : Option Value} {v : Option Value} {x : Nat} {h : zHp} (hd : zD mi pc (.astore 8) 2 pc' = true) (hg : zlg mi = false) (w : zW L mi pc' (l0 :: l1 :: l2 :: l3 :: l4 :: l5 :: l6 :: l7 :: some (.ref x) :: r) st h Q) : zW L mi pc (l0 :: l1 :: l2 :: l3 :: l4 :: l5 :: l6 :: l7 :: v :: r) (.ref x :: st) h Q := by
  refine zx_go hd ?_ w
  show (if (_ ∧ _) ∧ _ then _ else _) = _
  rw [if_pos ⟨⟨rfl, by show 8 < _; simp⟩, hg⟩]; rfl
theorem zx_ii8 {l0 l1 l2 l3 l4 l5 l6 l7 : Option Value} {x c : Int32} {h : zHp} (hd : zDi mi pc pc' 8 c = true) (w : zW L mi pc' (l0 :: l1 :: l2 :: l3 :: l4 :: l5 :: l6 :: l7 :: some (.int (x + c)) :: r) st h Q) : zW L mi pc (l0 :: l1 :: l2 :: l3 :: l4 :: l5 :: l6 :: l7 :: some (.int x) :: r) st h Q := by
  unfold zDi at hd
  split at hd
  next j n h1 =>
    rw [Bool.and_eq_true, Bool.and_eq_true, Bool.and_eq_true, decide_eq_true_eq, decide_eq_true_eq, decide_eq_true_eq, Bool.not_eq_true'] at hd
    obtain ⟨⟨rfl, rfl⟩, rfl, hg⟩ := hd
    refine zx_st h1 rfl ?_ w
    show (if zlg mi = true then none else _) = _
    rw [if_neg (by rw [hg]; decide)]; rfl
  next => cases hd
theorem zx_il9 {l0 l1 l2 l3 l4 l5 l6 l7 l8 : Option Value} {x : Int32} {h : zHp} (hd : zD mi pc (.iload 9) 2 pc' = true) (w : zW L mi pc' (l0 :: l1 :: l2 :: l3 :: l4 :: l5 :: l6 :: l7 :: l8 :: some (.int x) :: r) (.int x :: st) h Q) : zW L mi pc (l0 :: l1 :: l2 :: l3 :: l4 :: l5 :: l6 :: l7 :: l8 :: some (.int x) :: r) st h Q := zx_go hd rfl w
theorem zx_al9 {l0 l1 l2 l3 l4 l5 l6 l7 l8 : Option Value} {x : Nat} {h : zHp} (hd : zD mi pc (.aload 9) 2 pc' = true) (w : zW L mi pc' (l0 :: l1 :: l2 :: l3 :: l4 :: l5 :: l6 :: l7 :: l8 :: some (.ref x) :: r) (.ref x :: st) h Q) : zW L mi pc (l0 :: l1 :: l2 :: l3 :: l4 :: l5 :: l6 :: l7 :: l8 :: some (.ref x) :: r) st h Q := zx_go hd rfl w
theorem zx_is9 {l0 l1 l2 l3 l4 l5 l6 l7 l8 : Option Value} {v : Option Value} {x : Int32} {h : zHp} (hd : zD mi pc (.istore 9) 2 pc' = true) (hg : zlg mi = false) (w : zW L mi pc' (l0 :: l1 :: l2 :: l3 :: l4 :: l5 :: l6 :: l7 :: l8 :: some (.int x) :: r) st h Q) : zW L mi pc (l0 :: l1 :: l2 :: l3 :: l4 :: l5 :: l6 :: l7 :: l8 :: v :: r) (.int x :: st) h Q := by
  refine zx_go hd ?_ w
  show (if (_ ∧ _) ∧ _ then _ else _) = _
  rw [if_pos ⟨⟨rfl, by show 9 < _; simp⟩, hg⟩]; rfl
theorem zx_as9 {l0 l1 l2 l3 l4 l5 l6 l7 l8 : Option Value} {v : Option Value} {x : Nat} {h : zHp} (hd : zD mi pc (.astore 9) 2 pc' = true) (hg : zlg mi = false) (w : zW L mi pc' (l0 :: l1 :: l2 :: l3 :: l4 :: l5 :: l6 :: l7 :: l8 :: some (.ref x) :: r) st h Q) : zW L mi pc (l0 :: l1 :: l2 :: l3 :: l4 :: l5 :: l6 :: l7 :: l8 :: v :: r) (.ref x :: st) h Q := by
  refine zx_go hd ?_ w
  show (if (_ ∧ _) ∧ _ then _ else _) = _
  rw [if_pos ⟨⟨rfl, by show 9 < _; simp⟩, hg⟩]; rfl
theorem zx_ii9 {l0 l1 l2 l3 l4 l5 l6 l7 l8 : Option Value} {x c : Int32} {h : zHp} (hd : zDi mi pc pc' 9 c = true) (w : zW L mi pc' (l0 :: l1 :: l2 :: l3 :: l4 :: l5 :: l6 :: l7 :: l8 :: some (.int (x + c)) :: r) st h Q) : zW L mi pc (l0 :: l1 :: l2 :: l3 :: l4 :: l5 :: l6 :: l7 :: l8 :: some (.int x) :: r) st h Q := by
  unfold zDi at hd
  split at hd
  next j n h1 =>
    rw [Bool.and_eq_true, Bool.and_eq_true, Bool.and_eq_true, decide_eq_true_eq, decide_eq_true_eq, decide_eq_true_eq, Bool.not_eq_true'] at hd
    obtain ⟨⟨rfl, rfl⟩, rfl, hg⟩ := hd
    refine zx_st h1 rfl ?_ w
    show (if zlg mi = true then none else _) = _
    rw [if_neg (by rw [hg]; decide)]; rfl
  next => cases hd
theorem zx_il10 {l0 l1 l2 l3 l4 l5 l6 l7 l8 l9 : Option Value} {x : Int32} {h : zHp} (hd : zD mi pc (.iload 10) 2 pc' = true) (w : zW L mi pc' (l0 :: l1 :: l2 :: l3 :: l4 :: l5 :: l6 :: l7 :: l8 :: l9 :: some (.int x) :: r) (.int x :: st) h Q) : zW L mi pc (l0 :: l1 :: l2 :: l3 :: l4 :: l5 :: l6 :: l7 :: l8 :: l9 :: some (.int x) :: r) st h Q := zx_go hd rfl w
theorem zx_al10 {l0 l1 l2 l3 l4 l5 l6 l7 l8 l9 : Option Value} {x : Nat} {h : zHp} (hd : zD mi pc (.aload 10) 2 pc' = true) (w : zW L mi pc' (l0 :: l1 :: l2 :: l3 :: l4 :: l5 :: l6 :: l7 :: l8 :: l9 :: some (.ref x) :: r) (.ref x :: st) h Q) : zW L mi pc (l0 :: l1 :: l2 :: l3 :: l4 :: l5 :: l6 :: l7 :: l8 :: l9 :: some (.ref x) :: r) st h Q := zx_go hd rfl w
theorem zx_is10 {l0 l1 l2 l3 l4 l5 l6 l7 l8 l9 : Option Value} {v : Option Value} {x : Int32} {h : zHp} (hd : zD mi pc (.istore 10) 2 pc' = true) (hg : zlg mi = false) (w : zW L mi pc' (l0 :: l1 :: l2 :: l3 :: l4 :: l5 :: l6 :: l7 :: l8 :: l9 :: some (.int x) :: r) st h Q) : zW L mi pc (l0 :: l1 :: l2 :: l3 :: l4 :: l5 :: l6 :: l7 :: l8 :: l9 :: v :: r) (.int x :: st) h Q := by
  refine zx_go hd ?_ w
  show (if (_ ∧ _) ∧ _ then _ else _) = _
  rw [if_pos ⟨⟨rfl, by show 10 < _; simp⟩, hg⟩]; rfl
theorem zx_as10 {l0 l1 l2 l3 l4 l5 l6 l7 l8 l9 : Option Value} {v : Option Value} {x : Nat} {h : zHp} (hd : zD mi pc (.astore 10) 2 pc' = true) (hg : zlg mi = false) (w : zW L mi pc' (l0 :: l1 :: l2 :: l3 :: l4 :: l5 :: l6 :: l7 :: l8 :: l9 :: some (.ref x) :: r) st h Q) : zW L mi pc (l0 :: l1 :: l2 :: l3 :: l4 :: l5 :: l6 :: l7 :: l8 :: l9 :: v :: r) (.ref x :: st) h Q := by
  refine zx_go hd ?_ w
  show (if (_ ∧ _) ∧ _ then _ else _) = _
  rw [if_pos ⟨⟨rfl, by show 10 < _; simp⟩, hg⟩]; rfl
theorem zx_ii10 {l0 l1 l2 l3 l4 l5 l6 l7 l8 l9 : Option Value} {x c : Int32} {h : zHp} (hd : zDi mi pc pc' 10 c = true) (w : zW L mi pc' (l0 :: l1 :: l2 :: l3 :: l4 :: l5 :: l6 :: l7 :: l8 :: l9 :: some (.int (x + c)) :: r) st h Q) : zW L mi pc (l0 :: l1 :: l2 :: l3 :: l4 :: l5 :: l6 :: l7 :: l8 :: l9 :: some (.int x) :: r) st h Q := by
  unfold zDi at hd
  split at hd
  next j n h1 =>
    rw [Bool.and_eq_true, Bool.and_eq_true, Bool.and_eq_true, decide_eq_true_eq, decide_eq_true_eq, decide_eq_true_eq, Bool.not_eq_true'] at hd
    obtain ⟨⟨rfl, rfl⟩, rfl, hg⟩ := hd
    refine zx_st h1 rfl ?_ w
    show (if zlg mi = true then none else _) = _
    rw [if_neg (by rw [hg]; decide)]; rfl
  next => cases hd
theorem zx_il11 {l0 l1 l2 l3 l4 l5 l6 l7 l8 l9 l10 : Option Value} {x : Int32} {h : zHp} (hd : zD mi pc (.iload 11) 2 pc' = true) (w : zW L mi pc' (l0 :: l1 :: l2 :: l3 :: l4 :: l5 :: l6 :: l7 :: l8 :: l9 :: l10 :: some (.int x) :: r) (.int x :: st) h Q) : zW L mi pc (l0 :: l1 :: l2 :: l3 :: l4 :: l5 :: l6 :: l7 :: l8 :: l9 :: l10 :: some (.int x) :: r) st h Q := zx_go hd rfl w
theorem zx_al11 {l0 l1 l2 l3 l4 l5 l6 l7 l8 l9 l10 : Option Value} {x : Nat} {h : zHp} (hd : zD mi pc (.aload 11) 2 pc' = true) (w : zW L mi pc' (l0 :: l1 :: l2 :: l3 :: l4 :: l5 :: l6 :: l7 :: l8 :: l9 :: l10 :: some (.ref x) :: r) (.ref x :: st) h Q) : zW L mi pc (l0 :: l1 :: l2 :: l3 :: l4 :: l5 :: l6 :: l7 :: l8 :: l9 :: l10 :: some (.ref x) :: r) st h Q := zx_go hd rfl w
theorem zx_is11 {l0 l1 l2 l3 l4 l5 l6 l7 l8 l9 l10 : Option Value} {v : Option Value} {x : Int32} {h : zHp} (hd : zD mi pc (.istore 11) 2 pc' = true) (hg : zlg mi = false) (w : zW L mi pc' (l0 :: l1 :: l2 :: l3 :: l4 :: l5 :: l6 :: l7 :: l8 :: l9 :: l10 :: some (.int x) :: r) st h Q) : zW L mi pc (l0 :: l1 :: l2 :: l3 :: l4 :: l5 :: l6 :: l7 :: l8 :: l9 :: l10 :: v :: r) (.int x :: st) h Q := by
  refine zx_go hd ?_ w
  show (if (_ ∧ _) ∧ _ then _ else _) = _
  rw [if_pos ⟨⟨rfl, by show 11 < _; simp⟩, hg⟩]; rfl
theorem zx_as11 {l0 l1 l2 l3 l4 l5 l6 l7 l8 l9 l10 : Option Value} {v : Option Value} {x : Nat} {h : zHp} (hd : zD mi pc (.astore 11) 2 pc' = true) (hg : zlg mi = false) (w : zW L mi pc' (l0 :: l1 :: l2 :: l3 :: l4 :: l5 :: l6 :: l7 :: l8 :: l9 :: l10 :: some (.ref x) :: r) st h Q) : zW L mi pc (l0 :: l1 :: l2 :: l3 :: l4 :: l5 :: l6 :: l7 :: l8 :: l9 :: l10 :: v :: r) (.ref x :: st) h Q := by
  refine zx_go hd ?_ w
  show (if (_ ∧ _) ∧ _ then _ else _) = _
  rw [if_pos ⟨⟨rfl, by show 11 < _; simp⟩, hg⟩]; rfl
theorem zx_ii11 {l0 l1 l2 l3 l4 l5 l6 l7 l8 l9 l10 : Option Value} {x c : Int32} {h : zHp} (hd : zDi mi pc pc' 11 c = true) (w : zW L mi pc' (l0 :: l1 :: l2 :: l3 :: l4 :: l5 :: l6 :: l7 :: l8 :: l9 :: l10 :: some (.int (x + c)) :: r) st h Q) : zW L mi pc (l0 :: l1 :: l2 :: l3 :: l4 :: l5 :: l6 :: l7 :: l8 :: l9 :: l10 :: some (.int x) :: r) st h Q := by
  unfold zDi at hd
  split at hd
  next j n h1 =>
    rw [Bool.and_eq_true, Bool.and_eq_true, Bool.and_eq_true, decide_eq_true_eq, decide_eq_true_eq, decide_eq_true_eq, Bool.not_eq_true'] at hd
    obtain ⟨⟨rfl, rfl⟩, rfl, hg⟩ := hd
    refine zx_st h1 rfl ?_ w
    show (if zlg mi = true then none else _) = _
    rw [if_neg (by rw [hg]; decide)]; rfl
  next => cases hd
theorem zx_il12 {l0 l1 l2 l3 l4 l5 l6 l7 l8 l9 l10 l11 : Option Value} {x : Int32} {h : zHp} (hd : zD mi pc (.iload 12) 2 pc' = true) (w : zW L mi pc' (l0 :: l1 :: l2 :: l3 :: l4 :: l5 :: l6 :: l7 :: l8 :: l9 :: l10 :: l11 :: some (.int x) :: r) (.int x :: st) h Q) : zW L mi pc (l0 :: l1 :: l2 :: l3 :: l4 :: l5 :: l6 :: l7 :: l8 :: l9 :: l10 :: l11 :: some (.int x) :: r) st h Q := zx_go hd rfl w
theorem zx_al12 {l0 l1 l2 l3 l4 l5 l6 l7 l8 l9 l10 l11 : Option Value} {x : Nat} {h : zHp} (hd : zD mi pc (.aload 12) 2 pc' = true) (w : zW L mi pc' (l0 :: l1 :: l2 :: l3 :: l4 :: l5 :: l6 :: l7 :: l8 :: l9 :: l10 :: l11 :: some (.ref x) :: r) (.ref x :: st) h Q) : zW L mi pc (l0 :: l1 :: l2 :: l3 :: l4 :: l5 :: l6 :: l7 :: l8 :: l9 :: l10 :: l11 :: some (.ref x) :: r) st h Q := zx_go hd rfl w
theorem zx_is12 {l0 l1 l2 l3 l4 l5 l6 l7 l8 l9 l10 l11 : Option Value} {v : Option Value} {x : Int32} {h : zHp} (hd : zD mi pc (.istore 12) 2 pc' = true) (hg : zlg mi = false) (w : zW L mi pc' (l0 :: l1 :: l2 :: l3 :: l4 :: l5 :: l6 :: l7 :: l8 :: l9 :: l10 :: l11 :: some (.int x) :: r) st h Q) : zW L mi pc (l0 :: l1 :: l2 :: l3 :: l4 :: l5 :: l6 :: l7 :: l8 :: l9 :: l10 :: l11 :: v :: r) (.int x :: st) h Q := by
  refine zx_go hd ?_ w
  show (if (_ ∧ _) ∧ _ then _ else _) = _
  rw [if_pos ⟨⟨rfl, by show 12 < _; simp⟩, hg⟩]; rfl
theorem zx_as12 {l0 l1 l2 l3 l4 l5 l6 l7 l8 l9 l10 l11 : Option Value} {v : Option Value} {x : Nat} {h : zHp} (hd : zD mi pc (.astore 12) 2 pc' = true) (hg : zlg mi = false) (w : zW L mi pc' (l0 :: l1 :: l2 :: l3 :: l4 :: l5 :: l6 :: l7 :: l8 :: l9 :: l10 :: l11 :: some (.ref x) :: r) st h Q) : zW L mi pc (l0 :: l1 :: l2 :: l3 :: l4 :: l5 :: l6 :: l7 :: l8 :: l9 :: l10 :: l11 :: v :: r) (.ref x :: st) h Q := by
  refine zx_go hd ?_ w
  show (if (_ ∧ _) ∧ _ then _ else _) = _
  rw [if_pos ⟨⟨rfl, by show 12 < _; simp⟩, hg⟩]; rfl
theorem zx_ii12 {l0 l1 l2 l3 l4 l5 l6 l7 l8 l9 l10 l11 : Option Value} {x c : Int32} {h : zHp} (hd : zDi mi pc pc' 12 c = true) (w : zW L mi pc' (l0 :: l1 :: l2 :: l3 :: l4 :: l5 :: l6 :: l7 :: l8 :: l9 :: l10 :: l11 :: some (.int (x + c)) :: r) st h Q) : zW L mi pc (l0 :: l1 :: l2 :: l3 :: l4 :: l5 :: l6 :: l7 :: l8 :: l9 :: l10 :: l11 :: some (.int x) :: r) st h Q := by
  unfold zDi at hd
  split at hd
  next j n h1 =>
    rw [Bool.and_eq_true, Bool.and_eq_true, Bool.and_eq_true, decide_eq_true_eq, decide_eq_true_eq, decide_eq_true_eq, Bool.not_eq_true'] at hd
    obtain ⟨⟨rfl, rfl⟩, rfl, hg⟩ := hd
    refine zx_st h1 rfl ?_ w
    show (if zlg mi = true then none else _) = _
    rw [if_neg (by rw [hg]; decide)]; rfl
  next => cases hd
theorem zx_il13 {l0 l1 l2 l3 l4 l5 l6 l7 l8 l9 l10 l11 l12 : Option Value} {x : Int32} {h : zHp} (hd : zD mi pc (.iload 13) 2 pc' = true) (w : zW L mi pc' (l0 :: l1 :: l2 :: l3 :: l4 :: l5 :: l6 :: l7 :: l8 :: l9 :: l10 :: l11 :: l12 :: some (.int x) :: r) (.int x :: st) h Q) : zW L mi pc (l0 :: l1 :: l2 :: l3 :: l4 :: l5 :: l6 :: l7 :: l8 :: l9 :: l10 :: l11 :: l12 :: some (.int x) :: r) st h Q := zx_go hd rfl w
theorem zx_al13 {l0 l1 l2 l3 l4 l5 l6 l7 l8 l9 l10 l11 l12 : Option Value} {x : Nat} {h : zHp} (hd : zD mi pc (.aload 13) 2 pc' = true) (w : zW L mi pc' (l0 :: l1 :: l2 :: l3 :: l4 :: l5 :: l6 :: l7 :: l8 :: l9 :: l10 :: l11 :: l12 :: some (.ref x) :: r) (.ref x :: st) h Q) : zW L mi pc (l0 :: l1 :: l2 :: l3 :: l4 :: l5 :: l6 :: l7 :: l8 :: l9 :: l10 :: l11 :: l12 :: some (.ref x) :: r) st h Q := zx_go hd rfl w
theorem zx_is13 {l0 l1 l2 l3 l4 l5 l6 l7 l8 l9 l10 l11 l12 : Option Value} {v : Option Value} {x : Int32} {h : zHp} (hd : zD mi pc (.istore 13) 2 pc' = true) (hg : zlg mi = false) (w : zW L mi pc' (l0 :: l1 :: l2 :: l3 :: l4 :: l5 :: l6 :: l7 :: l8 :: l9 :: l10 :: l11 :: l12 :: some (.int x) :: r) st h Q) : zW L mi pc (l0 :: l1 :: l2 :: l3 :: l4 :: l5 :: l6 :: l7 :: l8 :: l9 :: l10 :: l11 :: l12 :: v :: r) (.int x :: st) h Q := by
  refine zx_go hd ?_ w
  show (if (_ ∧ _) ∧ _ then _ else _) = _
  rw [if_pos ⟨⟨rfl, by show 13 < _; simp⟩, hg⟩]; rfl
theorem zx_as13 {l0 l1 l2 l3 l4 l5 l6 l7 l8 l9 l10 l11 l12 : Option Value} {v : Option Value} {x : Nat} {h : zHp} (hd : zD mi pc (.astore 13) 2 pc' = true) (hg : zlg mi = false) (w : zW L mi pc' (l0 :: l1 :: l2 :: l3 :: l4 :: l5 :: l6 :: l7 :: l8 :: l9 :: l10 :: l11 :: l12 :: some (.ref x) :: r) st h Q) : zW L mi pc (l0 :: l1 :: l2 :: l3 :: l4 :: l5 :: l6 :: l7 :: l8 :: l9 :: l10 :: l11 :: l12 :: v :: r) (.ref x :: st) h Q := by
  refine zx_go hd ?_ w
  show (if (_ ∧ _) ∧ _ then _ else _) = _
  rw [if_pos ⟨⟨rfl, by show 13 < _; simp⟩, hg⟩]; rfl
theorem zx_ii13 {l0 l1 l2 l3 l4 l5 l6 l7 l8 l9 l10 l11 l12 : Option Value} {x c : Int32} {h : zHp} (hd : zDi mi pc pc' 13 c = true) (w : zW L mi pc' (l0 :: l1 :: l2 :: l3 :: l4 :: l5 :: l6 :: l7 :: l8 :: l9 :: l10 :: l11 :: l12 :: some (.int (x + c)) :: r) st h Q) : zW L mi pc (l0 :: l1 :: l2 :: l3 :: l4 :: l5 :: l6 :: l7 :: l8 :: l9 :: l10 :: l11 :: l12 :: some (.int x) :: r) st h Q := by
  unfold zDi at hd
  split at hd
  next j n h1 =>
    rw [Bool.and_eq_true, Bool.and_eq_true, Bool.and_eq_true, decide_eq_true_eq, decide_eq_true_eq, decide_eq_true_eq, Bool.not_eq_true'] at hd
    obtain ⟨⟨rfl, rfl⟩, rfl, hg⟩ := hd
    refine zx_st h1 rfl ?_ w
    show (if zlg mi = true then none else _) = _
    rw [if_neg (by rw [hg]; decide)]; rfl
  next => cases hd
theorem zx_il14 {l0 l1 l2 l3 l4 l5 l6 l7 l8 l9 l10 l11 l12 l13 : Option Value} {x : Int32} {h : zHp} (hd : zD mi pc (.iload 14) 2 pc' = true) (w : zW L mi pc' (l0 :: l1 :: l2 :: l3 :: l4 :: l5 :: l6 :: l7 :: l8 :: l9 :: l10 :: l11 :: l12 :: l13 :: some (.int x) :: r) (.int x :: st) h Q) : zW L mi pc (l0 :: l1 :: l2 :: l3 :: l4 :: l5 :: l6 :: l7 :: l8 :: l9 :: l10 :: l11 :: l12 :: l13 :: some (.int x) :: r) st h Q := zx_go hd rfl w
theorem zx_al14 {l0 l1 l2 l3 l4 l5 l6 l7 l8 l9 l10 l11 l12 l13 : Option Value} {x : Nat} {h : zHp} (hd : zD mi pc (.aload 14) 2 pc' = true) (w : zW L mi pc' (l0 :: l1 :: l2 :: l3 :: l4 :: l5 :: l6 :: l7 :: l8 :: l9 :: l10 :: l11 :: l12 :: l13 :: some (.ref x) :: r) (.ref x :: st) h Q) : zW L mi pc (l0 :: l1 :: l2 :: l3 :: l4 :: l5 :: l6 :: l7 :: l8 :: l9 :: l10 :: l11 :: l12 :: l13 :: some (.ref x) :: r) st h Q := zx_go hd rfl w
theorem zx_is14 {l0 l1 l2 l3 l4 l5 l6 l7 l8 l9 l10 l11 l12 l13 : Option Value} {v : Option Value} {x : Int32} {h : zHp} (hd : zD mi pc (.istore 14) 2 pc' = true) (hg : zlg mi = false) (w : zW L mi pc' (l0 :: l1 :: l2 :: l3 :: l4 :: l5 :: l6 :: l7 :: l8 :: l9 :: l10 :: l11 :: l12 :: l13 :: some (.int x) :: r) st h Q) : zW L mi pc (l0 :: l1 :: l2 :: l3 :: l4 :: l5 :: l6 :: l7 :: l8 :: l9 :: l10 :: l11 :: l12 :: l13 :: v :: r) (.int x :: st) h Q := by
  refine zx_go hd ?_ w
  show (if (_ ∧ _) ∧ _ then _ else _) = _
  rw [if_pos ⟨⟨rfl, by show 14 < _; simp⟩, hg⟩]; rfl
theorem zx_as14 {l0 l1 l2 l3 l4 l5 l6 l7 l8 l9 l10 l11 l12 l13 : Option Value} {v : Option Value} {x : Nat} {h : zHp} (hd : zD mi pc (.astore 14) 2 pc' = true) (hg : zlg mi = false) (w : zW L mi pc' (l0 :: l1 :: l2 :: l3 :: l4 :: l5 :: l6 :: l7 :: l8 :: l9 :: l10 :: l11 :: l12 :: l13 :: some (.ref x) :: r) st h Q) : zW L mi pc (l0 :: l1 :: l2 :: l3 :: l4 :: l5 :: l6 :: l7 :: l8 :: l9 :: l10 :: l11 :: l12 :: l13 :: v :: r) (.ref x :: st) h Q := by
  refine zx_go hd ?_ w
  show (if (_ ∧ _) ∧ _ then _ else _) = _
  rw [if_pos ⟨⟨rfl, by show 14 < _; simp⟩, hg⟩]; rfl
theorem zx_ii14 {l0 l1 l2 l3 l4 l5 l6 l7 l8 l9 l10 l11 l12 l13 : Option Value} {x c : Int32} {h : zHp} (hd : zDi mi pc pc' 14 c = true) (w : zW L mi pc' (l0 :: l1 :: l2 :: l3 :: l4 :: l5 :: l6 :: l7 :: l8 :: l9 :: l10 :: l11 :: l12 :: l13 :: some (.int (x + c)) :: r) st h Q) : zW L mi pc (l0 :: l1 :: l2 :: l3 :: l4 :: l5 :: l6 :: l7 :: l8 :: l9 :: l10 :: l11 :: l12 :: l13 :: some (.int x) :: r) st h Q := by
  unfold zDi at hd
  split at hd
  next j n h1 =>
    rw [Bool.and_eq_true, Bool.and_eq_true, Bool.and_eq_true, decide_eq_true_eq, decide_eq_true_eq, decide_eq_true_eq, Bool.not_eq_true'] at hd
    obtain ⟨⟨rfl, rfl⟩, rfl, hg⟩ := hd
    refine zx_st h1 rfl ?_ w
    show (if zlg mi = true then none else _) = _
    rw [if_neg (by rw [hg]; decide)]; rfl
  next => cases hd
theorem zx_il15 {l0 l1 l2 l3 l4 l5 l6 l7 l8 l9 l10 l11 l12 l13 l14 : Option Value} {x : Int32} {h : zHp} (hd : zD mi pc (.iload 15) 2 pc' = true) (w : zW L mi pc' (l0 :: l1 :: l2 :: l3 :: l4 :: l5 :: l6 :: l7 :: l8 :: l9 :: l10 :: l11 :: l12 :: l13 :: l14 :: some (.int x) :: r) (.int x :: st) h Q) : zW L mi pc (l0 :: l1 :: l2 :: l3 :: l4 :: l5 :: l6 :: l7 :: l8 :: l9 :: l10 :: l11 :: l12 :: l13 :: l14 :: some (.int x) :: r) st h Q := zx_go hd rfl w
theorem zx_al15 {l0 l1 l2 l3 l4 l5 l6 l7 l8 l9 l10 l11 l12 l13 l14 : Option Value} {x : Nat} {h : zHp} (hd : zD mi pc (.aload 15) 2 pc' = true) (w : zW L mi pc' (l0 :: l1 :: l2 :: l3 :: l4 :: l5 :: l6 :: l7 :: l8 :: l9 :: l10 :: l11 :: l12 :: l13 :: l14 :: some (.ref x) :: r) (.ref x :: st) h Q) : zW L mi pc (l0 :: l1 :: l2 :: l3 :: l4 :: l5 :: l6 :: l7 :: l8 :: l9 :: l10 :: l11 :: l12 :: l13 :: l14 :: some (.ref x) :: r) st h Q := zx_go hd rfl w
theorem zx_is15 {l0 l1 l2 l3 l4 l5 l6 l7 l8 l9 l10 l11 l12 l13 l14 : Option Value} {v : Option Value} {x : Int32} {h : zHp} (hd : zD mi pc (.istore 15) 2 pc' = true) (hg : zlg mi = false) (w : zW L mi pc' (l0 :: l1 :: l2 :: l3 :: l4 :: l5 :: l6 :: l7 :: l8 :: l9 :: l10 :: l11 :: l12 :: l13 :: l14 :: some (.int x) :: r) st h Q) : zW L mi pc (l0 :: l1 :: l2 :: l3 :: l4 :: l5 :: l6 :: l7 :: l8 :: l9 :: l10 :: l11 :: l12 :: l13 :: l14 :: v :: r) (.int x :: st) h Q := by
  refine zx_go hd ?_ w
  show (if (_ ∧ _) ∧ _ then _ else _) = _
  rw [if_pos ⟨⟨rfl, by show 15 < _; simp⟩, hg⟩]; rfl
theorem zx_as15 {l0 l1 l2 l3 l4 l5 l6 l7 l8 l9 l10 l11 l12 l13 l14 : Option Value} {v : Option Value} {x : Nat} {h : zHp} (hd : zD mi pc (.astore 15) 2 pc' = true) (hg : zlg mi = false) (w : zW L mi pc' (l0 :: l1 :: l2 :: l3 :: l4 :: l5 :: l6 :: l7 :: l8 :: l9 :: l10 :: l11 :: l12 :: l13 :: l14 :: some (.ref x) :: r) st h Q) : zW L mi pc (l0 :: l1 :: l2 :: l3 :: l4 :: l5 :: l6 :: l7 :: l8 :: l9 :: l10 :: l11 :: l12 :: l13 :: l14 :: v :: r) (.ref x :: st) h Q := by
  refine zx_go hd ?_ w
  show (if (_ ∧ _) ∧ _ then _ else _) = _
  rw [if_pos ⟨⟨rfl, by show 15 < _; simp⟩, hg⟩]; rfl
theorem zx_ii15 {l0 l1 l2 l3 l4 l5 l6 l7 l8 l9 l10 l11 l12 l13 l14 : Option Value} {x c : Int32} {h : zHp} (hd : zDi mi pc pc' 15 c = true) (w : zW L mi pc' (l0 :: l1 :: l2 :: l3 :: l4 :: l5 :: l6 :: l7 :: l8 :: l9 :: l10 :: l11 :: l12 :: l13 :: l14 :: some (.int (x + c)) :: r) st h Q) : zW L mi pc (l0 :: l1 :: l2 :: l3 :: l4 :: l5 :: l6 :: l7 :: l8 :: l9 :: l10 :: l11 :: l12 :: l13 :: l14 :: some (.int x) :: r) st h Q := by
  unfold zDi at hd
  split at hd
  next j n h1 =>
    rw [Bool.and_eq_true, Bool.and_eq_true, Bool.and_eq_true, decide_eq_true_eq, decide_eq_true_eq, decide_eq_true_eq, Bool.not_eq_true'] at hd
    obtain ⟨⟨rfl, rfl⟩, rfl, hg⟩ := hd
    refine zx_st h1 rfl ?_ w
    show (if zlg mi = true then none else _) = _
    rw [if_neg (by rw [hg]; decide)]; rfl
  next => cases hd
theorem zx_il16 {l0 l1 l2 l3 l4 l5 l6 l7 l8 l9 l10 l11 l12 l13 l14 l15 : Option Value} {x : Int32} {h : zHp} (hd : zD mi pc (.iload 16) 2 pc' = true) (w : zW L mi pc' (l0 :: l1 :: l2 :: l3 :: l4 :: l5 :: l6 :: l7 :: l8 :: l9 :: l10 :: l11 :: l12 :: l13 :: l14 :: l15 :: some (.int x) :: r) (.int x :: st) h Q) : zW L mi pc (l0 :: l1 :: l2 :: l3 :: l4 :: l5 :: l6 :: l7 :: l8 :: l9 :: l10 :: l11 :: l12 :: l13 :: l14 :: l15 :: some (.int x) :: r) st h Q := zx_go hd rfl w
theorem zx_al16 {l0 l1 l2 l3 l4 l5 l6 l7 l8 l9 l10 l11 l12 l13 l14 l15 : Option Value} {x : Nat} {h : zHp} (hd : zD mi pc (.aload 16) 2 pc' = true) (w : zW L mi pc' (l0 :: l1 :: l2 :: l3 :: l4 :: l5 :: l6 :: l7 :: l8 :: l9 :: l10 :: l11 :: l12 :: l13 :: l14 :: l15 :: some (.ref x) :: r) (.ref x :: st) h Q) : zW L mi pc (l0 :: l1 :: l2 :: l3 :: l4 :: l5 :: l6 :: l7 :: l8 :: l9 :: l10 :: l11 :: l12 :: l13 :: l14 :: l15 :: some (.ref x) :: r) st h Q := zx_go hd rfl w
theorem zx_is16 {l0 l1 l2 l3 l4 l5 l6 l7 l8 l9 l10 l11 l12 l13 l14 l15 : Option Value} {v : Option Value} {x : Int32} {h : zHp} (hd : zD mi pc (.istore 16) 2 pc' = true) (hg : zlg mi = false) (w : zW L mi pc' (l0 :: l1 :: l2 :: l3 :: l4 :: l5 :: l6 :: l7 :: l8 :: l9 :: l10 :: l11 :: l12 :: l13 :: l14 :: l15 :: some (.int x) :: r) st h Q) : zW L mi pc (l0 :: l1 :: l2 :: l3 :: l4 :: l5 :: l6 :: l7 :: l8 :: l9 :: l10 :: l11 :: l12 :: l13 :: l14 :: l15 :: v :: r) (.int x :: st) h Q := by
  refine zx_go hd ?_ w
  show (if (_ ∧ _) ∧ _ then _ else _) = _
  rw [if_pos ⟨⟨rfl, by show 16 < _; simp⟩, hg⟩]; rfl
theorem zx_as16 {l0 l1 l2 l3 l4 l5 l6 l7 l8 l9 l10 l11 l12 l13 l14 l15 : Option Value} {v : Option Value} {x : Nat} {h : zHp} (hd : zD mi pc (.astore 16) 2 pc' = true) (hg : zlg mi = false) (w : zW L mi pc' (l0 :: l1 :: l2 :: l3 :: l4 :: l5 :: l6 :: l7 :: l8 :: l9 :: l10 :: l11 :: l12 :: l13 :: l14 :: l15 :: some (.ref x) :: r) st h Q) : zW L mi pc (l0 :: l1 :: l2 :: l3 :: l4 :: l5 :: l6 :: l7 :: l8 :: l9 :: l10 :: l11 :: l12 :: l13 :: l14 :: l15 :: v :: r) (.ref x :: st) h Q := by
  refine zx_go hd ?_ w
  show (if (_ ∧ _) ∧ _ then _ else _) = _
  rw [if_pos ⟨⟨rfl, by show 16 < _; simp⟩, hg⟩]; rfl
theorem zx_ii16 {l0 l1 l2 l3 l4 l5 l6 l7 l8 l9 l10 l11 l12 l13 l14 l15 : Option Value} {x c : Int32} {h : zHp} (hd : zDi mi pc pc' 16 c = true) (w : zW L mi pc' (l0 :: l1 :: l2 :: l3 :: l4 :: l5 :: l6 :: l7 :: l8 :: l9 :: l10 :: l11 :: l12 :: l13 :: l14 :: l15 :: some (.int (x + c)) :: r) st h Q) : zW L mi pc (l0 :: l1 :: l2 :: l3 :: l4 :: l5 :: l6 :: l7 :: l8 :: l9 :: l10 :: l11 :: l12 :: l13 :: l14 :: l15 :: some (.int x) :: r) st h Q := by
  unfold zDi at hd
  split at hd
  next j n h1 =>
    rw [Bool.and_eq_true, Bool.and_eq_true, Bool.and_eq_true, decide_eq_true_eq, decide_eq_true_eq, decide_eq_true_eq, Bool.not_eq_true'] at hd
    obtain ⟨⟨rfl, rfl⟩, rfl, hg⟩ := hd
    refine zx_st h1 rfl ?_ w
    show (if zlg mi = true then none else _) = _
    rw [if_neg (by rw [hg]; decide)]; rfl
  next => cases hd
theorem zx_ll2 {l0 l1 : Option Value} {x : Int64} {h : zHp} (hd : zD mi pc (.lload_n 2) 1 pc' = true) (w : zW L mi pc' (l0 :: l1 :: some (.long x) :: r) (.long x :: st) h Q) : zW L mi pc (l0 :: l1 :: some (.long x) :: r) st h Q := zx_go hd rfl w
theorem zx_ll4 {l0 l1 l2 l3 : Option Value} {x : Int64} {h : zHp} (hd : zD mi pc (.lload 4) 2 pc' = true) (w : zW L mi pc' (l0 :: l1 :: l2 :: l3 :: some (.long x) :: r) (.long x :: st) h Q) : zW L mi pc (l0 :: l1 :: l2 :: l3 :: some (.long x) :: r) st h Q := zx_go hd rfl w
theorem zx_ll6 {l0 l1 l2 l3 l4 l5 : Option Value} {x : Int64} {h : zHp} (hd : zD mi pc (.lload 6) 2 pc' = true) (w : zW L mi pc' (l0 :: l1 :: l2 :: l3 :: l4 :: l5 :: some (.long x) :: r) (.long x :: st) h Q) : zW L mi pc (l0 :: l1 :: l2 :: l3 :: l4 :: l5 :: some (.long x) :: r) st h Q := zx_go hd rfl w
theorem zx_ll8 {l0 l1 l2 l3 l4 l5 l6 l7 : Option Value} {x : Int64} {h : zHp} (hd : zD mi pc (.lload 8) 2 pc' = true) (w : zW L mi pc' (l0 :: l1 :: l2 :: l3 :: l4 :: l5 :: l6 :: l7 :: some (.long x) :: r) (.long x :: st) h Q) : zW L mi pc (l0 :: l1 :: l2 :: l3 :: l4 :: l5 :: l6 :: l7 :: some (.long x) :: r) st h Q := zx_go hd rfl w
theorem zx_add {x y : Int32} {h : zHp} (hd : zD mi pc .iadd 1 pc' = true) (w : zW L mi pc' lv (.int (x + y) :: st) h Q) : zW L mi pc lv (.int y :: .int x :: st) h Q := zx_go hd rfl w
theorem zx_sub {x y : Int32} {h : zHp} (hd : zD mi pc .isub 1 pc' = true) (w : zW L mi pc' lv (.int (x - y) :: st) h Q) : zW L mi pc lv (.int y :: .int x :: st) h Q := zx_go hd rfl w
theorem zx_mul {x y : Int32} {h : zHp} (hd : zD mi pc .imul 1 pc' = true) (w : zW L mi pc' lv (.int (x * y) :: st) h Q) : zW L mi pc lv (.int y :: .int x :: st) h Q := zx_go hd rfl w
theorem zx_and {x y : Int32} {h : zHp} (hd : zD mi pc .iand 1 pc' = true) (w : zW L mi pc' lv (.int (x &&& y) :: st) h Q) : zW L mi pc lv (.int y :: .int x :: st) h Q := zx_go hd rfl w
theorem zx_or {x y : Int32} {h : zHp} (hd : zD mi pc .ior 1 pc' = true) (w : zW L mi pc' lv (.int (x ||| y) :: st) h Q) : zW L mi pc lv (.int y :: .int x :: st) h Q := zx_go hd rfl w
theorem zx_xor {x y : Int32} {h : zHp} (hd : zD mi pc .ixor 1 pc' = true) (w : zW L mi pc' lv (.int (x ^^^ y) :: st) h Q) : zW L mi pc lv (.int y :: .int x :: st) h Q := zx_go hd rfl w
theorem zx_shl {x y : Int32} {h : zHp} (hd : zD mi pc .ishl 1 pc' = true) (w : zW L mi pc' lv (.int (x <<< (y &&& 31)) :: st) h Q) : zW L mi pc lv (.int y :: .int x :: st) h Q := zx_go hd rfl w
theorem zx_shr {x y : Int32} {h : zHp} (hd : zD mi pc .ishr 1 pc' = true) (w : zW L mi pc' lv (.int (x >>> (y &&& 31)) :: st) h Q) : zW L mi pc lv (.int y :: .int x :: st) h Q := zx_go hd rfl w
theorem zx_ushr {x y : Int32} {h : zHp} (hd : zD mi pc .iushr 1 pc' = true) (w : zW L mi pc' lv (.int ((x.toUInt32 >>> (y.toUInt32 &&& Int32.toUInt32 31)).toInt32) :: st) h Q) : zW L mi pc lv (.int y :: .int x :: st) h Q := zx_go hd rfl w
theorem zx_div {x y : Int32} {h : zHp} (hd : zD mi pc .idiv 1 pc' = true) (hy : y ≠ 0) (w : zW L mi pc' lv (.int (x / y) :: st) h Q) : zW L mi pc lv (.int y :: .int x :: st) h Q := by
  refine zx_go hd ?_ w
  show (match (if y = 0 then none else some (x / y)) with | some v => _ | none => _) = _
  rw [if_neg hy]; rfl
theorem zx_rem {x y : Int32} {h : zHp} (hd : zD mi pc .irem 1 pc' = true) (hy : y ≠ 0) (w : zW L mi pc' lv (.int (x - x / y * y) :: st) h Q) : zW L mi pc lv (.int y :: .int x :: st) h Q := by
  refine zx_go hd ?_ w
  show (match (if y = 0 then none else some (x - x / y * y)) with | some v => _ | none => _) = _
  rw [if_neg hy]; rfl
theorem zx_i2l {x : Int32} {h : zHp} (hd : zD mi pc .i2l 1 pc' = true) (w : zW L mi pc' lv (.long x.toInt64 :: st) h Q) : zW L mi pc lv (.int x :: st) h Q := zx_go hd rfl w
theorem zx_l2i {x : Int64} {h : zHp} (hd : zD mi pc .l2i 1 pc' = true) (w : zW L mi pc' lv (.int x.toInt32 :: st) h Q) : zW L mi pc lv (.long x :: st) h Q := zx_go hd rfl w
theorem zx_lshr {x : Int64} {y : Int32} {h : zHp} (hd : zD mi pc .lshr 1 pc' = true) (w : zW L mi pc' lv (.long (x >>> (y.toInt64 &&& 63)) :: st) h Q) : zW L mi pc lv (.int y :: .long x :: st) h Q := zx_go hd rfl w
theorem zx_lcmp {x y : Int64} {h : zHp} (hd : zD mi pc .lcmp 1 pc' = true) (w : zW L mi pc' lv (.int (lg_cmp x y) :: st) h Q) : zW L mi pc lv (.long y :: .long x :: st) h Q := zx_go hd rfl w
theorem zx_dupI {x : Int32} {h : zHp} (hd : zD mi pc .dup 1 pc' = true) (w : zW L mi pc' lv (.int x :: .int x :: st) h Q) : zW L mi pc lv (.int x :: st) h Q := zx_go hd rfl w
theorem zx_dupR {x : Nat} {h : zHp} (hd : zD mi pc .dup 1 pc' = true) (w : zW L mi pc' lv (.ref x :: .ref x :: st) h Q) : zW L mi pc lv (.ref x :: st) h Q := zx_go hd rfl w
theorem zx_dup2 {x : Int32} {y : Nat} {h : zHp} (hd : zD mi pc .dup2 1 pc' = true) (w : zW L mi pc' lv (.int x :: .ref y :: .int x :: .ref y :: st) h Q) : zW L mi pc lv (.int x :: .ref y :: st) h Q := zx_go hd rfl w
theorem zx_goto {tg : Nat} {h : zHp} (hd : zDj mi pc tg = true) (w : zW L mi tg lv st h Q) : zW L mi pc lv st h Q := by
  unfold zDj at hd
  split at hd
  next off h1 =>
    rw [Bool.and_eq_true, decide_eq_true_eq, decide_eq_true_eq] at hd
    refine zx_st h1 rfl ?_ w
    show (if 0 ≤ (pc : Int) + off then _ else none) = _
    rw [if_pos hd.1, hd.2]; rfl
  next => cases hd
theorem zx_if {c : ClassFile.Cond} {tg nx : Nat} {x : Int32} {h : zHp} (hd : zDf mi pc c tg nx = true) (w1 : zcmp c x 0 = true → zW L mi tg lv st h Q) (w2 : zcmp c x 0 = false → zW L mi nx lv st h Q) : zW L mi pc lv (.int x :: st) h Q := by
  unfold zDf at hd
  split at hd
  next d off h1 =>
    rw [Bool.and_eq_true, Bool.and_eq_true, Bool.and_eq_true, decide_eq_true_eq, decide_eq_true_eq, decide_eq_true_eq, decide_eq_true_eq] at hd
    obtain ⟨⟨rfl, h2⟩, rfl, rfl⟩ := hd
    cases hc : zcmp d x 0 with
    | true =>
      refine zx_st h1 rfl ?_ (w1 hc)
      show (if 0 ≤ (pc : Int) + off then _ else none) = _
      rw [if_pos h2, if_pos hc]; rfl
    | false =>
      refine zx_st h1 rfl ?_ (w2 hc)
      show (if 0 ≤ (pc : Int) + off then _ else none) = _
      rw [if_pos h2, if_neg (by rw [hc]; decide)]; rfl
  next => cases hd
theorem zx_icmp {c : ClassFile.Cond} {tg nx : Nat} {x y : Int32} {h : zHp} (hd : zDm mi pc c tg nx = true) (w1 : zcmp c x y = true → zW L mi tg lv st h Q) (w2 : zcmp c x y = false → zW L mi nx lv st h Q) : zW L mi pc lv (.int y :: .int x :: st) h Q := by
  unfold zDm at hd
  split at hd
  next d off h1 =>
    rw [Bool.and_eq_true, Bool.and_eq_true, Bool.and_eq_true, decide_eq_true_eq, decide_eq_true_eq, decide_eq_true_eq, decide_eq_true_eq] at hd
    obtain ⟨⟨rfl, h2⟩, rfl, rfl⟩ := hd
    cases hc : zcmp d x y with
    | true =>
      refine zx_st h1 rfl ?_ (w1 hc)
      show (if 0 ≤ (pc : Int) + off then _ else none) = _
      rw [if_pos h2, if_pos hc]; rfl
    | false =>
      refine zx_st h1 rfl ?_ (w2 hc)
      show (if 0 ≤ (pc : Int) + off then _ else none) = _
      rw [if_pos h2, if_neg (by rw [hc]; decide)]; rfl
  next => cases hd
theorem zx_icmpeq {tg nx : Nat} {x y : Int32} {h : zHp} (hd : zDm mi pc .eq tg nx = true) (w1 : x = y → zW L mi tg lv st h Q) (w2 : ¬ x = y → zW L mi nx lv st h Q) : zW L mi pc lv (.int y :: .int x :: st) h Q := zx_icmp hd (fun hc => w1 (by simpa [zcmp, Int32.not_lt] using hc)) (fun hc => w2 (by simpa [zcmp, Int32.not_lt] using hc))
theorem zx_ifeq {tg nx : Nat} {x : Int32} {h : zHp} (hd : zDf mi pc .eq tg nx = true) (w1 : x = 0 → zW L mi tg lv st h Q) (w2 : ¬ x = 0 → zW L mi nx lv st h Q) : zW L mi pc lv (.int x :: st) h Q := zx_if hd (fun hc => w1 (by simpa [zcmp, Int32.not_lt] using hc)) (fun hc => w2 (by simpa [zcmp, Int32.not_lt] using hc))
theorem zx_icmpne {tg nx : Nat} {x y : Int32} {h : zHp} (hd : zDm mi pc .ne tg nx = true) (w1 : ¬ x = y → zW L mi tg lv st h Q) (w2 : x = y → zW L mi nx lv st h Q) : zW L mi pc lv (.int y :: .int x :: st) h Q := zx_icmp hd (fun hc => w1 (by simpa [zcmp, Int32.not_lt] using hc)) (fun hc => w2 (by simpa [zcmp, Int32.not_lt] using hc))
theorem zx_ifne {tg nx : Nat} {x : Int32} {h : zHp} (hd : zDf mi pc .ne tg nx = true) (w1 : ¬ x = 0 → zW L mi tg lv st h Q) (w2 : x = 0 → zW L mi nx lv st h Q) : zW L mi pc lv (.int x :: st) h Q := zx_if hd (fun hc => w1 (by simpa [zcmp, Int32.not_lt] using hc)) (fun hc => w2 (by simpa [zcmp, Int32.not_lt] using hc))
theorem zx_icmplt {tg nx : Nat} {x y : Int32} {h : zHp} (hd : zDm mi pc .lt tg nx = true) (w1 : x < y → zW L mi tg lv st h Q) (w2 : ¬ x < y → zW L mi nx lv st h Q) : zW L mi pc lv (.int y :: .int x :: st) h Q := zx_icmp hd (fun hc => w1 (by simpa [zcmp, Int32.not_lt] using hc)) (fun hc => w2 (by simpa [zcmp, Int32.not_lt] using hc))
theorem zx_iflt {tg nx : Nat} {x : Int32} {h : zHp} (hd : zDf mi pc .lt tg nx = true) (w1 : x < 0 → zW L mi tg lv st h Q) (w2 : ¬ x < 0 → zW L mi nx lv st h Q) : zW L mi pc lv (.int x :: st) h Q := zx_if hd (fun hc => w1 (by simpa [zcmp, Int32.not_lt] using hc)) (fun hc => w2 (by simpa [zcmp, Int32.not_lt] using hc))
theorem zx_icmpge {tg nx : Nat} {x y : Int32} {h : zHp} (hd : zDm mi pc .ge tg nx = true) (w1 : ¬ x < y → zW L mi tg lv st h Q) (w2 : x < y → zW L mi nx lv st h Q) : zW L mi pc lv (.int y :: .int x :: st) h Q := zx_icmp hd (fun hc => w1 (by simpa [zcmp, Int32.not_lt] using hc)) (fun hc => w2 (by simpa [zcmp, Int32.not_lt] using hc))
theorem zx_ifge {tg nx : Nat} {x : Int32} {h : zHp} (hd : zDf mi pc .ge tg nx = true) (w1 : ¬ x < 0 → zW L mi tg lv st h Q) (w2 : x < 0 → zW L mi nx lv st h Q) : zW L mi pc lv (.int x :: st) h Q := zx_if hd (fun hc => w1 (by simpa [zcmp, Int32.not_lt] using hc)) (fun hc => w2 (by simpa [zcmp, Int32.not_lt] using hc))
theorem zx_icmpgt {tg nx : Nat} {x y : Int32} {h : zHp} (hd : zDm mi pc .gt tg nx = true) (w1 : y < x → zW L mi tg lv st h Q) (w2 : ¬ y < x → zW L mi nx lv st h Q) : zW L mi pc lv (.int y :: .int x :: st) h Q := zx_icmp hd (fun hc => w1 (by simpa [zcmp, Int32.not_lt] using hc)) (fun hc => w2 (by simpa [zcmp, Int32.not_lt] using hc))
theorem zx_ifgt {tg nx : Nat} {x : Int32} {h : zHp} (hd : zDf mi pc .gt tg nx = true) (w1 : 0 < x → zW L mi tg lv st h Q) (w2 : ¬ 0 < x → zW L mi nx lv st h Q) : zW L mi pc lv (.int x :: st) h Q := zx_if hd (fun hc => w1 (by simpa [zcmp, Int32.not_lt] using hc)) (fun hc => w2 (by simpa [zcmp, Int32.not_lt] using hc))
theorem zx_icmple {tg nx : Nat} {x y : Int32} {h : zHp} (hd : zDm mi pc .le tg nx = true) (w1 : ¬ y < x → zW L mi tg lv st h Q) (w2 : y < x → zW L mi nx lv st h Q) : zW L mi pc lv (.int y :: .int x :: st) h Q := zx_icmp hd (fun hc => w1 (by simpa [zcmp, Int32.not_lt] using hc)) (fun hc => w2 (by simpa [zcmp, Int32.not_lt] using hc))
theorem zx_ifle {tg nx : Nat} {x : Int32} {h : zHp} (hd : zDf mi pc .le tg nx = true) (w1 : ¬ 0 < x → zW L mi tg lv st h Q) (w2 : 0 < x → zW L mi nx lv st h Q) : zW L mi pc lv (.int x :: st) h Q := zx_if hd (fun hc => w1 (by simpa [zcmp, Int32.not_lt] using hc)) (fun hc => w2 (by simpa [zcmp, Int32.not_lt] using hc))
/-! fields -/
theorem zDg_ok {ci f : Nat} {t : FieldType} (h : zDg mi pc pc' ci f t = true) : ∃ k, decode (zcd mi) pc = .ok (.getfield k, 3) ∧ zfl (zoc mi) k = some (ci, f) ∧ f < zfN ci ∧ zft ci f = t ∧ pc + 3 = pc' := by
  unfold zDg at h
  split at h
  next k h1 =>
    rw [Bool.and_eq_true, Bool.and_eq_true, Bool.and_eq_true, decide_eq_true_eq, decide_eq_true_eq, decide_eq_true_eq, decide_eq_true_eq] at h
    exact ⟨k, h1, h.1.1, h.1.2, h.2.1, h.2.2⟩
  next => cases h
theorem zx_gf {ci f a : Nat} {t : FieldType} {h : zHp} (hd : zDg mi pc pc' ci f t = true) (hk : zk L h a = some (.inr ci)) (w : zW L mi pc' lv (zval t h a f :: st) h Q) : zW L mi pc lv (.ref a :: st) h Q := by
  obtain ⟨k, h1, h2, h3, rfl, rfl⟩ := zDg_ok hd
  refine zx_st h1 rfl ?_ w
  show zins2 L mi pc lv (.ref a :: st) h (.getfield k) 3 = _
  unfold zins2; dsimp only; rw [h2]; dsimp only
  rw [if_pos ⟨hk, h3⟩]; rfl
theorem zx_gfI {ci f a : Nat} (hd : zDg mi pc pc' ci f .int = true) (hk : zk L (N, U, I, J, R) a = some (.inr ci)) (w : zW L mi pc' lv (.int (I a f) :: st) (N, U, I, J, R) Q) : zW L mi pc lv (.ref a :: st) (N, U, I, J, R) Q := zx_gf hd hk w
theorem zx_gfZ {ci f a : Nat} (hd : zDg mi pc pc' ci f .boolean = true) (hk : zk L (N, U, I, J, R) a = some (.inr ci)) (w : zW L mi pc' lv (.int (I a f) :: st) (N, U, I, J, R) Q) : zW L mi pc lv (.ref a :: st) (N, U, I, J, R) Q := zx_gf hd hk w
theorem zx_gfA {ci f a b : Nat} {t : FieldType} (hd : zDg mi pc pc' ci f (.array t) = true) (hk : zk L (N, U, I, J, R) a = some (.inr ci)) (hr : R a f = some b) (w : zW L mi pc' lv (.ref b :: st) (N, U, I, J, R) Q) : zW L mi pc lv (.ref a :: st) (N, U, I, J, R) Q := zx_gf hd hk (by show zW L mi pc' lv (va_rf (R a f) :: st) _ Q; rw [hr]; exact w)
theorem zx_gfO {ci f a b : Nat} {t : String} (hd : zDg mi pc pc' ci f (.object t) = true) (hk : zk L (N, U, I, J, R) a = some (.inr ci)) (hr : R a f = some b) (w : zW L mi pc' lv (.ref b :: st) (N, U, I, J, R) Q) : zW L mi pc lv (.ref a :: st) (N, U, I, J, R) Q := zx_gf hd hk (by show zW L mi pc' lv (va_rf (R a f) :: st) _ Q; rw [hr]; exact w)
theorem zx_pf {ci f a : Nat} {t : FieldType} {v : Value} {h h' : zHp} (hd : zDp mi pc pc' ci f t = true) (hk : zk L h a = some (.inr ci)) (ha : zS ≤ a) (hp : zput t h a f v = some h') (w : zW L mi pc' lv st h' Q) : zW L mi pc lv (v :: .ref a :: st) h Q := by
  unfold zDp at hd
  split at hd
  next k h1 =>
    rw [Bool.and_eq_true, Bool.and_eq_true, Bool.and_eq_true, Bool.and_eq_true, decide_eq_true_eq, decide_eq_true_eq, decide_eq_true_eq, decide_eq_true_eq, Bool.or_eq_true, decide_eq_true_eq, Bool.not_eq_true'] at hd
    obtain ⟨⟨⟨h2, h3⟩, rfl, rfl⟩, h4⟩ := hd
    have hs : zins2 L mi pc lv (v :: .ref a :: st) h (.putfield k) 3 = some (.inl (pc + 3, lv, st, h')) := by
      unfold zins2; dsimp only; rw [h2]; dsimp only
      rw [if_pos ⟨⟨hk, h3, ha⟩, fun hf => by rcases h4 with h4 | h4; (rw [h4] at hf; cases hf); exact h4⟩, hp]; rfl
    exact zx_st h1 rfl hs w
  next => cases hd
theorem zx_pfI {ci f a : Nat} {v : Int32} (hd : zDp mi pc pc' ci f .int = true) (hk : zk L (N, U, I, J, R) a = some (.inr ci)) (ha : 3 ≤ a) (w : zW L mi pc' lv st (N, U, zu I a f v, J, R) Q) : zW L mi pc lv (.int v :: .ref a :: st) (N, U, I, J, R) Q := zx_pf hd hk ha rfl w
theorem zx_pfZ {ci f a : Nat} {v : Int32} (hd : zDp mi pc pc' ci f .boolean = true) (hk : zk L (N, U, I, J, R) a = some (.inr ci)) (ha : 3 ≤ a) (hv : v = 0 ∨ v = 1) (w : zW L mi pc' lv st (N, U, zu I a f v, J, R) Q) : zW L mi pc lv (.int v :: .ref a :: st) (N, U, I, J, R) Q := zx_pf hd hk ha (by show (if _ then _ else _) = _; rw [if_pos hv]) w
theorem zx_pfA {ci f a v : Nat} {t : FieldType} (hd : zDp mi pc pc' ci f (.array t) = true) (hk : zk L (N, U, I, J, R) a = some (.inr ci)) (ha : 3 ≤ a) (w : zW L mi pc' lv st (N, U, I, J, zu R a f (some v)) Q) : zW L mi pc lv (.ref v :: .ref a :: st) (N, U, I, J, R) Q := zx_pf hd hk ha rfl w
theorem zx_pfO {ci f a v : Nat} {t : String} (hd : zDp mi pc pc' ci f (.object t) = true) (hk : zk L (N, U, I, J, R) a = some (.inr ci)) (ha : 3 ≤ a) (w : zW L mi pc' lv st (N, U, I, J, zu R a f (some v)) Q) : zW L mi pc lv (.ref v :: .ref a :: st) (N, U, I, J, R) Q := zx_pf hd hk ha rfl w
theorem zx_gs {a : Nat} {h : zHp} (hd : zDs mi pc pc' a = true) (w : zW L mi pc' lv (.ref a :: st) h Q) : zW L mi pc lv st h Q := by
  unfold zDs at hd
  split at hd
  next k h1 =>
    rw [Bool.and_eq_true, decide_eq_true_eq, decide_eq_true_eq] at hd
    obtain ⟨h2, rfl⟩ := hd
    refine zx_st h1 rfl ?_ w
    show zins2 L mi pc lv st h (.getstatic k) 3 = _
    unfold zins2; dsimp only; rw [h2]; rfl
  next => cases hd
/-! arrays -/
theorem zald_eq {ty : FieldType → Bool} {t : FieldType} {n a : Nat} {h : zHp} {j : Int32} (hk : zk L h a = some (.inl (t, n))) (ht : ty t = true) (h0 : 0 ≤ j) (hj : j.toNatClampNeg < n) : zald L ty h a j = some (zval t h a j.toNatClampNeg) := by
  unfold zald; rw [hk]; dsimp only; rw [if_pos ⟨ht, h0, hj⟩]
theorem zast_eq {ty : FieldType → Bool} {t : FieldType} {n a : Nat} {h : zHp} {j : Int32} {v : Value} (hk : zk L h a = some (.inl (t, n))) (ht : ty t = true) (h0 : 0 ≤ j) (hj : j.toNatClampNeg < n) (ha : 3 ≤ a) : zast L ty h a j v = zput t h a j.toNatClampNeg v := by
  unfold zast; rw [hk]; dsimp only; rw [if_pos ⟨ht, h0, hj, ha⟩]
theorem zx_iald {n a : Nat} {j : Int32} (hd : zD mi pc .iaload 1 pc' = true) (hk : zk L (N, U, I, J, R) a = some (.inl (.int, n))) (h0 : 0 ≤ j) (hj : j.toNatClampNeg < n) (w : zW L mi pc' lv (.int (I a j.toNatClampNeg) :: st) (N, U, I, J, R) Q) : zW L mi pc lv (.int j :: .ref a :: st) (N, U, I, J, R) Q := by
  refine zx_go hd ?_ w
  show zpush (zald L zisI _ a j) _ _ _ _ = _
  rw [zald_eq hk rfl h0 hj]; rfl
theorem zx_zald {n a : Nat} {j : Int32} (hd : zD mi pc .baload 1 pc' = true) (hk : zk L (N, U, I, J, R) a = some (.inl (.boolean, n))) (h0 : 0 ≤ j) (hj : j.toNatClampNeg < n) (w : zW L mi pc' lv (.int (I a j.toNatClampNeg) :: st) (N, U, I, J, R) Q) : zW L mi pc lv (.int j :: .ref a :: st) (N, U, I, J, R) Q := by
  refine zx_go hd ?_ w
  show zpush (zald L zisZ _ a j) _ _ _ _ = _
  rw [zald_eq hk rfl h0 hj]; rfl
theorem zx_lald {n a : Nat} {j : Int32} (hd : zD mi pc .laload 1 pc' = true) (hk : zk L (N, U, I, J, R) a = some (.inl (.long, n))) (h0 : 0 ≤ j) (hj : j.toNatClampNeg < n) (w : zW L mi pc' lv (.long (J a j.toNatClampNeg) :: st) (N, U, I, J, R) Q) : zW L mi pc lv (.int j :: .ref a :: st) (N, U, I, J, R) Q := by
  refine zx_go hd ?_ w
  show zpush (zald L zisL _ a j) _ _ _ _ = _
  rw [zald_eq hk rfl h0 hj]; rfl
theorem zx_aald {n a b : Nat} {t : FieldType} {j : Int32} (hd : zD mi pc .aaload 1 pc' = true) (hk : zk L (N, U, I, J, R) a = some (.inl (t, n))) (ht : (∃ C, t = .object C) ∨ ∃ u, t = .array u) (h0 : 0 ≤ j) (hj : j.toNatClampNeg < n) (hr : R a j.toNatClampNeg = some b) (w : zW L mi pc' lv (.ref b :: st) (N, U, I, J, R) Q) : zW L mi pc lv (.int j :: .ref a :: st) (N, U, I, J, R) Q := by
  refine zx_go hd ?_ w
  show zpush (zald L zisR _ a j) _ _ _ _ = _
  rw [zald_eq hk (by rcases ht with ⟨C, rfl⟩ | ⟨u, rfl⟩ <;> rfl) h0 hj]
  have e : zval t (N, U, I, J, R) a j.toNatClampNeg = .ref b := by
    rcases ht with ⟨C, rfl⟩ | ⟨u, rfl⟩
    · show va_rf (R a j.toNatClampNeg) = _; rw [hr]; rfl
    · show va_rf (R a j.toNatClampNeg) = _; rw [hr]; rfl
  rw [e]; rfl
theorem zx_iast {n a : Nat} {j v : Int32} (hd : zD mi pc .iastore 1 pc' = true) (hk : zk L (N, U, I, J, R) a = some (.inl (.int, n))) (h0 : 0 ≤ j) (hj : j.toNatClampNeg < n) (ha : 3 ≤ a) (w : zW L mi pc' lv st (N, U, zu I a j.toNatClampNeg v, J, R) Q) : zW L mi pc lv (.int v :: .int j :: .ref a :: st) (N, U, I, J, R) Q := by
  refine zx_go hd ?_ w
  show zo (zast L zisI _ a j (.int v)) _ _ _ = _
  rw [zast_eq hk rfl h0 hj ha]; rfl
theorem zx_zast {n a : Nat} {j v : Int32} (hd : zD mi pc .bastore 1 pc' = true) (hk : zk L (N, U, I, J, R) a = some (.inl (.boolean, n))) (h0 : 0 ≤ j) (hj : j.toNatClampNeg < n) (ha : 3 ≤ a) (hv : v = 0 ∨ v = 1) (w : zW L mi pc' lv st (N, U, zu I a j.toNatClampNeg v, J, R) Q) : zW L mi pc lv (.int v :: .int j :: .ref a :: st) (N, U, I, J, R) Q := by
  refine zx_go hd ?_ w
  show zo (zast L zisZ _ a j (.int v)) _ _ _ = _
  rw [zast_eq hk rfl h0 hj ha]
  show zo (if _ then _ else _) _ _ _ = _
  rw [if_pos hv]; rfl
theorem zx_last {n a : Nat} {j : Int32} {v : Int64} (hd : zD mi pc .lastore 1 pc' = true) (hk : zk L (N, U, I, J, R) a = some (.inl (.long, n))) (h0 : 0 ≤ j) (hj : j.toNatClampNeg < n) (ha : 3 ≤ a) (w : zW L mi pc' lv st (N, U, I, zu J a j.toNatClampNeg v, R) Q) : zW L mi pc lv (.long v :: .int j :: .ref a :: st) (N, U, I, J, R) Q := by
  refine zx_go hd ?_ w
  show zo (zast L zisL _ a j (.long v)) _ _ _ = _
  rw [zast_eq hk rfl h0 hj ha]; rfl
theorem zx_aast {n a v ci : Nat} {j : Int32} (hd : zD mi pc .aastore 1 pc' = true) (hv : zk L (N, U, I, J, R) v = some (.inr ci)) (hk : zk L (N, U, I, J, R) a = some (.inl (.object (zcn ci), n))) (h0 : 0 ≤ j) (hj : j.toNatClampNeg < n) (ha : 3 ≤ a) (w : zW L mi pc' lv st (N, U, I, J, zu R a j.toNatClampNeg (some v)) Q) : zW L mi pc lv (.ref v :: .int j :: .ref a :: st) (N, U, I, J, R) Q := by
  refine zx_go hd ?_ w
  show zins2 L mi pc lv (.ref v :: .int j :: .ref a :: st) (N, U, I, J, R) .aastore 1 = _
  unfold zins2; dsimp only; rw [hv, hk]; dsimp only
  rw [if_pos ⟨⟨rfl, h0⟩, hj, ha⟩]; rfl
theorem zx_alen {n a : Nat} {t : FieldType} {h : zHp} (hd : zD mi pc .arraylength 1 pc' = true) (hk : zk L h a = some (.inl (t, n))) (w : zW L mi pc' lv (.int (Int32.ofNat n) :: st) h Q) : zW L mi pc lv (.ref a :: st) h Q := by
  refine zx_go hd ?_ w
  show zins2 L mi pc lv (.ref a :: st) h .arraylength 1 = _
  unfold zins2; dsimp only; rw [hk]; rfl
/-! makers -/
theorem zx_new {ci : Nat} (hd : zDw mi pc pc' ci = true) (hK : zK L N = some (.inr ci)) (w : zW L mi pc' lv (.ref N :: st) (N + 1, U + zfN ci, zc I N 0, zc J N 0, zc R N none) Q) : zW L mi pc lv st (N, U, I, J, R) Q := by
  unfold zDw at hd
  split at hd
  next k h1 =>
    rw [Bool.and_eq_true, decide_eq_true_eq, decide_eq_true_eq] at hd
    obtain ⟨h2, rfl⟩ := hd
    refine zx_st h1 rfl ?_ w
    show zins2 L mi pc lv st _ (.new k) 3 = _
    unfold zins2; dsimp only; rw [h2]; dsimp only
    rw [if_pos hK]; rfl
  next => cases hd
theorem zx_newa {t : ArrayType} {n : Nat} (hd : zD mi pc (.newarray t) 2 pc' = true) (hn : n ≤ 65536) (ht : zna t = true) (hK : zK L N = some (.inl (newarray.typeOf t, n))) (w : zW L mi pc' lv (.ref N :: st) (N + 1, U + n, zc I N 0, zc J N 0, zc R N none) Q) : zW L mi pc lv (.int (Int32.ofNat n) :: st) (N, U, I, J, R) Q := by
  have e : (Int32.ofNat n).toNatClampNeg = n := Int32.toNatClampNeg_ofNat_of_lt (by omega)
  refine zx_go hd ?_ w
  show zins2 L mi pc lv (.int (Int32.ofNat n) :: st) (N, U, I, J, R) (.newarray t) 2 = _
  unfold zins2; dsimp only; rw [e]
  rw [if_pos ⟨⟨Int32.ofNat_le_ofNat (by decide) (by omega) |>.mpr (Nat.zero_le n), ht⟩, hK, hn⟩]; rfl
theorem zx_anew {C : String} {n : Nat} (hd : zDa mi pc pc' C = true) (hn : n ≤ 65536) (hK : zK L N = some (.inl (.object C, n))) (w : zW L mi pc' lv (.ref N :: st) (N + 1, U + n, zc I N 0, zc J N 0, zc R N none) Q) : zW L mi pc lv (.int (Int32.ofNat n) :: st) (N, U, I, J, R) Q := by
  have e : (Int32.ofNat n).toNatClampNeg = n := Int32.toNatClampNeg_ofNat_of_lt (by omega)
  unfold zDa at hd
  split at hd
  next k h1 =>
    rw [Bool.and_eq_true, decide_eq_true_eq, decide_eq_true_eq] at hd
    obtain ⟨h2, rfl⟩ := hd
    refine zx_st h1 rfl ?_ w
    show zins2 L mi pc lv (.int (Int32.ofNat n) :: st) (N, U, I, J, R) (.anewarray k) 3 = _
    unfold zins2; dsimp only; rw [h2]; dsimp only; rw [e]
    rw [if_pos ⟨Int32.ofNat_le_ofNat (by decide) (by omega) |>.mpr (Nat.zero_le n), hK, hn⟩]; rfl
  next => cases hd
theorem zx_multi {n k : Nat} (hd : zDu mi pc pc' = true) (hn : n ≤ 65536) (hw : k ≤ 65536) (hK : zK L N = some (.inl (.array .int, n))) (hKi : (List.range n).all (fun i => decide (zK L (N + 1 + i) = some (.inl (.int, k)))) = true) (w : zW L mi pc' lv (.ref N :: st) (zrows (N, U, I, J, R) n k) Q) : zW L mi pc lv (.int (Int32.ofNat k) :: .int (Int32.ofNat n) :: st) (N, U, I, J, R) Q := by
  have e : (Int32.ofNat n).toNatClampNeg = n := Int32.toNatClampNeg_ofNat_of_lt (by omega)
  have e2 : (Int32.ofNat k).toNatClampNeg = k := Int32.toNatClampNeg_ofNat_of_lt (by omega)
  unfold zDu at hd
  split at hd
  next q h1 =>
    rw [Bool.and_eq_true, decide_eq_true_eq] at hd
    obtain ⟨h2, rfl⟩ := hd
    refine zx_st h1 rfl ?_ w
    show zins2 L mi pc lv (.int (Int32.ofNat k) :: .int (Int32.ofNat n) :: st) (N, U, I, J, R) (.multianewarray q 2) 4 = _
    unfold zins2
    show (if (_ ∧ _ ∧ _) ∧ (_ ∧ _) ∧ (_ ∧ _) then _ else none) = _
    rw [e, e2]
    rw [if_pos ⟨⟨h2, Int32.ofNat_le_ofNat (by decide) (by omega) |>.mpr (Nat.zero_le n), Int32.ofNat_le_ofNat (by decide) (by omega) |>.mpr (Nat.zero_le k)⟩, ⟨hK, hKi⟩, hn, hw⟩]; rfl
  next => cases hd
theorem zx_obj {a : Nat} {h : zHp} (hd : zDo mi pc pc' = true) (hc : Nat.ble (zcat st) 8 = true) (w : zW L mi pc' lv st h Q) : zW L mi pc lv (.ref a :: st) h Q := by
  unfold zDo at hd
  split at hd
  next k h1 =>
    rw [Bool.and_eq_true, Bool.and_eq_true, decide_eq_true_eq, decide_eq_true_eq] at hd
    obtain ⟨⟨h2, rfl⟩, h3⟩ := hd
    refine zx_st h1 rfl ?_ w
    show zins2 L mi pc lv (.ref a :: st) h (.invokespecial k) 3 = _
    unfold zins2; dsimp only
    rw [if_pos h2, if_pos ⟨Nat.le_of_ble_eq_true hc, h3⟩]; rfl
  next => cases hd
theorem zx_min {x y : Int32} {h : zHp} (hd : zDn mi pc pc' = true) (hc : Nat.ble (zcat st) 8 = true) (w : zW L mi pc' lv (.int (if y < x then y else x) :: st) h Q) : zW L mi pc lv (.int y :: .int x :: st) h Q := by
  unfold zDn at hd
  split at hd
  next k h1 =>
    rw [Bool.and_eq_true, Bool.and_eq_true, Bool.and_eq_true, decide_eq_true_eq, decide_eq_true_eq, Bool.not_eq_true'] at hd
    obtain ⟨⟨h2, rfl⟩, h3, h4⟩ := hd
    refine zx_st h1 rfl ?_ w
    show zins2 L mi pc lv (.int y :: .int x :: st) h (.invokestatic k) 3 = _
    unfold zins2; dsimp only
    rw [if_neg (by rw [h4]; decide), if_pos h2, if_pos ⟨Nat.le_of_ble_eq_true hc, h3⟩]; rfl
  next => cases hd
theorem zx_copy {s d n sp dp n0 n1 : Nat} (hd : zDy mi pc pc' = true) (hc : Nat.ble (zcat st) 8 = true) (hs : zk L (N, U, I, J, R) s = some (.inl (.int, n0))) (ht : zk L (N, U, I, J, R) d = some (.inl (.int, n1))) (h1 : sp + n ≤ n0) (h2 : dp + n ≤ n1) (h3 : n0 ≤ 65536) (h4 : n1 ≤ 65536) (ha : 3 ≤ d)
    (w : zW L mi pc' lv st (N, U, (fun b j => if b = d then va_cpy (I s) (I d) sp dp n j else I b j), J, R) Q) : zW L mi pc lv (.int (Int32.ofNat n) :: .int (Int32.ofNat dp) :: .ref d :: .int (Int32.ofNat sp) :: .ref s :: st) (N, U, I, J, R) Q := by
  have e1 : (Int32.ofNat n).toNatClampNeg = n := Int32.toNatClampNeg_ofNat_of_lt (by omega)
  have e2 : (Int32.ofNat dp).toNatClampNeg = dp := Int32.toNatClampNeg_ofNat_of_lt (by omega)
  have e3 : (Int32.ofNat sp).toNatClampNeg = sp := Int32.toNatClampNeg_ofNat_of_lt (by omega)
  have p : ∀ m : Nat, m ≤ 65536 → (0 : Int32) ≤ Int32.ofNat m := fun m hm => Int32.ofNat_le_ofNat (by decide) (by omega) |>.mpr (Nat.zero_le m)
  unfold zDy at hd
  split at hd
  next k g1 =>
    rw [Bool.and_eq_true, Bool.and_eq_true, decide_eq_true_eq, decide_eq_true_eq] at hd
    obtain ⟨⟨g2, rfl⟩, g3⟩ := hd
    refine zx_st g1 rfl ?_ w
    show zins2 L mi pc lv _ _ (.invokestatic k) 3 = _
    unfold zins2; dsimp only
    rw [if_pos g2]
    unfold zacopy; dsimp only
    rw [hs, ht]; dsimp only
    rw [e1, e2, e3, if_pos ⟨⟨⟨p n (by omega), p dp (by omega), p sp (by omega)⟩, h1, h2⟩, ⟨ha, Nat.le_of_ble_eq_true hc⟩, g3⟩]; rfl
  next => cases hd
/-! the ends -/
theorem zx_iret {v : Int32} {h : zHp} (hd : zD mi pc .ireturn 1 pc' = true) (ht : zrt mi = some .int ∨ zrt mi = some .boolean ∧ (v = 0 ∨ v = 1)) (q : Q (.inl (some (.int v))) h) : zW L mi pc lv [.int v] h Q := by
  obtain ⟨h1, h2, h3⟩ := zD_ok hd
  refine (zw_end (o := .inl (some (.int v))) (h' := h) ?_).mpr q
  unfold zstep; rw [h1]
  show (if zlok .ireturn 1 = true then _ else none) = _
  rw [if_pos h2]
  show zret mi [.int v] h = _
  unfold zret
  rcases ht with ht | ⟨ht, hv⟩
  · rw [ht]
  · rw [ht]; dsimp only; rw [if_pos hv]
theorem zx_aret {v : Nat} {h : zHp} {t : FieldType} (hd : zD mi pc .areturn 1 pc' = true) (ht : zrt mi = some t) (hr : zisR t = true) (q : Q (.inl (some (.ref v))) h) : zW L mi pc lv [.ref v] h Q := by
  obtain ⟨h1, h2, h3⟩ := zD_ok hd
  refine (zw_end (o := .inl (some (.ref v))) (h' := h) ?_).mpr q
  unfold zstep; rw [h1]
  show (if zlok .areturn 1 = true then _ else none) = _
  rw [if_pos h2]
  show zaret mi [.ref v] h = _
  unfold zaret
  rw [ht]
  cases t <;> first | rfl | cases hr
theorem zx_vret {h : zHp} (hd : zD mi pc .return_ 1 pc' = true) (ht : zrt mi = none) (q : Q (.inl none) h) : zW L mi pc lv [] h Q := by
  obtain ⟨h1, h2, h3⟩ := zD_ok hd
  refine (zw_end (o := .inl none) (h' := h) ?_).mpr q
  unfold zstep; rw [h1]
  show (if zlok .return_ 1 = true then _ else none) = _
  rw [if_pos h2]
  show zvret mi [] h = _
  unfold zvret
  rw [ht]
theorem zx_throw {x : Nat} (hd : zDx mi pc x = true) (hK : zK L N = none) (hc : Nat.ble (zcat st) 8 = true) (q : Q (.inr (x, N)) (N + 1, U + 6, I, J, R)) : zW L mi pc lv st (N, U, I, J, R) Q := by
  unfold zDx at hd
  split at hd
  next k h1 =>
    rw [Bool.and_eq_true, decide_eq_true_eq] at hd
    obtain ⟨h2, h3⟩ := hd
    split at h3
    next is ic e3 e4 e6 e9 =>
      rw [Bool.and_eq_true, Bool.and_eq_true, Bool.and_eq_true, decide_eq_true_eq, decide_eq_true_eq, decide_eq_true_eq] at h3
      obtain ⟨⟨g1, g2⟩, g3, g4⟩ := h3
      refine (zw_end (o := .inr (x, N)) (h' := (N + 1, U + 6, I, J, R)) ?_).mpr q
      unfold zstep; rw [h1]
      show (if zlok (.new k) 3 = true then _ else none) = _
      rw [if_pos (by rfl)]
      show zins2 L mi pc lv st _ (.new k) 3 = _
      unfold zins2; dsimp only; rw [h2]; dsimp only
      unfold zthrow; rw [e3, e4, e6, e9]
      show (if _ then _ else _) = _
      rw [if_pos ⟨⟨⟨g1, hK⟩, g2, g3⟩, g4, Nat.le_of_ble_eq_true hc⟩]
    next => cases h3
  next => cases hd
/-! calls -/
/-- the method mj, called with as, returns v and leaves h'; or throws x -/
def zRet (L mj : Nat) (as : List Value) (h : zHp) (v : Option Value) (h' : zHp) : Prop := zW L mj 0 (zent mj as) [] h (fun o k => o = .inl v ∧ k = h')
def zThr (L mj : Nat) (as : List Value) (h : zHp) (x : Nat × Nat) (h' : zHp) : Prop := zW L mj 0 (zent mj as) [] h (fun o k => o = .inr x ∧ k = h')
theorem zDk_ok {mj kd : Nat} (h : zDk mi pc pc' mj kd = true) : ∃ i k, decode (zcd mi) pc = .ok (i, 3) ∧ zml (zoc mi) k = some mj ∧ pc + 3 = pc' ∧ ((zrk mj < zrk mi ∧ 8 + (zmx mj + 11) + zlo mj ≤ zlo mi) ∧ (zat mj = decide (kd = 2) ∧ mj < zNm)) ∧
    ((i = .invokevirtual k ∧ kd = 0 ∧ (zy mj).name ≠ "<init>") ∨ (i = .invokespecial k ∧ kd = 1 ∧ (zy mj).name = "<init>" ∧ zob (zoc mi) k = false) ∨ (i = .invokestatic k ∧ kd = 2 ∧ zac (zoc mi) k = false ∧ zmn (zoc mi) k = false)) := by
  unfold zDk at h
  split at h
  next i h1 =>
    rw [Bool.and_eq_true, Bool.and_eq_true, Bool.and_eq_true, Bool.and_eq_true, Bool.and_eq_true, Bool.and_eq_true, decide_eq_true_eq, decide_eq_true_eq, decide_eq_true_eq, decide_eq_true_eq, decide_eq_true_eq, beq_iff_eq] at h
    obtain ⟨⟨⟨h2, h3⟩, h4, h5⟩, ⟨h6, h7⟩, h8⟩ := h
    split at h8
    next k =>
      rw [Bool.and_eq_true, decide_eq_true_eq, Bool.not_eq_true', decide_eq_false_iff_not] at h8
      exact ⟨_, k, h1, h2, h3, ⟨⟨h4, h5⟩, h6, h7⟩, Or.inl ⟨rfl, h8.1, h8.2⟩⟩
    next k =>
      rw [Bool.and_eq_true, Bool.and_eq_true, decide_eq_true_eq, decide_eq_true_eq, Bool.not_eq_true'] at h8
      exact ⟨_, k, h1, h2, h3, ⟨⟨h4, h5⟩, h6, h7⟩, Or.inr (Or.inl ⟨rfl, h8.1.1, h8.1.2, h8.2⟩)⟩
    next k =>
      rw [Bool.and_eq_true, Bool.and_eq_true, decide_eq_true_eq, Bool.not_eq_true', Bool.not_eq_true'] at h8
      exact ⟨_, k, h1, h2, h3, ⟨⟨h4, h5⟩, h6, h7⟩, Or.inr (Or.inr ⟨rfl, h8.1.1, h8.1.2, h8.2⟩)⟩
    next => cases h8
  next => cases h
def znostk (i : Instr) : Bool := match i with | .invokevirtual _ => true | .invokespecial _ => true | .invokestatic _ => true | _ => false
theorem zstk_none {i : Instr} (h : znostk i = true) : zstk i st = none := by
  cases i <;> first | cases h | skip
  all_goals (unfold zstk; rfl)
theorem zx_call {mj kd : Nat} {as rest st : List Value} {h : zHp} (hd : zDk mi pc pc' mj kd = true) (hs : zcall mi mj (!decide (kd = 2)) L h st = some (.inr (.inl (mj, as, rest, 3))))
    (w : zW L mj 0 (zent mj as) [] h (fun o h' => match o with
      | .inl v => zW L mi pc' lv (v.toList ++ rest) h' Q
      | .inr x => (match zcatch mi pc x.1 with
        | some pc' => zW L mi pc' lv [.ref x.2] h' Q
        | none => zhd mi = [] ∧ Q (.inr x) h'))) : zW L mi pc lv st h Q := by
  obtain ⟨i, k, h1, h2, rfl, h4, h5⟩ := zDk_ok hd
  refine zw_call (len := 3) (mj := mj) (as := as) (rest := rest) ?_ w
  unfold zstep; rw [h1]
  rcases h5 with ⟨rfl, rfl, h6⟩ | ⟨rfl, rfl, h6, h7⟩ | ⟨rfl, rfl, h6, h7⟩
  · show (if zlok (.invokevirtual k) 3 = true then _ else none) = _
    rw [if_pos (by rfl)]
    have e : zins L mi pc lv st h (.invokevirtual k) 3 = zins2 L mi pc lv st h (.invokevirtual k) 3 := by unfold zins; rw [zstk_none (by rfl)]; rfl
    rw [e]; unfold zins2; dsimp only; rw [h2]; dsimp only
    rw [if_neg h6]; exact hs
  · show (if zlok (.invokespecial k) 3 = true then _ else none) = _
    rw [if_pos (by rfl)]
    have e : zins L mi pc lv st h (.invokespecial k) 3 = zins2 L mi pc lv st h (.invokespecial k) 3 := by unfold zins; rw [zstk_none (by rfl)]; rfl
    rw [e]; unfold zins2; dsimp only; rw [if_neg (by rw [h7]; decide), h2]; dsimp only
    rw [if_pos h6]; exact hs
  · show (if zlok (.invokestatic k) 3 = true then _ else none) = _
    rw [if_pos (by rfl)]
    have e : zins L mi pc lv st h (.invokestatic k) 3 = zins2 L mi pc lv st h (.invokestatic k) 3 := by unfold zins; rw [zstk_none (by rfl)]; rfl
    rw [e]; unfold zins2; dsimp only; rw [if_neg (by rw [h6]; decide), if_neg (by rw [h7]; decide), h2]; dsimp only
    exact hs
/-- the shape of the stack at a call -/
theorem zcall_v {mj kd b : Nat} {as rest : List Value} {h : zHp} (hd : zDk mi pc pc' mj kd = true) (hkd : decide (kd = 2) = false) (hn : as.length = znp mj) (hc : (zlg mj || as.all (fun v => v.category == 1)) = true) (hx : Nat.ble ((zexp as).length + 1) (zmx mj) = true) (hb : zk L h b = some (.inr (zoc mj))) (hr : Nat.ble (zcat rest) 8 = true) :
    zcall mi mj (!decide (kd = 2)) L h (as.reverse ++ .ref b :: rest) = some (.inr (.inl (mj, .ref b :: as, rest, 3))) := by
  obtain ⟨i, k, h1, h2, h3, h4, h5⟩ := zDk_ok hd
  have ht : ztake (znp mj) (as.reverse ++ .ref b :: rest) = some (as, .ref b :: rest) := by
    unfold ztake
    rw [if_pos (by rw [List.length_append, List.length_reverse, hn]; omega)]
    rw [← hn, List.take_left' (List.length_reverse ..), List.drop_left' (List.length_reverse ..), List.reverse_reverse]
  rw [hkd]
  unfold zcall
  rw [if_pos ⟨h4.1, by rw [h4.2.1, hkd]; rfl, h4.2.2⟩, ht]
  show (if _ ∧ (zexp as).length + 1 ≤ zmx mj + 0 then _ else none) = _
  rw [if_pos ⟨hc, by have := Nat.le_of_ble_eq_true hx; omega⟩]
  show (if _ ∧ _ then _ else none) = _
  rw [if_pos ⟨hb, Nat.le_of_ble_eq_true hr⟩]
theorem zcall_s {mj : Nat} {as rest : List Value} {h : zHp} (hd : zDk mi pc pc' mj 2 = true) (hn : as.length = znp mj) (hc : (zlg mj || as.all (fun v => v.category == 1)) = true) (hx : Nat.ble (zexp as).length (zmx mj) = true) (hr : Nat.ble (zcat rest) 8 = true) :
    zcall mi mj (!decide (2 = 2)) L h (as.reverse ++ rest) = some (.inr (.inl (mj, as, rest, 3))) := by
  obtain ⟨i, k, h1, h2, h3, h4, h5⟩ := zDk_ok hd
  have ht : ztake (znp mj) (as.reverse ++ rest) = some (as, rest) := by
    unfold ztake
    rw [if_pos (by rw [List.length_append, List.length_reverse, hn]; omega)]
    rw [← hn, List.take_left' (List.length_reverse ..), List.drop_left' (List.length_reverse ..), List.reverse_reverse]
  unfold zcall
  rw [if_pos ⟨h4.1, by rw [h4.2.1]; rfl, h4.2.2⟩, ht]
  show (if _ ∧ (zexp as).length + 1 ≤ zmx mj + 1 then _ else none) = _
  rw [if_pos ⟨hc, by have := Nat.le_of_ble_eq_true hx; omega⟩]
  show (if _ then _ else none) = _
  rw [if_pos (Nat.le_of_ble_eq_true hr)]
theorem zx_cv0I {mj kd b : Nat} {v : Int32} {rest : List Value} {h h' : zHp} (hd : zDk mi pc pc' mj kd = true) (hb : zk L h b = some (.inr (zoc mj))) (hr : zRet L mj (.ref b :: []) h (some (.int v)) h') (w : zW L mi pc' lv (.int v :: rest) h' Q) (hkd : decide (kd = 2) = false := by rfl) (hn : Nat.beq (znp mj) 0 = true := by rfl) (hc : (zlg mj || ([] : List Value).all (fun v => v.category == 1)) = true := by rfl) (hx : Nat.ble ((zexp []).length + 1) (zmx mj) = true := by rfl) (hl : Nat.ble (zcat rest) 8 = true := by rfl) : zW L mi pc lv (.ref b :: rest) h Q :=
  zx_call hd (zcall_v (as := []) hd hkd (Nat.eq_of_beq_eq_true hn).symm hc hx hb hl) (zW.mono hr (fun o k hq => by obtain ⟨rfl, rfl⟩ := hq; exact w))
theorem zx_cv0R {mj kd b : Nat} {v : Nat} {rest : List Value} {h h' : zHp} (hd : zDk mi pc pc' mj kd = true) (hb : zk L h b = some (.inr (zoc mj))) (hr : zRet L mj (.ref b :: []) h (some (.ref v)) h') (w : zW L mi pc' lv (.ref v :: rest) h' Q) (hkd : decide (kd = 2) = false := by rfl) (hn : Nat.beq (znp mj) 0 = true := by rfl) (hc : (zlg mj || ([] : List Value).all (fun v => v.category == 1)) = true := by rfl) (hx : Nat.ble ((zexp []).length + 1) (zmx mj) = true := by rfl) (hl : Nat.ble (zcat rest) 8 = true := by rfl) : zW L mi pc lv (.ref b :: rest) h Q :=
  zx_call hd (zcall_v (as := []) hd hkd (Nat.eq_of_beq_eq_true hn).symm hc hx hb hl) (zW.mono hr (fun o k hq => by obtain ⟨rfl, rfl⟩ := hq; exact w))
theorem zx_cv0V {mj kd b : Nat} {rest : List Value} {h h' : zHp} (hd : zDk mi pc pc' mj kd = true) (hb : zk L h b = some (.inr (zoc mj))) (hr : zRet L mj (.ref b :: []) h none h') (w : zW L mi pc' lv (rest) h' Q) (hkd : decide (kd = 2) = false := by rfl) (hn : Nat.beq (znp mj) 0 = true := by rfl) (hc : (zlg mj || ([] : List Value).all (fun v => v.category == 1)) = true := by rfl) (hx : Nat.ble ((zexp []).length + 1) (zmx mj) = true := by rfl) (hl : Nat.ble (zcat rest) 8 = true := by rfl) : zW L mi pc lv (.ref b :: rest) h Q :=
  zx_call hd (zcall_v (as := []) hd hkd (Nat.eq_of_beq_eq_true hn).symm hc hx hb hl) (zW.mono hr (fun o k hq => by obtain ⟨rfl, rfl⟩ := hq; exact w))
theorem zx_ct0v {mj kd b x y : Nat} {rest : List Value} {h h' : zHp} (hd : zDk mi pc pc' mj kd = true) (hb : zk L h b = some (.inr (zoc mj))) (hr : zThr L mj (.ref b :: []) h (x, y) h') (w : match zcatch mi pc x with | some pq => zW L mi pq lv [.ref y] h' Q | none => zhd mi = [] ∧ Q (.inr (x, y)) h') (hkd : decide (kd = 2) = false := by rfl) (hn : Nat.beq (znp mj) 0 = true := by rfl) (hc : (zlg mj || ([] : List Value).all (fun v => v.category == 1)) = true := by rfl) (hx : Nat.ble ((zexp []).length + 1) (zmx mj) = true := by rfl) (hl : Nat.ble (zcat rest) 8 = true := by rfl) : zW L mi pc lv (.ref b :: rest) h Q :=
  zx_call hd (zcall_v (as := []) hd hkd (Nat.eq_of_beq_eq_true hn).symm hc hx hb hl) (zW.mono hr (fun o k hq => by obtain ⟨rfl, rfl⟩ := hq; exact w))
theorem zx_cv1I {mj kd b : Nat} {a1 : Value} {v : Int32} {rest : List Value} {h h' : zHp} (hd : zDk mi pc pc' mj kd = true) (hb : zk L h b = some (.inr (zoc mj))) (hr : zRet L mj (.ref b :: [a1]) h (some (.int v)) h') (w : zW L mi pc' lv (.int v :: rest) h' Q) (hkd : decide (kd = 2) = false := by rfl) (hn : Nat.beq (znp mj) 1 = true := by rfl) (hc : (zlg mj || ([a1] : List Value).all (fun v => v.category == 1)) = true := by rfl) (hx : Nat.ble ((zexp [a1]).length + 1) (zmx mj) = true := by rfl) (hl : Nat.ble (zcat rest) 8 = true := by rfl) : zW L mi pc lv (a1 :: .ref b :: rest) h Q :=
  zx_call hd (zcall_v (as := [a1]) hd hkd (Nat.eq_of_beq_eq_true hn).symm hc hx hb hl) (zW.mono hr (fun o k hq => by obtain ⟨rfl, rfl⟩ := hq; exact w))
theorem zx_cs1I {mj : Nat} {a1 : Value} {v : Int32} {rest : List Value} {h h' : zHp} (hd : zDk mi pc pc' mj 2 = true) (hr : zRet L mj [a1] h (some (.int v)) h') (w : zW L mi pc' lv (.int v :: rest) h' Q) (hn : Nat.beq (znp mj) 1 = true := by rfl) (hc : (zlg mj || ([a1] : List Value).all (fun v => v.category == 1)) = true := by rfl) (hx : Nat.ble (zexp [a1]).length (zmx mj) = true := by rfl) (hl : Nat.ble (zcat rest) 8 = true := by rfl) : zW L mi pc lv (a1 :: rest) h Q :=
  zx_call hd (zcall_s (as := [a1]) hd (Nat.eq_of_beq_eq_true hn).symm hc hx hl) (zW.mono hr (fun o k hq => by obtain ⟨rfl, rfl⟩ := hq; exact w))
theorem zx_cv1R {mj kd b : Nat} {a1 : Value} {v : Nat} {rest : List Value} {h h' : zHp} (hd : zDk mi pc pc' mj kd = true) (hb : zk L h b = some (.inr (zoc mj))) (hr : zRet L mj (.ref b :: [a1]) h (some (.ref v)) h') (w : zW L mi pc' lv (.ref v :: rest) h' Q) (hkd : decide (kd = 2) = false := by rfl) (hn : Nat.beq (znp mj) 1 = true := by rfl) (hc : (zlg mj || ([a1] : List Value).all (fun v => v.category == 1)) = true := by rfl) (hx : Nat.ble ((zexp [a1]).length + 1) (zmx mj) = true := by rfl) (hl : Nat.ble (zcat rest) 8 = true := by rfl) : zW L mi pc lv (a1 :: .ref b :: rest) h Q :=
  zx_call hd (zcall_v (as := [a1]) hd hkd (Nat.eq_of_beq_eq_true hn).symm hc hx hb hl) (zW.mono hr (fun o k hq => by obtain ⟨rfl, rfl⟩ := hq; exact w))
theorem zx_cs1R {mj : Nat} {a1 : Value} {v : Nat} {rest : List Value} {h h' : zHp} (hd : zDk mi pc pc' mj 2 = true) (hr : zRet L mj [a1] h (some (.ref v)) h') (w : zW L mi pc' lv (.ref v :: rest) h' Q) (hn : Nat.beq (znp mj) 1 = true := by rfl) (hc : (zlg mj || ([a1] : List Value).all (fun v => v.category == 1)) = true := by rfl) (hx : Nat.ble (zexp [a1]).length (zmx mj) = true := by rfl) (hl : Nat.ble (zcat rest) 8 = true := by rfl) : zW L mi pc lv (a1 :: rest) h Q :=
  zx_call hd (zcall_s (as := [a1]) hd (Nat.eq_of_beq_eq_true hn).symm hc hx hl) (zW.mono hr (fun o k hq => by obtain ⟨rfl, rfl⟩ := hq; exact w))
theorem zx_cv1V {mj kd b : Nat} {a1 : Value} {rest : List Value} {h h' : zHp} (hd : zDk mi pc pc' mj kd = true) (hb : zk L h b = some (.inr (zoc mj))) (hr : zRet L mj (.ref b :: [a1]) h none h') (w : zW L mi pc' lv (rest) h' Q) (hkd : decide (kd = 2) = false := by rfl) (hn : Nat.beq (znp mj) 1 = true := by rfl) (hc : (zlg mj || ([a1] : List Value).all (fun v => v.category == 1)) = true := by rfl) (hx : Nat.ble ((zexp [a1]).length + 1) (zmx mj) = true := by rfl) (hl : Nat.ble (zcat rest) 8 = true := by rfl) : zW L mi pc lv (a1 :: .ref b :: rest) h Q :=
  zx_call hd (zcall_v (as := [a1]) hd hkd (Nat.eq_of_beq_eq_true hn).symm hc hx hb hl) (zW.mono hr (fun o k hq => by obtain ⟨rfl, rfl⟩ := hq; exact w))
theorem zx_cs1V {mj : Nat} {a1 : Value} {rest : List Value} {h h' : zHp} (hd : zDk mi pc pc' mj 2 = true) (hr : zRet L mj [a1] h none h') (w : zW L mi pc' lv (rest) h' Q) (hn : Nat.beq (znp mj) 1 = true := by rfl) (hc : (zlg mj || ([a1] : List Value).all (fun v => v.category == 1)) = true := by rfl) (hx : Nat.ble (zexp [a1]).length (zmx mj) = true := by rfl) (hl : Nat.ble (zcat rest) 8 = true := by rfl) : zW L mi pc lv (a1 :: rest) h Q :=
  zx_call hd (zcall_s (as := [a1]) hd (Nat.eq_of_beq_eq_true hn).symm hc hx hl) (zW.mono hr (fun o k hq => by obtain ⟨rfl, rfl⟩ := hq; exact w))
theorem zx_ct1v {mj kd b x y : Nat} {a1 : Value} {rest : List Value} {h h' : zHp} (hd : zDk mi pc pc' mj kd = true) (hb : zk L h b = some (.inr (zoc mj))) (hr : zThr L mj (.ref b :: [a1]) h (x, y) h') (w : match zcatch mi pc x with | some pq => zW L mi pq lv [.ref y] h' Q | none => zhd mi = [] ∧ Q (.inr (x, y)) h') (hkd : decide (kd = 2) = false := by rfl) (hn : Nat.beq (znp mj) 1 = true := by rfl) (hc : (zlg mj || ([a1] : List Value).all (fun v => v.category == 1)) = true := by rfl) (hx : Nat.ble ((zexp [a1]).length + 1) (zmx mj) = true := by rfl) (hl : Nat.ble (zcat rest) 8 = true := by rfl) : zW L mi pc lv (a1 :: .ref b :: rest) h Q :=
  zx_call hd (zcall_v (as := [a1]) hd hkd (Nat.eq_of_beq_eq_true hn).symm hc hx hb hl) (zW.mono hr (fun o k hq => by obtain ⟨rfl, rfl⟩ := hq; exact w))
theorem zx_ct1s {mj x y : Nat} {a1 : Value} {rest : List Value} {h h' : zHp} (hd : zDk mi pc pc' mj 2 = true) (hr : zThr L mj [a1] h (x, y) h') (w : match zcatch mi pc x with | some pq => zW L mi pq lv [.ref y] h' Q | none => zhd mi = [] ∧ Q (.inr (x, y)) h') (hn : Nat.beq (znp mj) 1 = true := by rfl) (hc : (zlg mj || ([a1] : List Value).all (fun v => v.category == 1)) = true := by rfl) (hx : Nat.ble (zexp [a1]).length (zmx mj) = true := by rfl) (hl : Nat.ble (zcat rest) 8 = true := by rfl) : zW L mi pc lv (a1 :: rest) h Q :=
  zx_call hd (zcall_s (as := [a1]) hd (Nat.eq_of_beq_eq_true hn).symm hc hx hl) (zW.mono hr (fun o k hq => by obtain ⟨rfl, rfl⟩ := hq; exact w))
theorem zx_cv2I {mj kd b : Nat} {a1 a2 : Value} {v : Int32} {rest : List Value} {h h' : zHp} (hd : zDk mi pc pc' mj kd = true) (hb : zk L h b = some (.inr (zoc mj))) (hr : zRet L mj (.ref b :: [a1, a2]) h (some (.int v)) h') (w : zW L mi pc' lv (.int v :: rest) h' Q) (hkd : decide (kd = 2) = false := by rfl) (hn : Nat.beq (znp mj) 2 = true := by rfl) (hc : (zlg mj || ([a1, a2] : List Value).all (fun v => v.category == 1)) = true := by rfl) (hx : Nat.ble ((zexp [a1, a2]).length + 1) (zmx mj) = true := by rfl) (hl : Nat.ble (zcat rest) 8 = true := by rfl) : zW L mi pc lv (a2 :: a1 :: .ref b :: rest) h Q :=
  zx_call hd (zcall_v (as := [a1, a2]) hd hkd (Nat.eq_of_beq_eq_true hn).symm hc hx hb hl) (zW.mono hr (fun o k hq => by obtain ⟨rfl, rfl⟩ := hq; exact w))
theorem zx_cs2I {mj : Nat} {a1 a2 : Value} {v : Int32} {rest : List Value} {h h' : zHp} (hd : zDk mi pc pc' mj 2 = true) (hr : zRet L mj [a1, a2] h (some (.int v)) h') (w : zW L mi pc' lv (.int v :: rest) h' Q) (hn : Nat.beq (znp mj) 2 = true := by rfl) (hc : (zlg mj || ([a1, a2] : List Value).all (fun v => v.category == 1)) = true := by rfl) (hx : Nat.ble (zexp [a1, a2]).length (zmx mj) = true := by rfl) (hl : Nat.ble (zcat rest) 8 = true := by rfl) : zW L mi pc lv (a2 :: a1 :: rest) h Q :=
  zx_call hd (zcall_s (as := [a1, a2]) hd (Nat.eq_of_beq_eq_true hn).symm hc hx hl) (zW.mono hr (fun o k hq => by obtain ⟨rfl, rfl⟩ := hq; exact w))
theorem zx_cv2R {mj kd b : Nat} {a1 a2 : Value} {v : Nat} {rest : List Value} {h h' : zHp} (hd : zDk mi pc pc' mj kd = true) (hb : zk L h b = some (.inr (zoc mj))) (hr : zRet L mj (.ref b :: [a1, a2]) h (some (.ref v)) h') (w : zW L mi pc' lv (.ref v :: rest) h' Q) (hkd : decide (kd = 2) = false := by rfl) (hn : Nat.beq (znp mj) 2 = true := by rfl) (hc : (zlg mj || ([a1, a2] : List Value).all (fun v => v.category == 1)) = true := by rfl) (hx : Nat.ble ((zexp [a1, a2]).length + 1) (zmx mj) = true := by rfl) (hl : Nat.ble (zcat rest) 8 = true := by rfl) : zW L mi pc lv (a2 :: a1 :: .ref b :: rest) h Q :=
  zx_call hd (zcall_v (as := [a1, a2]) hd hkd (Nat.eq_of_beq_eq_true hn).symm hc hx hb hl) (zW.mono hr (fun o k hq => by obtain ⟨rfl, rfl⟩ := hq; exact w))
theorem zx_cs2R {mj : Nat} {a1 a2 : Value} {v : Nat} {rest : List Value} {h h' : zHp} (hd : zDk mi pc pc' mj 2 = true) (hr : zRet L mj [a1, a2] h (some (.ref v)) h') (w : zW L mi pc' lv (.ref v :: rest) h' Q) (hn : Nat.beq (znp mj) 2 = true := by rfl) (hc : (zlg mj || ([a1, a2] : List Value).all (fun v => v.category == 1)) = true := by rfl) (hx : Nat.ble (zexp [a1, a2]).length (zmx mj) = true := by rfl) (hl : Nat.ble (zcat rest) 8 = true := by rfl) : zW L mi pc lv (a2 :: a1 :: rest) h Q :=
  zx_call hd (zcall_s (as := [a1, a2]) hd (Nat.eq_of_beq_eq_true hn).symm hc hx hl) (zW.mono hr (fun o k hq => by obtain ⟨rfl, rfl⟩ := hq; exact w))
theorem zx_cv2V {mj kd b : Nat} {a1 a2 : Value} {rest : List Value} {h h' : zHp} (hd : zDk mi pc pc' mj kd = true) (hb : zk L h b = some (.inr (zoc mj))) (hr : zRet L mj (.ref b :: [a1, a2]) h none h') (w : zW L mi pc' lv (rest) h' Q) (hkd : decide (kd = 2) = false := by rfl) (hn : Nat.beq (znp mj) 2 = true := by rfl) (hc : (zlg mj || ([a1, a2] : List Value).all (fun v => v.category == 1)) = true := by rfl) (hx : Nat.ble ((zexp [a1, a2]).length + 1) (zmx mj) = true := by rfl) (hl : Nat.ble (zcat rest) 8 = true := by rfl) : zW L mi pc lv (a2 :: a1 :: .ref b :: rest) h Q :=
  zx_call hd (zcall_v (as := [a1, a2]) hd hkd (Nat.eq_of_beq_eq_true hn).symm hc hx hb hl) (zW.mono hr (fun o k hq => by obtain ⟨rfl, rfl⟩ := hq; exact w))
theorem zx_cs2V {mj : Nat} {a1 a2 : Value} {rest : List Value} {h h' : zHp} (hd : zDk mi pc pc' mj 2 = true) (hr : zRet L mj [a1, a2] h none h') (w : zW L mi pc' lv (rest) h' Q) (hn : Nat.beq (znp mj) 2 = true := by rfl) (hc : (zlg mj || ([a1, a2] : List Value).all (fun v => v.category == 1)) = true := by rfl) (hx : Nat.ble (zexp [a1, a2]).length (zmx mj) = true := by rfl) (hl : Nat.ble (zcat rest) 8 = true := by rfl) : zW L mi pc lv (a2 :: a1 :: rest) h Q :=
  zx_call hd (zcall_s (as := [a1, a2]) hd (Nat.eq_of_beq_eq_true hn).symm hc hx hl) (zW.mono hr (fun o k hq => by obtain ⟨rfl, rfl⟩ := hq; exact w))
theorem zx_ct2v {mj kd b x y : Nat} {a1 a2 : Value} {rest : List Value} {h h' : zHp} (hd : zDk mi pc pc' mj kd = true) (hb : zk L h b = some (.inr (zoc mj))) (hr : zThr L mj (.ref b :: [a1, a2]) h (x, y) h') (w : match zcatch mi pc x with | some pq => zW L mi pq lv [.ref y] h' Q | none => zhd mi = [] ∧ Q (.inr (x, y)) h') (hkd : decide (kd = 2) = false := by rfl) (hn : Nat.beq (znp mj) 2 = true := by rfl) (hc : (zlg mj || ([a1, a2] : List Value).all (fun v => v.category == 1)) = true := by rfl) (hx : Nat.ble ((zexp [a1, a2]).length + 1) (zmx mj) = true := by rfl) (hl : Nat.ble (zcat rest) 8 = true := by rfl) : zW L mi pc lv (a2 :: a1 :: .ref b :: rest) h Q :=
  zx_call hd (zcall_v (as := [a1, a2]) hd hkd (Nat.eq_of_beq_eq_true hn).symm hc hx hb hl) (zW.mono hr (fun o k hq => by obtain ⟨rfl, rfl⟩ := hq; exact w))
theorem zx_ct2s {mj x y : Nat} {a1 a2 : Value} {rest : List Value} {h h' : zHp} (hd : zDk mi pc pc' mj 2 = true) (hr : zThr L mj [a1, a2] h (x, y) h') (w : match zcatch mi pc x with | some pq => zW L mi pq lv [.ref y] h' Q | none => zhd mi = [] ∧ Q (.inr (x, y)) h') (hn : Nat.beq (znp mj) 2 = true := by rfl) (hc : (zlg mj || ([a1, a2] : List Value).all (fun v => v.category == 1)) = true := by rfl) (hx : Nat.ble (zexp [a1, a2]).length (zmx mj) = true := by rfl) (hl : Nat.ble (zcat rest) 8 = true := by rfl) : zW L mi pc lv (a2 :: a1 :: rest) h Q :=
  zx_call hd (zcall_s (as := [a1, a2]) hd (Nat.eq_of_beq_eq_true hn).symm hc hx hl) (zW.mono hr (fun o k hq => by obtain ⟨rfl, rfl⟩ := hq; exact w))
theorem zx_cv3I {mj kd b : Nat} {a1 a2 a3 : Value} {v : Int32} {rest : List Value} {h h' : zHp} (hd : zDk mi pc pc' mj kd = true) (hb : zk L h b = some (.inr (zoc mj))) (hr : zRet L mj (.ref b :: [a1, a2, a3]) h (some (.int v)) h') (w : zW L mi pc' lv (.int v :: rest) h' Q) (hkd : decide (kd = 2) = false := by rfl) (hn : Nat.beq (znp mj) 3 = true := by rfl) (hc : (zlg mj || ([a1, a2, a3] : List Value).all (fun v => v.category == 1)) = true := by rfl) (hx : Nat.ble ((zexp [a1, a2, a3]).length + 1) (zmx mj) = true := by rfl) (hl : Nat.ble (zcat rest) 8 = true := by rfl) : zW L mi pc lv (a3 :: a2 :: a1 :: .ref b :: rest) h Q :=
  zx_call hd (zcall_v (as := [a1, a2, a3]) hd hkd (Nat.eq_of_beq_eq_true hn).symm hc hx hb hl) (zW.mono hr (fun o k hq => by obtain ⟨rfl, rfl⟩ := hq; exact w))
theorem zx_cs3I {mj : Nat} {a1 a2 a3 : Value} {v : Int32} {rest : List Value} {h h' : zHp} (hd : zDk mi pc pc' mj 2 = true) (hr : zRet L mj [a1, a2, a3] h (some (.int v)) h') (w : zW L mi pc' lv (.int v :: rest) h' Q) (hn : Nat.beq (znp mj) 3 = true := by rfl) (hc : (zlg mj || ([a1, a2, a3] : List Value).all (fun v => v.category == 1)) = true := by rfl) (hx : Nat.ble (zexp [a1, a2, a3]).length (zmx mj) = true := by rfl) (hl : Nat.ble (zcat rest) 8 = true := by rfl) : zW L mi pc lv (a3 :: a2 :: a1 :: rest) h Q :=
  zx_call hd (zcall_s (as := [a1, a2, a3]) hd (Nat.eq_of_beq_eq_true hn).symm hc hx hl) (zW.mono hr (fun o k hq => by obtain ⟨rfl, rfl⟩ := hq; exact w))
theorem zx_cv3R {mj kd b : Nat} {a1 a2 a3 : Value} {v : Nat} {rest : List Value} {h h' : zHp} (hd : zDk mi pc pc' mj kd = true) (hb : zk L h b = some (.inr (zoc mj))) (hr : zRet L mj (.ref b :: [a1, a2, a3]) h (some (.ref v)) h') (w : zW L mi pc' lv (.ref v :: rest) h' Q) (hkd : decide (kd = 2) = false := by rfl) (hn : Nat.beq (znp mj) 3 = true := by rfl) (hc : (zlg mj || ([a1, a2, a3] : List Value).all (fun v => v.category == 1)) = true := by rfl) (hx : Nat.ble ((zexp [a1, a2, a3]).length + 1) (zmx mj) = true := by rfl) (hl : Nat.ble (zcat rest) 8 = true := by rfl) : zW L mi pc lv (a3 :: a2 :: a1 :: .ref b :: rest) h Q :=
  zx_call hd (zcall_v (as := [a1, a2, a3]) hd hkd (Nat.eq_of_beq_eq_true hn).symm hc hx hb hl) (zW.mono hr (fun o k hq => by obtain ⟨rfl, rfl⟩ := hq; exact w))
theorem zx_cs3R {mj : Nat} {a1 a2 a3 : Value} {v : Nat} {rest : List Value} {h h' : zHp} (hd : zDk mi pc pc' mj 2 = true) (hr : zRet L mj [a1, a2, a3] h (some (.ref v)) h') (w : zW L mi pc' lv (.ref v :: rest) h' Q) (hn : Nat.beq (znp mj) 3 = true := by rfl) (hc : (zlg mj || ([a1, a2, a3] : List Value).all (fun v => v.category == 1)) = true := by rfl) (hx : Nat.ble (zexp [a1, a2, a3]).length (zmx mj) = true := by rfl) (hl : Nat.ble (zcat rest) 8 = true := by rfl) : zW L mi pc lv (a3 :: a2 :: a1 :: rest) h Q :=
  zx_call hd (zcall_s (as := [a1, a2, a3]) hd (Nat.eq_of_beq_eq_true hn).symm hc hx hl) (zW.mono hr (fun o k hq => by obtain ⟨rfl, rfl⟩ := hq; exact w))
theorem zx_cv3V {mj kd b : Nat} {a1 a2 a3 : Value} {rest : List Value} {h h' : zHp} (hd : zDk mi pc pc' mj kd = true) (hb : zk L h b = some (.inr (zoc mj))) (hr : zRet L mj (.ref b :: [a1, a2, a3]) h none h') (w : zW L mi pc' lv (rest) h' Q) (hkd : decide (kd = 2) = false := by rfl) (hn : Nat.beq (znp mj) 3 = true := by rfl) (hc : (zlg mj || ([a1, a2, a3] : List Value).all (fun v => v.category == 1)) = true := by rfl) (hx : Nat.ble ((zexp [a1, a2, a3]).length + 1) (zmx mj) = true := by rfl) (hl : Nat.ble (zcat rest) 8 = true := by rfl) : zW L mi pc lv (a3 :: a2 :: a1 :: .ref b :: rest) h Q :=
  zx_call hd (zcall_v (as := [a1, a2, a3]) hd hkd (Nat.eq_of_beq_eq_true hn).symm hc hx hb hl) (zW.mono hr (fun o k hq => by obtain ⟨rfl, rfl⟩ := hq; exact w))
theorem zx_cs3V {mj : Nat} {a1 a2 a3 : Value} {rest : List Value} {h h' : zHp} (hd : zDk mi pc pc' mj 2 = true) (hr : zRet L mj [a1, a2, a3] h none h') (w : zW L mi pc' lv (rest) h' Q) (hn : Nat.beq (znp mj) 3 = true := by rfl) (hc : (zlg mj || ([a1, a2, a3] : List Value).all (fun v => v.category == 1)) = true := by rfl) (hx : Nat.ble (zexp [a1, a2, a3]).length (zmx mj) = true := by rfl) (hl : Nat.ble (zcat rest) 8 = true := by rfl) : zW L mi pc lv (a3 :: a2 :: a1 :: rest) h Q :=
  zx_call hd (zcall_s (as := [a1, a2, a3]) hd (Nat.eq_of_beq_eq_true hn).symm hc hx hl) (zW.mono hr (fun o k hq => by obtain ⟨rfl, rfl⟩ := hq; exact w))
theorem zx_ct3v {mj kd b x y : Nat} {a1 a2 a3 : Value} {rest : List Value} {h h' : zHp} (hd : zDk mi pc pc' mj kd = true) (hb : zk L h b = some (.inr (zoc mj))) (hr : zThr L mj (.ref b :: [a1, a2, a3]) h (x, y) h') (w : match zcatch mi pc x with | some pq => zW L mi pq lv [.ref y] h' Q | none => zhd mi = [] ∧ Q (.inr (x, y)) h') (hkd : decide (kd = 2) = false := by rfl) (hn : Nat.beq (znp mj) 3 = true := by rfl) (hc : (zlg mj || ([a1, a2, a3] : List Value).all (fun v => v.category == 1)) = true := by rfl) (hx : Nat.ble ((zexp [a1, a2, a3]).length + 1) (zmx mj) = true := by rfl) (hl : Nat.ble (zcat rest) 8 = true := by rfl) : zW L mi pc lv (a3 :: a2 :: a1 :: .ref b :: rest) h Q :=
  zx_call hd (zcall_v (as := [a1, a2, a3]) hd hkd (Nat.eq_of_beq_eq_true hn).symm hc hx hb hl) (zW.mono hr (fun o k hq => by obtain ⟨rfl, rfl⟩ := hq; exact w))
theorem zx_ct3s {mj x y : Nat} {a1 a2 a3 : Value} {rest : List Value} {h h' : zHp} (hd : zDk mi pc pc' mj 2 = true) (hr : zThr L mj [a1, a2, a3] h (x, y) h') (w : match zcatch mi pc x with | some pq => zW L mi pq lv [.ref y] h' Q | none => zhd mi = [] ∧ Q (.inr (x, y)) h') (hn : Nat.beq (znp mj) 3 = true := by rfl) (hc : (zlg mj || ([a1, a2, a3] : List Value).all (fun v => v.category == 1)) = true := by rfl) (hx : Nat.ble (zexp [a1, a2, a3]).length (zmx mj) = true := by rfl) (hl : Nat.ble (zcat rest) 8 = true := by rfl) : zW L mi pc lv (a3 :: a2 :: a1 :: rest) h Q :=
  zx_call hd (zcall_s (as := [a1, a2, a3]) hd (Nat.eq_of_beq_eq_true hn).symm hc hx hl) (zW.mono hr (fun o k hq => by obtain ⟨rfl, rfl⟩ := hq; exact w))
theorem zx_cv4I {mj kd b : Nat} {a1 a2 a3 a4 : Value} {v : Int32} {rest : List Value} {h h' : zHp} (hd : zDk mi pc pc' mj kd = true) (hb : zk L h b = some (.inr (zoc mj))) (hr : zRet L mj (.ref b :: [a1, a2, a3, a4]) h (some (.int v)) h') (w : zW L mi pc' lv (.int v :: rest) h' Q) (hkd : decide (kd = 2) = false := by rfl) (hn : Nat.beq (znp mj) 4 = true := by rfl) (hc : (zlg mj || ([a1, a2, a3, a4] : List Value).all (fun v => v.category == 1)) = true := by rfl) (hx : Nat.ble ((zexp [a1, a2, a3, a4]).length + 1) (zmx mj) = true := by rfl) (hl : Nat.ble (zcat rest) 8 = true := by rfl) : zW L mi pc lv (a4 :: a3 :: a2 :: a1 :: .ref b :: rest) h Q :=
  zx_call hd (zcall_v (as := [a1, a2, a3, a4]) hd hkd (Nat.eq_of_beq_eq_true hn).symm hc hx hb hl) (zW.mono hr (fun o k hq => by obtain ⟨rfl, rfl⟩ := hq; exact w))
theorem zx_cs4I {mj : Nat} {a1 a2 a3 a4 : Value} {v : Int32} {rest : List Value} {h h' : zHp} (hd : zDk mi pc pc' mj 2 = true) (hr : zRet L mj [a1, a2, a3, a4] h (some (.int v)) h') (w : zW L mi pc' lv (.int v :: rest) h' Q) (hn : Nat.beq (znp mj) 4 = true := by rfl) (hc : (zlg mj || ([a1, a2, a3, a4] : List Value).all (fun v => v.category == 1)) = true := by rfl) (hx : Nat.ble (zexp [a1, a2, a3, a4]).length (zmx mj) = true := by rfl) (hl : Nat.ble (zcat rest) 8 = true := by rfl) : zW L mi pc lv (a4 :: a3 :: a2 :: a1 :: rest) h Q :=
  zx_call hd (zcall_s (as := [a1, a2, a3, a4]) hd (Nat.eq_of_beq_eq_true hn).symm hc hx hl) (zW.mono hr (fun o k hq => by obtain ⟨rfl, rfl⟩ := hq; exact w))
theorem zx_cv4R {mj kd b : Nat} {a1 a2 a3 a4 : Value} {v : Nat} {rest : List Value} {h h' : zHp} (hd : zDk mi pc pc' mj kd = true) (hb : zk L h b = some (.inr (zoc mj))) (hr : zRet L mj (.ref b :: [a1, a2, a3, a4]) h (some (.ref v)) h') (w : zW L mi pc' lv (.ref v :: rest) h' Q) (hkd : decide (kd = 2) = false := by rfl) (hn : Nat.beq (znp mj) 4 = true := by rfl) (hc : (zlg mj || ([a1, a2, a3, a4] : List Value).all (fun v => v.category == 1)) = true := by rfl) (hx : Nat.ble ((zexp [a1, a2, a3, a4]).length + 1) (zmx mj) = true := by rfl) (hl : Nat.ble (zcat rest) 8 = true := by rfl) : zW L mi pc lv (a4 :: a3 :: a2 :: a1 :: .ref b :: rest) h Q :=
  zx_call hd (zcall_v (as := [a1, a2, a3, a4]) hd hkd (Nat.eq_of_beq_eq_true hn).symm hc hx hb hl) (zW.mono hr (fun o k hq => by obtain ⟨rfl, rfl⟩ := hq; exact w))
theorem zx_cs4R {mj : Nat} {a1 a2 a3 a4 : Value} {v : Nat} {rest : List Value} {h h' : zHp} (hd : zDk mi pc pc' mj 2 = true) (hr : zRet L mj [a1, a2, a3, a4] h (some (.ref v)) h') (w : zW L mi pc' lv (.ref v :: rest) h' Q) (hn : Nat.beq (znp mj) 4 = true := by rfl) (hc : (zlg mj || ([a1, a2, a3, a4] : List Value).all (fun v => v.category == 1)) = true := by rfl) (hx : Nat.ble (zexp [a1, a2, a3, a4]).length (zmx mj) = true := by rfl) (hl : Nat.ble (zcat rest) 8 = true := by rfl) : zW L mi pc lv (a4 :: a3 :: a2 :: a1 :: rest) h Q :=
  zx_call hd (zcall_s (as := [a1, a2, a3, a4]) hd (Nat.eq_of_beq_eq_true hn).symm hc hx hl) (zW.mono hr (fun o k hq => by obtain ⟨rfl, rfl⟩ := hq; exact w))
theorem zx_cv4V {mj kd b : Nat} {a1 a2 a3 a4 : Value} {rest : List Value} {h h' : zHp} (hd : zDk mi pc pc' mj kd = true) (hb : zk L h b = some (.inr (zoc mj))) (hr : zRet L mj (.ref b :: [a1, a2, a3, a4]) h none h') (w : zW L mi pc' lv (rest) h' Q) (hkd : decide (kd = 2) = false := by rfl) (hn : Nat.beq (znp mj) 4 = true := by rfl) (hc : (zlg mj || ([a1, a2, a3, a4] : List Value).all (fun v => v.category == 1)) = true := by rfl) (hx : Nat.ble ((zexp [a1, a2, a3, a4]).length + 1) (zmx mj) = true := by rfl) (hl : Nat.ble (zcat rest) 8 = true := by rfl) : zW L mi pc lv (a4 :: a3 :: a2 :: a1 :: .ref b :: rest) h Q :=
  zx_call hd (zcall_v (as := [a1, a2, a3, a4]) hd hkd (Nat.eq_of_beq_eq_true hn).symm hc hx hb hl) (zW.mono hr (fun o k hq => by obtain ⟨rfl, rfl⟩ := hq; exact w))
theorem zx_cs4V {mj : Nat} {a1 a2 a3 a4 : Value} {rest : List Value} {h h' : zHp} (hd : zDk mi pc pc' mj 2 = true) (hr : zRet L mj [a1, a2, a3, a4] h none h') (w : zW L mi pc' lv (rest) h' Q) (hn : Nat.beq (znp mj) 4 = true := by rfl) (hc : (zlg mj || ([a1, a2, a3, a4] : List Value).all (fun v => v.category == 1)) = true := by rfl) (hx : Nat.ble (zexp [a1, a2, a3, a4]).length (zmx mj) = true := by rfl) (hl : Nat.ble (zcat rest) 8 = true := by rfl) : zW L mi pc lv (a4 :: a3 :: a2 :: a1 :: rest) h Q :=
  zx_call hd (zcall_s (as := [a1, a2, a3, a4]) hd (Nat.eq_of_beq_eq_true hn).symm hc hx hl) (zW.mono hr (fun o k hq => by obtain ⟨rfl, rfl⟩ := hq; exact w))
theorem zx_ct4v {mj kd b x y : Nat} {a1 a2 a3 a4 : Value} {rest : List Value} {h h' : zHp} (hd : zDk mi pc pc' mj kd = true) (hb : zk L h b = some (.inr (zoc mj))) (hr : zThr L mj (.ref b :: [a1, a2, a3, a4]) h (x, y) h') (w : match zcatch mi pc x with | some pq => zW L mi pq lv [.ref y] h' Q | none => zhd mi = [] ∧ Q (.inr (x, y)) h') (hkd : decide (kd = 2) = false := by rfl) (hn : Nat.beq (znp mj) 4 = true := by rfl) (hc : (zlg mj || ([a1, a2, a3, a4] : List Value).all (fun v => v.category == 1)) = true := by rfl) (hx : Nat.ble ((zexp [a1, a2, a3, a4]).length + 1) (zmx mj) = true := by rfl) (hl : Nat.ble (zcat rest) 8 = true := by rfl) : zW L mi pc lv (a4 :: a3 :: a2 :: a1 :: .ref b :: rest) h Q :=
  zx_call hd (zcall_v (as := [a1, a2, a3, a4]) hd hkd (Nat.eq_of_beq_eq_true hn).symm hc hx hb hl) (zW.mono hr (fun o k hq => by obtain ⟨rfl, rfl⟩ := hq; exact w))
theorem zx_ct4s {mj x y : Nat} {a1 a2 a3 a4 : Value} {rest : List Value} {h h' : zHp} (hd : zDk mi pc pc' mj 2 = true) (hr : zThr L mj [a1, a2, a3, a4] h (x, y) h') (w : match zcatch mi pc x with | some pq => zW L mi pq lv [.ref y] h' Q | none => zhd mi = [] ∧ Q (.inr (x, y)) h') (hn : Nat.beq (znp mj) 4 = true := by rfl) (hc : (zlg mj || ([a1, a2, a3, a4] : List Value).all (fun v => v.category == 1)) = true := by rfl) (hx : Nat.ble (zexp [a1, a2, a3, a4]).length (zmx mj) = true := by rfl) (hl : Nat.ble (zcat rest) 8 = true := by rfl) : zW L mi pc lv (a4 :: a3 :: a2 :: a1 :: rest) h Q :=
  zx_call hd (zcall_s (as := [a1, a2, a3, a4]) hd (Nat.eq_of_beq_eq_true hn).symm hc hx hl) (zW.mono hr (fun o k hq => by obtain ⟨rfl, rfl⟩ := hq; exact w))
theorem zx_cv5I {mj kd b : Nat} {a1 a2 a3 a4 a5 : Value} {v : Int32} {rest : List Value} {h h' : zHp} (hd : zDk mi pc pc' mj kd = true) (hb : zk L h b = some (.inr (zoc mj))) (hr : zRet L mj (.ref b :: [a1, a2, a3, a4, a5]) h (some (.int v)) h') (w : zW L mi pc' lv (.int v :: rest) h' Q) (hkd : decide (kd = 2) = false := by rfl) (hn : Nat.beq (znp mj) 5 = true := by rfl) (hc : (zlg mj || ([a1, a2, a3, a4, a5] : List Value).all (fun v => v.category == 1)) = true := by rfl) (hx : Nat.ble ((zexp [a1, a2, a3, a4, a5]).length + 1) (zmx mj) = true := by rfl) (hl : Nat.ble (zcat rest) 8 = true := by rfl) : zW L mi pc lv (a5 :: a4 :: a3 :: a2 :: a1 :: .ref b :: rest) h Q :=
  zx_call hd (zcall_v (as := [a1, a2, a3, a4, a5]) hd hkd (Nat.eq_of_beq_eq_true hn).symm hc hx hb hl) (zW.mono hr (fun o k hq => by obtain ⟨rfl, rfl⟩ := hq; exact w))
theorem zx_cs5I {mj : Nat} {a1 a2 a3 a4 a5 : Value} {v : Int32} {rest : List Value} {h h' : zHp} (hd : zDk mi pc pc' mj 2 = true) (hr : zRet L mj [a1, a2, a3, a4, a5] h (some (.int v)) h') (w : zW L mi pc' lv (.int v :: rest) h' Q) (hn : Nat.beq (znp mj) 5 = true := by rfl) (hc : (zlg mj || ([a1, a2, a3, a4, a5] : List Value).all (fun v => v.category == 1)) = true := by rfl) (hx : Nat.ble (zexp [a1, a2, a3, a4, a5]).length (zmx mj) = true := by rfl) (hl : Nat.ble (zcat rest) 8 = true := by rfl) : zW L mi pc lv (a5 :: a4 :: a3 :: a2 :: a1 :: rest) h Q :=
  zx_call hd (zcall_s (as := [a1, a2, a3, a4, a5]) hd (Nat.eq_of_beq_eq_true hn).symm hc hx hl) (zW.mono hr (fun o k hq => by obtain ⟨rfl, rfl⟩ := hq; exact w))
theorem zx_cv5R {mj kd b : Nat} {a1 a2 a3 a4 a5 : Value} {v : Nat} {rest : List Value} {h h' : zHp} (hd : zDk mi pc pc' mj kd = true) (hb : zk L h b = some (.inr (zoc mj))) (hr : zRet L mj (.ref b :: [a1, a2, a3, a4, a5]) h (some (.ref v)) h') (w : zW L mi pc' lv (.ref v :: rest) h' Q) (hkd : decide (kd = 2) = false := by rfl) (hn : Nat.beq (znp mj) 5 = true := by rfl) (hc : (zlg mj || ([a1, a2, a3, a4, a5] : List Value).all (fun v => v.category == 1)) = true := by rfl) (hx : Nat.ble ((zexp [a1, a2, a3, a4, a5]).length + 1) (zmx mj) = true := by rfl) (hl : Nat.ble (zcat rest) 8 = true := by rfl) : zW L mi pc lv (a5 :: a4 :: a3 :: a2 :: a1 :: .ref b :: rest) h Q :=
  zx_call hd (zcall_v (as := [a1, a2, a3, a4, a5]) hd hkd (Nat.eq_of_beq_eq_true hn).symm hc hx hb hl) (zW.mono hr (fun o k hq => by obtain ⟨rfl, rfl⟩ := hq; exact w))
theorem zx_cs5R {mj : Nat} {a1 a2 a3 a4 a5 : Value} {v : Nat} {rest : List Value} {h h' : zHp} (hd : zDk mi pc pc' mj 2 = true) (hr : zRet L mj [a1, a2, a3, a4, a5] h (some (.ref v)) h') (w : zW L mi pc' lv (.ref v :: rest) h' Q) (hn : Nat.beq (znp mj) 5 = true := by rfl) (hc : (zlg mj || ([a1, a2, a3, a4, a5] : List Value).all (fun v => v.category == 1)) = true := by rfl) (hx : Nat.ble (zexp [a1, a2, a3, a4, a5]).length (zmx mj) = true := by rfl) (hl : Nat.ble (zcat rest) 8 = true := by rfl) : zW L mi pc lv (a5 :: a4 :: a3 :: a2 :: a1 :: rest) h Q :=
  zx_call hd (zcall_s (as := [a1, a2, a3, a4, a5]) hd (Nat.eq_of_beq_eq_true hn).symm hc hx hl) (zW.mono hr (fun o k hq => by obtain ⟨rfl, rfl⟩ := hq; exact w))
theorem zx_cv5V {mj kd b : Nat} {a1 a2 a3 a4 a5 : Value} {rest : List Value} {h h' : zHp} (hd : zDk mi pc pc' mj kd = true) (hb : zk L h b = some (.inr (zoc mj))) (hr : zRet L mj (.ref b :: [a1, a2, a3, a4, a5]) h none h') (w : zW L mi pc' lv (rest) h' Q) (hkd : decide (kd = 2) = false := by rfl) (hn : Nat.beq (znp mj) 5 = true := by rfl) (hc : (zlg mj || ([a1, a2, a3, a4, a5] : List Value).all (fun v => v.category == 1)) = true := by rfl) (hx : Nat.ble ((zexp [a1, a2, a3, a4, a5]).length + 1) (zmx mj) = true := by rfl) (hl : Nat.ble (zcat rest) 8 = true := by rfl) : zW L mi pc lv (a5 :: a4 :: a3 :: a2 :: a1 :: .ref b :: rest) h Q :=
  zx_call hd (zcall_v (as := [a1, a2, a3, a4, a5]) hd hkd (Nat.eq_of_beq_eq_true hn).symm hc hx hb hl) (zW.mono hr (fun o k hq => by obtain ⟨rfl, rfl⟩ := hq; exact w))
theorem zx_cs5V {mj : Nat} {a1 a2 a3 a4 a5 : Value} {rest : List Value} {h h' : zHp} (hd : zDk mi pc pc' mj 2 = true) (hr : zRet L mj [a1, a2, a3, a4, a5] h none h') (w : zW L mi pc' lv (rest) h' Q) (hn : Nat.beq (znp mj) 5 = true := by rfl) (hc : (zlg mj || ([a1, a2, a3, a4, a5] : List Value).all (fun v => v.category == 1)) = true := by rfl) (hx : Nat.ble (zexp [a1, a2, a3, a4, a5]).length (zmx mj) = true := by rfl) (hl : Nat.ble (zcat rest) 8 = true := by rfl) : zW L mi pc lv (a5 :: a4 :: a3 :: a2 :: a1 :: rest) h Q :=
  zx_call hd (zcall_s (as := [a1, a2, a3, a4, a5]) hd (Nat.eq_of_beq_eq_true hn).symm hc hx hl) (zW.mono hr (fun o k hq => by obtain ⟨rfl, rfl⟩ := hq; exact w))
theorem zx_ct5v {mj kd b x y : Nat} {a1 a2 a3 a4 a5 : Value} {rest : List Value} {h h' : zHp} (hd : zDk mi pc pc' mj kd = true) (hb : zk L h b = some (.inr (zoc mj))) (hr : zThr L mj (.ref b :: [a1, a2, a3, a4, a5]) h (x, y) h') (w : match zcatch mi pc x with | some pq => zW L mi pq lv [.ref y] h' Q | none => zhd mi = [] ∧ Q (.inr (x, y)) h') (hkd : decide (kd = 2) = false := by rfl) (hn : Nat.beq (znp mj) 5 = true := by rfl) (hc : (zlg mj || ([a1, a2, a3, a4, a5] : List Value).all (fun v => v.category == 1)) = true := by rfl) (hx : Nat.ble ((zexp [a1, a2, a3, a4, a5]).length + 1) (zmx mj) = true := by rfl) (hl : Nat.ble (zcat rest) 8 = true := by rfl) : zW L mi pc lv (a5 :: a4 :: a3 :: a2 :: a1 :: .ref b :: rest) h Q :=
  zx_call hd (zcall_v (as := [a1, a2, a3, a4, a5]) hd hkd (Nat.eq_of_beq_eq_true hn).symm hc hx hb hl) (zW.mono hr (fun o k hq => by obtain ⟨rfl, rfl⟩ := hq; exact w))
theorem zx_ct5s {mj x y : Nat} {a1 a2 a3 a4 a5 : Value} {rest : List Value} {h h' : zHp} (hd : zDk mi pc pc' mj 2 = true) (hr : zThr L mj [a1, a2, a3, a4, a5] h (x, y) h') (w : match zcatch mi pc x with | some pq => zW L mi pq lv [.ref y] h' Q | none => zhd mi = [] ∧ Q (.inr (x, y)) h') (hn : Nat.beq (znp mj) 5 = true := by rfl) (hc : (zlg mj || ([a1, a2, a3, a4, a5] : List Value).all (fun v => v.category == 1)) = true := by rfl) (hx : Nat.ble (zexp [a1, a2, a3, a4, a5]).length (zmx mj) = true := by rfl) (hl : Nat.ble (zcat rest) 8 = true := by rfl) : zW L mi pc lv (a5 :: a4 :: a3 :: a2 :: a1 :: rest) h Q :=
  zx_call hd (zcall_s (as := [a1, a2, a3, a4, a5]) hd (Nat.eq_of_beq_eq_true hn).symm hc hx hl) (zW.mono hr (fun o k hq => by obtain ⟨rfl, rfl⟩ := hq; exact w))
end ZX
end
section
/-! THE SAME RULES over numbers: an int that is Int32.ofNat k -/
abbrev zM0 : Nat := 2147483648
theorem zn_inj {a b : Nat} (ha : a < 2147483648) (hb : b < 2147483648) : Int32.ofNat a = Int32.ofNat b ↔ a = b := by
  constructor
  · intro h
    have := congrArg Int32.toNatClampNeg h
    rw [Int32.toNatClampNeg_ofNat_of_lt ha, Int32.toNatClampNeg_ofNat_of_lt hb] at this
    exact this
  · rintro rfl; rfl
theorem zn_lt {a b : Nat} (ha : a < 2147483648) (hb : b < 2147483648) : Int32.ofNat a < Int32.ofNat b ↔ a < b := Int32.ofNat_lt_iff_lt ha hb
theorem zn_cl {a : Nat} (ha : a < 2147483648) : (Int32.ofNat a).toNatClampNeg = a := Int32.toNatClampNeg_ofNat_of_lt ha
theorem zn_nn {a : Nat} (ha : a < 2147483648) : (0 : Int32) ≤ Int32.ofNat a := Int32.ofNat_le_ofNat (k := 0) (by decide) ha |>.mpr (Nat.zero_le a)
theorem zn_rem {a b : Nat} (ha : a < 2147483648) (hb : b < 2147483648) : Int32.ofNat a - Int32.ofNat a / Int32.ofNat b * Int32.ofNat b = Int32.ofNat (a % b) := by
  rw [← Int32.ofNat_div ha hb, ← Int32.ofNat_mul, ← Int32.ofNat_sub _ _ (Nat.div_mul_le_self a b)]
  congr 1
  have := Nat.div_add_mod a b
  rw [Nat.mul_comm] at this
  omega
theorem zn_xor {a b : Nat} : Int32.ofNat a ^^^ Int32.ofNat b = Int32.ofNat (a ^^^ b) := by
  apply Int32.toBitVec_inj.mp
  rw [Int32.toBitVec_xor]
  show BitVec.ofNat 32 a ^^^ BitVec.ofNat 32 b = BitVec.ofNat 32 (a ^^^ b)
  rw [BitVec.ofNat_xor]
theorem zn_and {a b : Nat} : Int32.ofNat a &&& Int32.ofNat b = Int32.ofNat (a &&& b) := by
  apply Int32.toBitVec_inj.mp
  rw [Int32.toBitVec_and]
  show BitVec.ofNat 32 a &&& BitVec.ofNat 32 b = BitVec.ofNat 32 (a &&& b)
  rw [BitVec.ofNat_and]
theorem zn_shr {a b : Nat} (ha : a < 2147483648) (hb : b < 32) : Int32.ofNat a >>> (Int32.ofNat b &&& 31) = Int32.ofNat (a >>> b) := by
  have hm : Int32.ofNat b &&& 31 = Int32.ofNat b := by
    have : (31 : Int32) = Int32.ofNat 31 := rfl
    rw [this, zn_and]
    congr 1
    have h31 : (31 : Nat) = 2 ^ 5 - 1 := rfl
    rw [h31, Nat.and_two_pow_sub_one_eq_mod]
    omega
  rw [hm]
  apply Int32.toInt_inj.mp
  have hle : a >>> b ≤ a := Nat.shiftRight_le a b
  have e2 : (Int32.ofNat (a >>> b)).toInt = ((a >>> b : Nat) : Int) := Int32.toInt_ofNat_of_lt (Nat.lt_of_le_of_lt hle ha)
  rw [e2]
  show (Int32.ofNat a >>> Int32.ofNat b).toBitVec.toInt = _
  rw [Int32.toBitVec_shiftRight]
  have hs : (Int32.ofNat b).toBitVec.smod 32 = BitVec.ofNat 32 b := by
    have : ∀ q : Fin 32, (Int32.ofNat q.val).toBitVec.smod 32 = BitVec.ofNat 32 q.val := by decide
    exact this ⟨b, hb⟩
  rw [hs]
  show (BitVec.sshiftRight (BitVec.ofNat 32 a) (BitVec.ofNat 32 b).toNat).toInt = _
  rw [BitVec.toInt_sshiftRight]
  have h1 : (BitVec.ofNat 32 a).toInt = (a : Int) := Int32.toInt_ofNat_of_lt ha
  have h2 : (BitVec.ofNat 32 b).toNat = b := by rw [BitVec.toNat_ofNat]; omega
  rw [h1, h2]
  rfl
section ZXN
variable {L mi pc pc' : Nat} {lv : zLv} {st : List Value} {N U : Nat} {I : zI} {J : zJ} {R : zR} {Q : zOut → zHp → Prop} {r : zLv}
theorem zx_addN {x y : Nat} {h : zHp} (hd : zD mi pc .iadd 1 pc' = true) (w : zW L mi pc' lv (.int (Int32.ofNat (x + y)) :: st) h Q) : zW L mi pc lv (.int (Int32.ofNat y) :: .int (Int32.ofNat x) :: st) h Q := zx_add hd (by rw [← Int32.ofNat_add]; exact w)
theorem zx_subN {x y : Nat} {h : zHp} (hd : zD mi pc .isub 1 pc' = true) (hs : y ≤ x) (w : zW L mi pc' lv (.int (Int32.ofNat (x - y)) :: st) h Q) : zW L mi pc lv (.int (Int32.ofNat y) :: .int (Int32.ofNat x) :: st) h Q := zx_sub hd (by rw [← Int32.ofNat_sub _ _ hs]; exact w)
theorem zx_mulN {x y : Nat} {h : zHp} (hd : zD mi pc .imul 1 pc' = true) (w : zW L mi pc' lv (.int (Int32.ofNat (x * y)) :: st) h Q) : zW L mi pc lv (.int (Int32.ofNat y) :: .int (Int32.ofNat x) :: st) h Q := zx_mul hd (by rw [← Int32.ofNat_mul]; exact w)
theorem zx_divN {x y : Nat} {h : zHp} (hd : zD mi pc .idiv 1 pc' = true) (hs : x < 2147483648 ∧ 0 < y ∧ y < 2147483648) (w : zW L mi pc' lv (.int (Int32.ofNat (x / y)) :: st) h Q) : zW L mi pc lv (.int (Int32.ofNat y) :: .int (Int32.ofNat x) :: st) h Q := zx_div hd (fun e => by have := (zn_inj hs.2.2 (by decide : 0 < 2147483648)).mp e; omega) (by rw [← Int32.ofNat_div hs.1 hs.2.2]; exact w)
theorem zx_remN {x y : Nat} {h : zHp} (hd : zD mi pc .irem 1 pc' = true) (hs : x < 2147483648 ∧ 0 < y ∧ y < 2147483648) (w : zW L mi pc' lv (.int (Int32.ofNat (x % y)) :: st) h Q) : zW L mi pc lv (.int (Int32.ofNat y) :: .int (Int32.ofNat x) :: st) h Q := zx_rem hd (fun e => by have := (zn_inj hs.2.2 (by decide : 0 < 2147483648)).mp e; omega) (by rw [zn_rem hs.1 hs.2.2]; exact w)
theorem zx_xorN {x y : Nat} {h : zHp} (hd : zD mi pc .ixor 1 pc' = true) (w : zW L mi pc' lv (.int (Int32.ofNat (x ^^^ y)) :: st) h Q) : zW L mi pc lv (.int (Int32.ofNat y) :: .int (Int32.ofNat x) :: st) h Q := zx_xor hd (by rw [zn_xor]; exact w)
theorem zx_andN {x y : Nat} {h : zHp} (hd : zD mi pc .iand 1 pc' = true) (w : zW L mi pc' lv (.int (Int32.ofNat (x &&& y)) :: st) h Q) : zW L mi pc lv (.int (Int32.ofNat y) :: .int (Int32.ofNat x) :: st) h Q := zx_and hd (by rw [zn_and]; exact w)
theorem zx_shrN {x y : Nat} {h : zHp} (hd : zD mi pc .ishr 1 pc' = true) (hs : x < 2147483648 ∧ y < 32) (w : zW L mi pc' lv (.int (Int32.ofNat (x >>> y)) :: st) h Q) : zW L mi pc lv (.int (Int32.ofNat y) :: .int (Int32.ofNat x) :: st) h Q := zx_shr hd (by rw [zn_shr hs.1 hs.2]; exact w)
theorem zx_icmpeqN {tg nx x y : Nat} {h : zHp} (hd : zDm mi pc .eq tg nx = true) (hs : x < 2147483648 ∧ y < 2147483648) (w1 : x = y → zW L mi tg lv st h Q) (w2 : x ≠ y → zW L mi nx lv st h Q) : zW L mi pc lv (.int (Int32.ofNat y) :: .int (Int32.ofNat x) :: st) h Q := by
  refine zx_icmpeq hd (fun hc => w1 ?_) (fun hc => w2 ?_)
  all_goals (rw [zn_inj hs.1 hs.2] at hc; omega)
theorem zx_ifeqN {tg nx x : Nat} {h : zHp} (hd : zDf mi pc .eq tg nx = true) (hs : x < 2147483648) (w1 : x = 0 → zW L mi tg lv st h Q) (w2 : x ≠ 0 → zW L mi nx lv st h Q) : zW L mi pc lv (.int (Int32.ofNat x) :: st) h Q := by
  have z0 : (0 : Int32) = Int32.ofNat 0 := rfl
  refine zx_ifeq hd (fun hc => w1 ?_) (fun hc => w2 ?_)
  all_goals (rw [z0, zn_inj hs (by decide : 0 < 2147483648)] at hc; omega)
theorem zx_icmpneN {tg nx x y : Nat} {h : zHp} (hd : zDm mi pc .ne tg nx = true) (hs : x < 2147483648 ∧ y < 2147483648) (w1 : x ≠ y → zW L mi tg lv st h Q) (w2 : x = y → zW L mi nx lv st h Q) : zW L mi pc lv (.int (Int32.ofNat y) :: .int (Int32.ofNat x) :: st) h Q := by
  refine zx_icmpne hd (fun hc => w1 ?_) (fun hc => w2 ?_)
  all_goals (rw [zn_inj hs.1 hs.2] at hc; omega)
theorem zx_ifneN {tg nx x : Nat} {h : zHp} (hd : zDf mi pc .ne tg nx = true) (hs : x < 2147483648) (w1 : x ≠ 0 → zW L mi tg lv st h Q) (w2 : x = 0 → zW L mi nx lv st h Q) : zW L mi pc lv (.int (Int32.ofNat x) :: st) h Q := by
  have z0 : (0 : Int32) = Int32.ofNat 0 := rfl
  refine zx_ifne hd (fun hc => w1 ?_) (fun hc => w2 ?_)
  all_goals (rw [z0, zn_inj hs (by decide : 0 < 2147483648)] at hc; omega)
theorem zx_icmpltN {tg nx x y : Nat} {h : zHp} (hd : zDm mi pc .lt tg nx = true) (hs : x < 2147483648 ∧ y < 2147483648) (w1 : x < y → zW L mi tg lv st h Q) (w2 : y ≤ x → zW L mi nx lv st h Q) : zW L mi pc lv (.int (Int32.ofNat y) :: .int (Int32.ofNat x) :: st) h Q := by
  refine zx_icmplt hd (fun hc => w1 ?_) (fun hc => w2 ?_)
  all_goals (rw [zn_lt hs.1 hs.2] at hc; omega)
theorem zx_ifltN {tg nx x : Nat} {h : zHp} (hd : zDf mi pc .lt tg nx = true) (hs : x < 2147483648) (w1 : x < 0 → zW L mi tg lv st h Q) (w2 : 0 ≤ x → zW L mi nx lv st h Q) : zW L mi pc lv (.int (Int32.ofNat x) :: st) h Q := by
  have z0 : (0 : Int32) = Int32.ofNat 0 := rfl
  refine zx_iflt hd (fun hc => w1 ?_) (fun hc => w2 ?_)
  all_goals (rw [z0, zn_lt hs (by decide : 0 < 2147483648)] at hc; omega)
theorem zx_icmpgeN {tg nx x y : Nat} {h : zHp} (hd : zDm mi pc .ge tg nx = true) (hs : x < 2147483648 ∧ y < 2147483648) (w1 : y ≤ x → zW L mi tg lv st h Q) (w2 : x < y → zW L mi nx lv st h Q) : zW L mi pc lv (.int (Int32.ofNat y) :: .int (Int32.ofNat x) :: st) h Q := by
  refine zx_icmpge hd (fun hc => w1 ?_) (fun hc => w2 ?_)
  all_goals (rw [zn_lt hs.1 hs.2] at hc; omega)
theorem zx_ifgeN {tg nx x : Nat} {h : zHp} (hd : zDf mi pc .ge tg nx = true) (hs : x < 2147483648) (w1 : 0 ≤ x → zW L mi tg lv st h Q) (w2 : x < 0 → zW L mi nx lv st h Q) : zW L mi pc lv (.int (Int32.ofNat x) :: st) h Q := by
  have z0 : (0 : Int32) = Int32.ofNat 0 := rfl
  refine zx_ifge hd (fun hc => w1 ?_) (fun hc => w2 ?_)
  all_goals (rw [z0, zn_lt hs (by decide : 0 < 2147483648)] at hc; omega)
theorem zx_icmpgtN {tg nx x y : Nat} {h : zHp} (hd : zDm mi pc .gt tg nx = true) (hs : x < 2147483648 ∧ y < 2147483648) (w1 : y < x → zW L mi tg lv st h Q) (w2 : x ≤ y → zW L mi nx lv st h Q) : zW L mi pc lv (.int (Int32.ofNat y) :: .int (Int32.ofNat x) :: st) h Q := by
  refine zx_icmpgt hd (fun hc => w1 ?_) (fun hc => w2 ?_)
  all_goals (rw [zn_lt hs.2 hs.1] at hc; omega)
theorem zx_ifgtN {tg nx x : Nat} {h : zHp} (hd : zDf mi pc .gt tg nx = true) (hs : x < 2147483648) (w1 : 0 < x → zW L mi tg lv st h Q) (w2 : x ≤ 0 → zW L mi nx lv st h Q) : zW L mi pc lv (.int (Int32.ofNat x) :: st) h Q := by
  have z0 : (0 : Int32) = Int32.ofNat 0 := rfl
  refine zx_ifgt hd (fun hc => w1 ?_) (fun hc => w2 ?_)
  all_goals (rw [z0, zn_lt (by decide : 0 < 2147483648) hs] at hc; omega)
theorem zx_icmpleN {tg nx x y : Nat} {h : zHp} (hd : zDm mi pc .le tg nx = true) (hs : x < 2147483648 ∧ y < 2147483648) (w1 : x ≤ y → zW L mi tg lv st h Q) (w2 : y < x → zW L mi nx lv st h Q) : zW L mi pc lv (.int (Int32.ofNat y) :: .int (Int32.ofNat x) :: st) h Q := by
  refine zx_icmple hd (fun hc => w1 ?_) (fun hc => w2 ?_)
  all_goals (rw [zn_lt hs.2 hs.1] at hc; omega)
theorem zx_ifleN {tg nx x : Nat} {h : zHp} (hd : zDf mi pc .le tg nx = true) (hs : x < 2147483648) (w1 : x ≤ 0 → zW L mi tg lv st h Q) (w2 : 0 < x → zW L mi nx lv st h Q) : zW L mi pc lv (.int (Int32.ofNat x) :: st) h Q := by
  have z0 : (0 : Int32) = Int32.ofNat 0 := rfl
  refine zx_ifle hd (fun hc => w1 ?_) (fun hc => w2 ?_)
  all_goals (rw [z0, zn_lt (by decide : 0 < 2147483648) hs] at hc; omega)
theorem zx_iin0 {x n : Nat} {h : zHp} (hd : zDi mi pc pc' 0 (Int32.ofNat n) = true) (w : zW L mi pc' (some (.int (Int32.ofNat (x + n))) :: r) st h Q) : zW L mi pc (some (.int (Int32.ofNat x)) :: r) st h Q := zx_ii0 hd (by rw [← Int32.ofNat_add]; exact w)
theorem zx_iid0 {x n : Nat} {h : zHp} (hd : zDi mi pc pc' 0 (-(Int32.ofNat n)) = true) (hs : n ≤ x) (w : zW L mi pc' (some (.int (Int32.ofNat (x - n))) :: r) st h Q) : zW L mi pc (some (.int (Int32.ofNat x)) :: r) st h Q := zx_ii0 hd (by rw [← Int32.sub_eq_add_neg, ← Int32.ofNat_sub _ _ hs]; exact w)
theorem zx_iin1 {l0 : Option Value} {x n : Nat} {h : zHp} (hd : zDi mi pc pc' 1 (Int32.ofNat n) = true) (w : zW L mi pc' (l0 :: some (.int (Int32.ofNat (x + n))) :: r) st h Q) : zW L mi pc (l0 :: some (.int (Int32.ofNat x)) :: r) st h Q := zx_ii1 hd (by rw [← Int32.ofNat_add]; exact w)
theorem zx_iid1 {l0 : Option Value} {x n : Nat} {h : zHp} (hd : zDi mi pc pc' 1 (-(Int32.ofNat n)) = true) (hs : n ≤ x) (w : zW L mi pc' (l0 :: some (.int (Int32.ofNat (x - n))) :: r) st h Q) : zW L mi pc (l0 :: some (.int (Int32.ofNat x)) :: r) st h Q := zx_ii1 hd (by rw [← Int32.sub_eq_add_neg, ← Int32.ofNat_sub _ _ hs]; exact w)
theorem zx_iin2 {l0 l1 : Option Value} {x n : Nat} {h : zHp} (hd : zDi mi pc pc' 2 (Int32.ofNat n) = true) (w : zW L mi pc' (l0 :: l1 :: some (.int (Int32.ofNat (x + n))) :: r) st h Q) : zW L mi pc (l0 :: l1 :: some (.int (Int32.ofNat x)) :: r) st h Q := zx_ii2 hd (by rw [← Int32.ofNat_add]; exact w)
theorem zx_iid2 {l0 l1 : Option Value} {x n : Nat} {h : zHp} (hd : zDi mi pc pc' 2 (-(Int32.ofNat n)) = true) (hs : n ≤ x) (w : zW L mi pc' (l0 :: l1 :: some (.int (Int32.ofNat (x - n))) :: r) st h Q) : zW L mi pc (l0 :: l1 :: some (.int (Int32.ofNat x)) :: r) st h Q := zx_ii2 hd (by rw [← Int32.sub_eq_add_neg, ← Int32.ofNat_sub _ _ hs]; exact w)
theorem zx_iin3 {l0 l1 l2 : Option Value} {x n : Nat} {h : zHp} (hd : zDi mi pc pc' 3 (Int32.ofNat n) = true) (w : zW L mi pc' (l0 :: l1 :: l2 :: some (.int (Int32.ofNat (x + n))) :: r) st h Q) : zW L mi pc (l0 :: l1 :: l2 :: some (.int (Int32.ofNat x)) :: r) st h Q := zx_ii3 hd (by rw [← Int32.ofNat_add]; exact w)
theorem zx_iid3 {l0 l1 l2 : Option Value} {x n : Nat} {h : zHp} (hd : zDi mi pc pc' 3 (-(Int32.ofNat n)) = true) (hs : n ≤ x) (w : zW L mi pc' (l0 :: l1 :: l2 :: some (.int (Int32.ofNat (x - n))) :: r) st h Q) : zW L mi pc (l0 :: l1 :: l2 :: some (.int (Int32.ofNat x)) :: r) st h Q := zx_ii3 hd (by rw [← Int32.sub_eq_add_neg, ← Int32.ofNat_sub _ _ hs]; exact w)
theorem zx_iin4 {l0 l1 l2 l3 : Option Value} {x n : Nat} {h : zHp} (hd : zDi mi pc pc' 4 (Int32.ofNat n) = true) (w : zW L mi pc' (l0 :: l1 :: l2 :: l3 :: some (.int (Int32.ofNat (x + n))) :: r) st h Q) : zW L mi pc (l0 :: l1 :: l2 :: l3 :: some (.int (Int32.ofNat x)) :: r) st h Q := zx_ii4 hd (by rw [← Int32.ofNat_add]; exact w)
theorem zx_iid4 {l0 l1 l2 l3 : Option Value} {x n : Nat} {h : zHp} (hd : zDi mi pc pc' 4 (-(Int32.ofNat n)) = true) (hs : n ≤ x) (w : zW L mi pc' (l0 :: l1 :: l2 :: l3 :: some (.int (Int32.ofNat (x - n))) :: r) st h Q) : zW L mi pc (l0 :: l1 :: l2 :: l3 :: some (.int (Int32.ofNat x)) :: r) st h Q := zx_ii4 hd (by rw [← Int32.sub_eq_add_neg, ← Int32.ofNat_sub _ _ hs]; exact w)
theorem zx_iin5 {l0 l1 l2 l3 l4 : Option Value} {x n : Nat} {h : zHp} (hd : zDi mi pc pc' 5 (Int32.ofNat n) = true) (w : zW L mi pc' (l0 :: l1 :: l2 :: l3 :: l4 :: some (.int (Int32.ofNat (x + n))) :: r) st h Q) : zW L mi pc (l0 :: l1 :: l2 :: l3 :: l4 :: some (.int (Int32.ofNat x)) :: r) st h Q := zx_ii5 hd (by rw [← Int32.ofNat_add]; exact w)
theorem zx_iid5 {l0 l1 l2 l3 l4 : Option Value} {x n : Nat} {h : zHp} (hd : zDi mi pc pc' 5 (-(Int32.ofNat n)) = true) (hs : n ≤ x) (w : zW L mi pc' (l0 :: l1 :: l2 :: l3 :: l4 :: some (.int (Int32.ofNat (x - n))) :: r) st h Q) : zW L mi pc (l0 :: l1 :: l2 :: l3 :: l4 :: some (.int (Int32.ofNat x)) :: r) st h Q := zx_ii5 hd (by rw [← Int32.sub_eq_add_neg, ← Int32.ofNat_sub _ _ hs]; exact w)
theorem zx_iin6 {l0 l1 l2 l3 l4 l5 : Option Value} {x n : Nat} {h : zHp} (hd : zDi mi pc pc' 6 (Int32.ofNat n) = true) (w : zW L mi pc' (l0 :: l1 :: l2 :: l3 :: l4 :: l5 :: some (.int (Int32.ofNat (x + n))) :: r) st h Q) : zW L mi pc (l0 :: l1 :: l2 :: l3 :: l4 :: l5 :: some (.int (Int32.ofNat x)) :: r) st h Q := zx_ii6 hd (by rw [← Int32.ofNat_add]; exact w)
theorem zx_iid6 {l0 l1 l2 l3 l4 l5 : Option Value} {x n : Nat} {h : zHp} (hd : zDi mi pc pc' 6 (-(Int32.ofNat n)) = true) (hs : n ≤ x) (w : zW L mi pc' (l0 :: l1 :: l2 :: l3 :: l4 :: l5 :: some (.int (Int32.ofNat (x - n))) :: r) st h Q) : zW L mi pc (l0 :: l1 :: l2 :: l3 :: l4 :: l5 :: some (.int (Int32.ofNat x)) :: r) st h Q := zx_ii6 hd (by rw [← Int32.sub_eq_add_neg, ← Int32.ofNat_sub _ _ hs]; exact w)
theorem zx_iin7 {l0 l1 l2 l3 l4 l5 l6 : Option Value} {x n : Nat} {h : zHp} (hd : zDi mi pc pc' 7 (Int32.ofNat n) = true) (w : zW L mi pc' (l0 :: l1 :: l2 :: l3 :: l4 :: l5 :: l6 :: some (.int (Int32.ofNat (x + n))) :: r) st h Q) : zW L mi pc (l0 :: l1 :: l2 :: l3 :: l4 :: l5 :: l6 :: some (.int (Int32.ofNat x)) :: r) st h Q := zx_ii7 hd (by rw [← Int32.ofNat_add]; exact w)
theorem zx_iid7 {l0 l1 l2 l3 l4 l5 l6 : Option Value} {x n : Nat} {h : zHp} (hd : zDi mi pc pc' 7 (-(Int32.ofNat n)) = true) (hs : n ≤ x) (w : zW L mi pc' (l0 :: l1 :: l2 :: l3 :: l4 :: l5 :: l6 :: some (.int (Int32.ofNat (x - n))) :: r) st h Q) : zW L mi pc (l0 :: l1 :: l2 :: l3 :: l4 :: l5 :: l6 :: some (.int (Int32.ofNat x)) :: r) st h Q := zx_ii7 hd (by rw [← Int32.sub_eq_add_neg, ← Int32.ofNat_sub _ _ hs]; exact w)
theorem zx_iin8 {l0 l1 l2 l3 l4 l5 l6 l7 : Option Value} {x n : Nat} {h : zHp} (hd : zDi mi pc pc' 8 (Int32.ofNat n) = true) (w : zW L mi pc' (l0 :: l1 :: l2 :: l3 :: l4 :: l5 :: l6 :: l7 :: some (.int (Int32.ofNat (x + n))) :: r) st h Q) : zW L mi pc (l0 :: l1 :: l2 :: l3 :: l4 :: l5 :: l6 :: l7 :: some (.int (Int32.ofNat x)) :: r) st h Q := zx_ii8 hd (by rw [← Int32.ofNat_add]; exact w)
theorem zx_iid8 {l0 l1 l2 l3 l4 l5 l6 l7 : Option Value} {x n : Nat} {h : zHp} (hd : zDi mi pc pc' 8 (-(Int32.ofNat n)) = true) (hs : n ≤ x) (w : zW L mi pc' (l0 :: l1 :: l2 :: l3 :: l4 :: l5 :: l6 :: l7 :: some (.int (Int32.ofNat (x - n))) :: r) st h Q) : zW L mi pc (l0 :: l1 :: l2 :: l3 :: l4 :: l5 :: l6 :: l7 :: some (.int (Int32.ofNat x)) :: r) st h Q := zx_ii8 hd (by rw [← Int32.sub_eq_add_neg, ← Int32.ofNat_sub _ _ hs]; exact w)
theorem zx_iin9 {l0 l1 l2 l3 l4 l5 l6 l7 l8 : Option Value} {x n : Nat} {h : zHp} (hd : zDi mi pc pc' 9 (Int32.ofNat n) = true) (w : zW L mi pc' (l0 :: l1 :: l2 :: l3 :: l4 :: l5 :: l6 :: l7 :: l8 :: some (.int (Int32.ofNat (x + n))) :: r) st h Q) : zW L mi pc (l0 :: l1 :: l2 :: l3 :: l4 :: l5 :: l6 :: l7 :: l8 :: some (.int (Int32.ofNat x)) :: r) st h Q := zx_ii9 hd (by rw [← Int32.ofNat_add]; exact w)
theorem zx_iid9 {l0 l1 l2 l3 l4 l5 l6 l7 l8 : Option Value} {x n : Nat} {h : zHp} (hd : zDi mi pc pc' 9 (-(Int32.ofNat n)) = true) (hs : n ≤ x) (w : zW L mi pc' (l0 :: l1 :: l2 :: l3 :: l4 :: l5 :: l6 :: l7 :: l8 :: some (.int (Int32.ofNat (x - n))) :: r) st h Q) : zW L mi pc (l0 :: l1 :: l2 :: l3 :: l4 :: l5 :: l6 :: l7 :: l8 :: some (.int (Int32.ofNat x)) :: r) st h Q := zx_ii9 hd (by rw [← Int32.sub_eq_add_neg, ← Int32.ofNat_sub _ _ hs]; exact w)
theorem zx_iin10 {l0 l1 l2 l3 l4 l5 l6 l7 l8 l9 : Option Value} {x n : Nat} {h : zHp} (hd : zDi mi pc pc' 10 (Int32.ofNat n) = true) (w : zW L mi pc' (l0 :: l1 :: l2 :: l3 :: l4 :: l5 :: l6 :: l7 :: l8 :: l9 :: some (.int (Int32.ofNat (x + n))) :: r) st h Q) : zW L mi pc (l0 :: l1 :: l2 :: l3 :: l4 :: l5 :: l6 :: l7 :: l8 :: l9 :: some (.int (Int32.ofNat x)) :: r) st h Q := zx_ii10 hd (by rw [← Int32.ofNat_add]; exact w)
theorem zx_iid10 {l0 l1 l2 l3 l4 l5 l6 l7 l8 l9 : Option Value} {x n : Nat} {h : zHp} (hd : zDi mi pc pc' 10 (-(Int32.ofNat n)) = true) (hs : n ≤ x) (w : zW L mi pc' (l0 :: l1 :: l2 :: l3 :: l4 :: l5 :: l6 :: l7 :: l8 :: l9 :: some (.int (Int32.ofNat (x - n))) :: r) st h Q) : zW L mi pc (l0 :: l1 :: l2 :: l3 :: l4 :: l5 :: l6 :: l7 :: l8 :: l9 :: some (.int (Int32.ofNat x)) :: r) st h Q := zx_ii10 hd (by rw [← Int32.sub_eq_add_neg, ← Int32.ofNat_sub _ _ hs]; exact w)
theorem zx_iin11 {l0 l1 l2 l3 l4 l5 l6 l7 l8 l9 l10 : Option Value} {x n : Nat} {h : zHp} (hd : zDi mi pc pc' 11 (Int32.ofNat n) = true) (w : zW L mi pc' (l0 :: l1 :: l2 :: l3 :: l4 :: l5 :: l6 :: l7 :: l8 :: l9 :: l10 :: some (.int (Int32.ofNat (x + n))) :: r) st h Q) : zW L mi pc (l0 :: l1 :: l2 :: l3 :: l4 :: l5 :: l6 :: l7 :: l8 :: l9 :: l10 :: some (.int (Int32.ofNat x)) :: r) st h Q := zx_ii11 hd (by rw [← Int32.ofNat_add]; exact w)
theorem zx_iid11 {l0 l1 l2 l3 l4 l5 l6 l7 l8 l9 l10 : Option Value} {x n : Nat} {h : zHp} (hd : zDi mi pc pc' 11 (-(Int32.ofNat n)) = true) (hs : n ≤ x) (w : zW L mi pc' (l0 :: l1 :: l2 :: l3 :: l4 :: l5 :: l6 :: l7 :: l8 :: l9 :: l10 :: some (.int (Int32.ofNat (x - n))) :: r) st h Q) : zW L mi pc (l0 :: l1 :: l2 :: l3 :: l4 :: l5 :: l6 :: l7 :: l8 :: l9 :: l10 :: some (.int (Int32.ofNat x)) :: r) st h Q := zx_ii11 hd (by rw [← Int32.sub_eq_add_neg, ← Int32.ofNat_sub _ _ hs]; exact w)
theorem zx_iin12 {l0 l1 l2 l3 l4 l5 l6 l7 l8 l9 l10 l11 : Option Value} {x n : Nat} {h : zHp} (hd : zDi mi pc pc' 12 (Int32.ofNat n) = true) (w : zW L mi pc' (l0 :: l1 :: l2 :: l3 :: l4 :: l5 :: l6 :: l7 :: l8 :: l9 :: l10 :: l11 :: some (.int (Int32.ofNat (x + n))) :: r) st h Q) : zW L mi pc (l0 :: l1 :: l2 :: l3 :: l4 :: l5 :: l6 :: l7 :: l8 :: l9 :: l10 :: l11 :: some (.int (Int32.ofNat x)) :: r) st h Q := zx_ii12 hd (by rw [← Int32.ofNat_add]; exact w)
theorem zx_iid12 {l0 l1 l2 l3 l4 l5 l6 l7 l8 l9 l10 l11 : Option Value} {x n : Nat} {h : zHp} (hd : zDi mi pc pc' 12 (-(Int32.ofNat n)) = true) (hs : n ≤ x) (w : zW L mi pc' (l0 :: l1 :: l2 :: l3 :: l4 :: l5 :: l6 :: l7 :: l8 :: l9 :: l10 :: l11 :: some (.int (Int32.ofNat (x - n))) :: r) st h Q) : zW L mi pc (l0 :: l1 :: l2 :: l3 :: l4 :: l5 :: l6 :: l7 :: l8 :: l9 :: l10 :: l11 :: some (.int (Int32.ofNat x)) :: r) st h Q := zx_ii12 hd (by rw [← Int32.sub_eq_add_neg, ← Int32.ofNat_sub _ _ hs]; exact w)
theorem zx_iin13 {l0 l1 l2 l3 l4 l5 l6 l7 l8 l9 l10 l11 l12 : Option Value} {x n : Nat} {h : zHp} (hd : zDi mi pc pc' 13 (Int32.ofNat n) = true) (w : zW L mi pc' (l0 :: l1 :: l2 :: l3 :: l4 :: l5 :: l6 :: l7 :: l8 :: l9 :: l10 :: l11 :: l12 :: some (.int (Int32.ofNat (x + n))) :: r) st h Q) : zW L mi pc (l0 :: l1 :: l2 :: l3 :: l4 :: l5 :: l6 :: l7 :: l8 :: l9 :: l10 :: l11 :: l12 :: some (.int (Int32.ofNat x)) :: r) st h Q := zx_ii13 hd (by rw [← Int32.ofNat_add]; exact w)
theorem zx_iid13 {l0 l1 l2 l3 l4 l5 l6 l7 l8 l9 l10 l11 l12 : Option Value} {x n : Nat} {h : zHp} (hd : zDi mi pc pc' 13 (-(Int32.ofNat n)) = true) (hs : n ≤ x) (w : zW L mi pc' (l0 :: l1 :: l2 :: l3 :: l4 :: l5 :: l6 :: l7 :: l8 :: l9 :: l10 :: l11 :: l12 :: some (.int (Int32.ofNat (x - n))) :: r) st h Q) : zW L mi pc (l0 :: l1 :: l2 :: l3 :: l4 :: l5 :: l6 :: l7 :: l8 :: l9 :: l10 :: l11 :: l12 :: some (.int (Int32.ofNat x)) :: r) st h Q := zx_ii13 hd (by rw [← Int32.sub_eq_add_neg, ← Int32.ofNat_sub _ _ hs]; exact w)
theorem zx_iin14 {l0 l1 l2 l3 l4 l5 l6 l7 l8 l9 l10 l11 l12 l13 : Option Value} {x n : Nat} {h : zHp} (hd : zDi mi pc pc' 14 (Int32.ofNat n) = true) (w : zW L mi pc' (l0 :: l1 :: l2 :: l3 :: l4 :: l5 :: l6 :: l7 :: l8 :: l9 :: l10 :: l11 :: l12 :: l13 :: some (.int (Int32.ofNat (x + n))) :: r) st h Q) : zW L mi pc (l0 :: l1 :: l2 :: l3 :: l4 :: l5 :: l6 :: l7 :: l8 :: l9 :: l10 :: l11 :: l12 :: l13 :: some (.int (Int32.ofNat x)) :: r) st h Q := zx_ii14 hd (by rw [← Int32.ofNat_add]; exact w)
theorem zx_iid14 {l0 l1 l2 l3 l4 l5 l6 l7 l8 l9 l10 l11 l12 l13 : Option Value} {x n : Nat} {h : zHp} (hd : zDi mi pc pc' 14 (-(Int32.ofNat n)) = true) (hs : n ≤ x) (w : zW L mi pc' (l0 :: l1 :: l2 :: l3 :: l4 :: l5 :: l6 :: l7 :: l8 :: l9 :: l10 :: l11 :: l12 :: l13 :: some (.int (Int32.ofNat (x - n))) :: r) st h Q) : zW L mi pc (l0 :: l1 :: l2 :: l3 :: l4 :: l5 :: l6 :: l7 :: l8 :: l9 :: l10 :: l11 :: l12 :: l13 :: some (.int (Int32.ofNat x)) :: r) st h Q := zx_ii14 hd (by rw [← Int32.sub_eq_add_neg, ← Int32.ofNat_sub _ _ hs]; exact w)
theorem zx_iin15 {l0 l1 l2 l3 l4 l5 l6 l7 l8 l9 l10 l11 l12 l13 l14 : Option Value} {x n : Nat} {h : zHp} (hd : zDi mi pc pc' 15 (Int32.ofNat n) = true) (w : zW L mi pc' (l0 :: l1 :: l2 :: l3 :: l4 :: l5 :: l6 :: l7 :: l8 :: l9 :: l10 :: l11 :: l12 :: l13 :: l14 :: some (.int (Int32.ofNat (x + n))) :: r) st h Q) : zW L mi pc (l0 :: l1 :: l2 :: l3 :: l4 :: l5 :: l6 :: l7 :: l8 :: l9 :: l10 :: l11 :: l12 :: l13 :: l14 :: some (.int (Int32.ofNat x)) :: r) st h Q := zx_ii15 hd (by rw [← Int32.ofNat_add]; exact w)
theorem zx_iid15 {l0 l1 l2 l3 l4 l5 l6 l7 l8 l9 l10 l11 l12 l13 l14 : Option Value} {x n : Nat} {h : zHp} (hd : zDi mi pc pc' 15 (-(Int32.ofNat n)) = true) (hs : n ≤ x) (w : zW L mi pc' (l0 :: l1 :: l2 :: l3 :: l4 :: l5 :: l6 :: l7 :: l8 :: l9 :: l10 :: l11 :: l12 :: l13 :: l14 :: some (.int (Int32.ofNat (x - n))) :: r) st h Q) : zW L mi pc (l0 :: l1 :: l2 :: l3 :: l4 :: l5 :: l6 :: l7 :: l8 :: l9 :: l10 :: l11 :: l12 :: l13 :: l14 :: some (.int (Int32.ofNat x)) :: r) st h Q := zx_ii15 hd (by rw [← Int32.sub_eq_add_neg, ← Int32.ofNat_sub _ _ hs]; exact w)
theorem zx_iin16 {l0 l1 l2 l3 l4 l5 l6 l7 l8 l9 l10 l11 l12 l13 l14 l15 : Option Value} {x n : Nat} {h : zHp} (hd : zDi mi pc pc' 16 (Int32.ofNat n) = true) (w : zW L mi pc' (l0 :: l1 :: l2 :: l3 :: l4 :: l5 :: l6 :: l7 :: l8 :: l9 :: l10 :: l11 :: l12 :: l13 :: l14 :: l15 :: some (.int (Int32.ofNat (x + n))) :: r) st h Q) : zW L mi pc (l0 :: l1 :: l2 :: l3 :: l4 :: l5 :: l6 :: l7 :: l8 :: l9 :: l10 :: l11 :: l12 :: l13 :: l14 :: l15 :: some (.int (Int32.ofNat x)) :: r) st h Q := zx_ii16 hd (by rw [← Int32.ofNat_add]; exact w)
theorem zx_iid16 {l0 l1 l2 l3 l4 l5 l6 l7 l8 l9 l10 l11 l12 l13 l14 l15 : Option Value} {x n : Nat} {h : zHp} (hd : zDi mi pc pc' 16 (-(Int32.ofNat n)) = true) (hs : n ≤ x) (w : zW L mi pc' (l0 :: l1 :: l2 :: l3 :: l4 :: l5 :: l6 :: l7 :: l8 :: l9 :: l10 :: l11 :: l12 :: l13 :: l14 :: l15 :: some (.int (Int32.ofNat (x - n))) :: r) st h Q) : zW L mi pc (l0 :: l1 :: l2 :: l3 :: l4 :: l5 :: l6 :: l7 :: l8 :: l9 :: l10 :: l11 :: l12 :: l13 :: l14 :: l15 :: some (.int (Int32.ofNat x)) :: r) st h Q := zx_ii16 hd (by rw [← Int32.sub_eq_add_neg, ← Int32.ofNat_sub _ _ hs]; exact w)
theorem zx_ialdN {n a k : Nat} (hd : zD mi pc .iaload 1 pc' = true) (hk : zk L (N, U, I, J, R) a = some (.inl (.int, n))) (hj : k < n ∧ k < 2147483648) (w : zW L mi pc' lv (.int (I a k) :: st) (N, U, I, J, R) Q) : zW L mi pc lv (.int (Int32.ofNat k) :: .ref a :: st) (N, U, I, J, R) Q := zx_iald hd hk (zn_nn hj.2) (by rw [zn_cl hj.2]; exact hj.1) (by rw [zn_cl hj.2]; exact w)
theorem zx_zaldN {n a k : Nat} (hd : zD mi pc .baload 1 pc' = true) (hk : zk L (N, U, I, J, R) a = some (.inl (.boolean, n))) (hj : k < n ∧ k < 2147483648) (w : zW L mi pc' lv (.int (I a k) :: st) (N, U, I, J, R) Q) : zW L mi pc lv (.int (Int32.ofNat k) :: .ref a :: st) (N, U, I, J, R) Q := zx_zald hd hk (zn_nn hj.2) (by rw [zn_cl hj.2]; exact hj.1) (by rw [zn_cl hj.2]; exact w)
theorem zx_laldN {n a k : Nat} (hd : zD mi pc .laload 1 pc' = true) (hk : zk L (N, U, I, J, R) a = some (.inl (.long, n))) (hj : k < n ∧ k < 2147483648) (w : zW L mi pc' lv (.long (J a k) :: st) (N, U, I, J, R) Q) : zW L mi pc lv (.int (Int32.ofNat k) :: .ref a :: st) (N, U, I, J, R) Q := zx_lald hd hk (zn_nn hj.2) (by rw [zn_cl hj.2]; exact hj.1) (by rw [zn_cl hj.2]; exact w)
theorem zx_aaldAN {n a k : Nat} {b : Nat} {t : FieldType} (hd : zD mi pc .aaload 1 pc' = true) (hk : zk L (N, U, I, J, R) a = some (.inl (.array t, n))) (hj : k < n ∧ k < 2147483648) (hr : R a k = some b) (w : zW L mi pc' lv (.ref b :: st) (N, U, I, J, R) Q) : zW L mi pc lv (.int (Int32.ofNat k) :: .ref a :: st) (N, U, I, J, R) Q := zx_aald hd hk (Or.inr ⟨_, rfl⟩) (zn_nn hj.2) (by rw [zn_cl hj.2]; exact hj.1) (by rw [zn_cl hj.2]; exact hr) w
theorem zx_aaldON {n a k : Nat} {b : Nat} {t : String} (hd : zD mi pc .aaload 1 pc' = true) (hk : zk L (N, U, I, J, R) a = some (.inl (.object t, n))) (hj : k < n ∧ k < 2147483648) (hr : R a k = some b) (w : zW L mi pc' lv (.ref b :: st) (N, U, I, J, R) Q) : zW L mi pc lv (.int (Int32.ofNat k) :: .ref a :: st) (N, U, I, J, R) Q := zx_aald hd hk (Or.inl ⟨_, rfl⟩) (zn_nn hj.2) (by rw [zn_cl hj.2]; exact hj.1) (by rw [zn_cl hj.2]; exact hr) w
theorem zx_iastN {n a k : Nat} {v : Int32} (hd : zD mi pc .iastore 1 pc' = true) (hk : zk L (N, U, I, J, R) a = some (.inl (.int, n))) (hj : k < n ∧ k < 2147483648) (ha : 3 ≤ a) (w : zW L mi pc' lv st (N, U, zu I a k v, J, R) Q) : zW L mi pc lv (.int v :: .int (Int32.ofNat k) :: .ref a :: st) (N, U, I, J, R) Q := zx_iast hd hk (zn_nn hj.2) (by rw [zn_cl hj.2]; exact hj.1) ha (by rw [zn_cl hj.2]; exact w)
theorem zx_zastN {n a k : Nat} {v : Int32} (hd : zD mi pc .bastore 1 pc' = true) (hk : zk L (N, U, I, J, R) a = some (.inl (.boolean, n))) (hj : k < n ∧ k < 2147483648) (ha : 3 ≤ a) (hv : v = 0 ∨ v = 1) (w : zW L mi pc' lv st (N, U, zu I a k v, J, R) Q) : zW L mi pc lv (.int v :: .int (Int32.ofNat k) :: .ref a :: st) (N, U, I, J, R) Q := zx_zast hd hk (zn_nn hj.2) (by rw [zn_cl hj.2]; exact hj.1) ha hv (by rw [zn_cl hj.2]; exact w)
theorem zx_lastN {n a k : Nat} {v : Int64} (hd : zD mi pc .lastore 1 pc' = true) (hk : zk L (N, U, I, J, R) a = some (.inl (.long, n))) (hj : k < n ∧ k < 2147483648) (ha : 3 ≤ a) (w : zW L mi pc' lv st (N, U, I, zu J a k v, R) Q) : zW L mi pc lv (.long v :: .int (Int32.ofNat k) :: .ref a :: st) (N, U, I, J, R) Q := zx_last hd hk (zn_nn hj.2) (by rw [zn_cl hj.2]; exact hj.1) ha (by rw [zn_cl hj.2]; exact w)
theorem zx_aastN {n a v ci k : Nat} (hd : zD mi pc .aastore 1 pc' = true) (hv : zk L (N, U, I, J, R) v = some (.inr ci)) (hk : zk L (N, U, I, J, R) a = some (.inl (.object (zcn ci), n))) (hj : k < n ∧ k < 2147483648) (ha : 3 ≤ a) (w : zW L mi pc' lv st (N, U, I, J, zu R a k (some v)) Q) : zW L mi pc lv (.ref v :: .int (Int32.ofNat k) :: .ref a :: st) (N, U, I, J, R) Q := zx_aast hd hv hk (zn_nn hj.2) (by rw [zn_cl hj.2]; exact hj.1) ha (by rw [zn_cl hj.2]; exact w)
/-! kinds -/
theorem zkk {a : Nat} {kd : zKd} {U : Nat} {I : zI} {J : zJ} {R : zR} (hK : zK L a = some kd) (ha : a < N) : zk L (N, U, I, J, R) a = some kd := by
  unfold zk; rw [if_pos ha]; exact hK
/-- release r stands at zB r -/
abbrev zB (r : Nat) : Nat := 8 + 54 * r
theorem zK_B {r c : Nat} (hr : r < 11) (hc : c < 54) : zK L (8 + 54 * r + c) = zK54 c := by
  unfold zK
  rw [if_neg (by omega), if_neg (by omega), if_pos (by omega)]
  congr 1; omega
theorem zK_B0 {r : Nat} (hr : r < 11) : zK L (8 + 54 * r) = some (.inr 2) := zK_B (c := 0) hr (by decide)
theorem zK_row {r q : Nat} (hr : r < 11) (hq : q < 32) : zK L (8 + 54 * r + 4 + q) = some (.inl (.int, 32)) := by
  rw [show 8 + 54 * r + 4 + q = 8 + 54 * r + (4 + q) by omega, zK_B hr (by omega)]
  unfold zK54
  rw [if_neg (by omega), if_pos (by omega), if_neg (by omega)]
theorem zK_file {r j : Nat} (hr : r < 11) (hj : j < 8) : zK L (8 + 54 * r + 38 + 2 * j) = some (.inr 4) := by
  rw [show 8 + 54 * r + 38 + 2 * j = 8 + 54 * r + (38 + 2 * j) by omega, zK_B hr (by omega)]
  unfold zK54
  rw [if_neg (by omega), if_neg (by omega), if_neg (by omega), if_pos (by omega)]
theorem zK_byte {r j : Nat} (hr : r < 11) (hj : j < 8) : zK L (8 + 54 * r + 39 + 2 * j) = some (.inl (.int, 64)) := by
  rw [show 8 + 54 * r + 39 + 2 * j = 8 + 54 * r + (39 + 2 * j) by omega, zK_B hr (by omega)]
  unfold zK54
  rw [if_neg (by omega), if_neg (by omega), if_neg (by omega), if_neg (by omega)]
theorem zK_list {k : Nat} (hk : k < 11) : zK L (603 + k) = some (.inl (.int, 32)) := by
  unfold zK
  rw [if_neg (by omega), if_neg (by omega), if_neg (by omega), if_pos (by omega), if_neg (by omega)]
theorem zK_top {a : Nat} (ha : 646 ≤ a) : zK L a = none := by
  unfold zK
  rw [if_neg (by omega), if_neg (by omega), if_neg (by omega), if_neg (by omega)]
  exact List.getElem?_eq_none (by show 32 ≤ a - 614; omega)
end ZXN
end
section
/-! The instructions of the class, read off its code -/
theorem zd1_0 : zD 1 0 (.aload_n 0) 1 1 = true := by decide +kernel
theorem zd1_1 : zDo 1 1 4 = true := by decide +kernel
theorem zd1_4 : zD 1 4 (.aload_n 0) 1 5 = true := by decide +kernel
theorem zd1_5 : zDw 1 5 8 1 = true := by decide +kernel
theorem zd1_8 : zD 1 8 .dup 1 9 = true := by decide +kernel
theorem zd1_9 : zDk 1 9 12 2 1 = true := by decide +kernel
theorem zd1_12 : zDp 1 12 15 0 0 (.object "ReleaseLeaves$Digester") = true := by decide +kernel
theorem zd1_15 : zD 1 15 (.aload_n 0) 1 16 = true := by decide +kernel
theorem zd1_16 : zDc 1 16 18 (Int32.ofNat 11) = true := by decide +kernel
theorem zd1_18 : zDa 1 18 21 "ReleaseLeaves$Release" = true := by decide +kernel
theorem zd1_21 : zDp 1 21 24 0 1 (.array (.object "ReleaseLeaves$Release")) = true := by decide +kernel
theorem zd1_24 : zDc 1 24 25 (Int32.ofNat 0) = true := by decide +kernel
theorem zd1_25 : zD 1 25 (.istore_n 1) 1 26 = true := by decide +kernel
theorem zd1_26 : zD 1 26 (.iload_n 1) 1 27 = true := by decide +kernel
theorem zd1_27 : zD 1 27 (.aload_n 0) 1 28 = true := by decide +kernel
theorem zd1_28 : zDg 1 28 31 0 1 (.array (.object "ReleaseLeaves$Release")) = true := by decide +kernel
theorem zd1_31 : zD 1 31 .arraylength 1 32 = true := by decide +kernel
theorem zd1_32 : zDm 1 32 .ge 54 35 = true := by decide +kernel
theorem zd1_35 : zD 1 35 (.aload_n 0) 1 36 = true := by decide +kernel
theorem zd1_36 : zDg 1 36 39 0 1 (.array (.object "ReleaseLeaves$Release")) = true := by decide +kernel
theorem zd1_39 : zD 1 39 (.iload_n 1) 1 40 = true := by decide +kernel
theorem zd1_40 : zDw 1 40 43 2 = true := by decide +kernel
theorem zd1_43 : zD 1 43 .dup 1 44 = true := by decide +kernel
theorem zd1_44 : zDk 1 44 47 3 1 = true := by decide +kernel
theorem zd1_47 : zD 1 47 .aastore 1 48 = true := by decide +kernel
theorem zd1_48 : zDi 1 48 51 1 (Int32.ofNat 1) = true := by decide +kernel
theorem zd1_51 : zDj 1 51 26 = true := by decide +kernel
theorem zd1_54 : zD 1 54 (.aload_n 0) 1 55 = true := by decide +kernel
theorem zd1_55 : zDc 1 55 57 (Int32.ofNat 11) = true := by decide +kernel
theorem zd1_57 : zDc 1 57 59 (Int32.ofNat 32) = true := by decide +kernel
theorem zd1_59 : zDu 1 59 63 = true := by decide +kernel
theorem zd1_63 : zDp 1 63 66 0 3 (.array (.array .int)) = true := by decide +kernel
theorem zd1_66 : zD 1 66 (.aload_n 0) 1 67 = true := by decide +kernel
theorem zd1_67 : zDg 1 67 70 0 0 (.object "ReleaseLeaves$Digester") = true := by decide +kernel
theorem zd1_70 : zDk 1 70 73 6 0 = true := by decide +kernel
theorem zd1_73 : zD 1 73 (.aload_n 0) 1 74 = true := by decide +kernel
theorem zd1_74 : zDg 1 74 77 0 0 (.object "ReleaseLeaves$Digester") = true := by decide +kernel
theorem zd1_77 : zD 1 77 (.aload_n 0) 1 78 = true := by decide +kernel
theorem zd1_78 : zDg 1 78 81 0 3 (.array (.array .int)) = true := by decide +kernel
theorem zd1_81 : zDc 1 81 82 (Int32.ofNat 0) = true := by decide +kernel
theorem zd1_82 : zD 1 82 .aaload 1 83 = true := by decide +kernel
theorem zd1_83 : zDk 1 83 86 7 0 = true := by decide +kernel
theorem zd1_86 : zD 1 86 (.aload_n 0) 1 87 = true := by decide +kernel
theorem zd1_87 : zDc 1 87 89 (Int32.ofNat 60) = true := by decide +kernel
theorem zd1_89 : zD 1 89 (.newarray .int) 2 91 = true := by decide +kernel
theorem zd1_91 : zDp 1 91 94 0 5 (.array .int) = true := by decide +kernel
theorem zd1_94 : zD 1 94 (.aload_n 0) 1 95 = true := by decide +kernel
theorem zd1_95 : zDw 1 95 98 5 = true := by decide +kernel
theorem zd1_98 : zD 1 98 .dup 1 99 = true := by decide +kernel
theorem zd1_99 : zDk 1 99 102 12 1 = true := by decide +kernel
theorem zd1_102 : zDp 1 102 105 0 7 (.object "ReleaseLeaves$EventLog") = true := by decide +kernel
theorem zd1_105 : zD 1 105 (.aload_n 0) 1 106 = true := by decide +kernel
theorem zd1_106 : zDw 1 106 109 6 = true := by decide +kernel
theorem zd1_109 : zD 1 109 .dup 1 110 = true := by decide +kernel
theorem zd1_110 : zDk 1 110 113 13 1 = true := by decide +kernel
theorem zd1_113 : zDp 1 113 116 0 8 (.object "ReleaseLeaves$Claim") = true := by decide +kernel
theorem zd1_116 : zD 1 116 (.aload_n 0) 1 117 = true := by decide +kernel
theorem zd1_117 : zDc 1 117 119 (Int32.ofNat 32) = true := by decide +kernel
theorem zd1_119 : zD 1 119 (.newarray .int) 2 121 = true := by decide +kernel
theorem zd1_121 : zDp 1 121 124 0 9 (.array .int) = true := by decide +kernel
theorem zd1_124 : zD 1 124 .return_ 1 125 = true := by decide +kernel
theorem zd2_0 : zD 2 0 (.aload_n 0) 1 1 = true := by decide +kernel
theorem zd2_1 : zDo 2 1 4 = true := by decide +kernel
theorem zd2_4 : zD 2 4 (.aload_n 0) 1 5 = true := by decide +kernel
theorem zd2_5 : zDc 2 5 7 (Int32.ofNat 8) = true := by decide +kernel
theorem zd2_7 : zD 2 7 (.newarray .int) 2 9 = true := by decide +kernel
theorem zd2_9 : zDp 2 9 12 1 0 (.array .int) = true := by decide +kernel
theorem zd2_12 : zD 2 12 (.aload_n 0) 1 13 = true := by decide +kernel
theorem zd2_13 : zDs 2 13 16 2 = true := by decide +kernel
theorem zd2_16 : zD 2 16 .arraylength 1 17 = true := by decide +kernel
theorem zd2_17 : zD 2 17 (.newarray .int) 2 19 = true := by decide +kernel
theorem zd2_19 : zDp 2 19 22 1 1 (.array .int) = true := by decide +kernel
theorem zd2_22 : zD 2 22 .return_ 1 23 = true := by decide +kernel
theorem zd3_0 : zD 3 0 (.aload_n 0) 1 1 = true := by decide +kernel
theorem zd3_1 : zDo 3 1 4 = true := by decide +kernel
theorem zd3_4 : zD 3 4 (.aload_n 0) 1 5 = true := by decide +kernel
theorem zd3_5 : zDc 3 5 7 (Int32.ofNat 8) = true := by decide +kernel
theorem zd3_7 : zDa 3 7 10 "ReleaseLeaves$StoredFile" = true := by decide +kernel
theorem zd3_10 : zDp 3 10 13 2 0 (.array (.object "ReleaseLeaves$StoredFile")) = true := by decide +kernel
theorem zd3_13 : zD 3 13 (.aload_n 0) 1 14 = true := by decide +kernel
theorem zd3_14 : zDw 3 14 17 3 = true := by decide +kernel
theorem zd3_17 : zD 3 17 .dup 1 18 = true := by decide +kernel
theorem zd3_18 : zDk 3 18 21 4 1 = true := by decide +kernel
theorem zd3_21 : zDp 3 21 24 2 2 (.object "ReleaseLeaves$Tree") = true := by decide +kernel
theorem zd3_24 : zD 3 24 (.aload_n 0) 1 25 = true := by decide +kernel
theorem zd3_25 : zDc 3 25 27 (Int32.ofNat 16) = true := by decide +kernel
theorem zd3_27 : zD 3 27 (.newarray .int) 2 29 = true := by decide +kernel
theorem zd3_29 : zDp 3 29 32 2 3 (.array .int) = true := by decide +kernel
theorem zd3_32 : zDc 3 32 33 (Int32.ofNat 0) = true := by decide +kernel
theorem zd3_33 : zD 3 33 (.istore_n 1) 1 34 = true := by decide +kernel
theorem zd3_34 : zD 3 34 (.iload_n 1) 1 35 = true := by decide +kernel
theorem zd3_35 : zD 3 35 (.aload_n 0) 1 36 = true := by decide +kernel
theorem zd3_36 : zDg 3 36 39 2 0 (.array (.object "ReleaseLeaves$StoredFile")) = true := by decide +kernel
theorem zd3_39 : zD 3 39 .arraylength 1 40 = true := by decide +kernel
theorem zd3_40 : zDm 3 40 .ge 62 43 = true := by decide +kernel
theorem zd3_43 : zD 3 43 (.aload_n 0) 1 44 = true := by decide +kernel
theorem zd3_44 : zDg 3 44 47 2 0 (.array (.object "ReleaseLeaves$StoredFile")) = true := by decide +kernel
theorem zd3_47 : zD 3 47 (.iload_n 1) 1 48 = true := by decide +kernel
theorem zd3_48 : zDw 3 48 51 4 = true := by decide +kernel
theorem zd3_51 : zD 3 51 .dup 1 52 = true := by decide +kernel
theorem zd3_52 : zDk 3 52 55 5 1 = true := by decide +kernel
theorem zd3_55 : zD 3 55 .aastore 1 56 = true := by decide +kernel
theorem zd3_56 : zDi 3 56 59 1 (Int32.ofNat 1) = true := by decide +kernel
theorem zd3_59 : zDj 3 59 34 = true := by decide +kernel
theorem zd3_62 : zDc 3 62 63 (Int32.ofNat 0) = true := by decide +kernel
theorem zd3_63 : zD 3 63 (.istore_n 1) 1 64 = true := by decide +kernel
theorem zd3_64 : zD 3 64 (.iload_n 1) 1 65 = true := by decide +kernel
theorem zd3_65 : zD 3 65 (.aload_n 0) 1 66 = true := by decide +kernel
theorem zd3_66 : zDg 3 66 69 2 3 (.array .int) = true := by decide +kernel
theorem zd3_69 : zD 3 69 .arraylength 1 70 = true := by decide +kernel
theorem zd3_70 : zDm 3 70 .ge 86 73 = true := by decide +kernel
theorem zd3_73 : zD 3 73 (.aload_n 0) 1 74 = true := by decide +kernel
theorem zd3_74 : zDg 3 74 77 2 3 (.array .int) = true := by decide +kernel
theorem zd3_77 : zD 3 77 (.iload_n 1) 1 78 = true := by decide +kernel
theorem zd3_78 : zDc 3 78 79 (-1) = true := by decide +kernel
theorem zd3_79 : zD 3 79 .iastore 1 80 = true := by decide +kernel
theorem zd3_80 : zDi 3 80 83 1 (Int32.ofNat 1) = true := by decide +kernel
theorem zd3_83 : zDj 3 83 64 = true := by decide +kernel
theorem zd3_86 : zD 3 86 .return_ 1 87 = true := by decide +kernel
theorem zd4_0 : zD 4 0 (.aload_n 0) 1 1 = true := by decide +kernel
theorem zd4_1 : zDo 4 1 4 = true := by decide +kernel
theorem zd4_4 : zD 4 4 (.aload_n 0) 1 5 = true := by decide +kernel
theorem zd4_5 : zDc 4 5 7 (Int32.ofNat 32) = true := by decide +kernel
theorem zd4_7 : zDc 4 7 9 (Int32.ofNat 32) = true := by decide +kernel
theorem zd4_9 : zDu 4 9 13 = true := by decide +kernel
theorem zd4_13 : zDp 4 13 16 3 0 (.array (.array .int)) = true := by decide +kernel
theorem zd4_16 : zD 4 16 (.aload_n 0) 1 17 = true := by decide +kernel
theorem zd4_17 : zDc 4 17 18 (Int32.ofNat 4) = true := by decide +kernel
theorem zd4_18 : zD 4 18 (.newarray .int) 2 20 = true := by decide +kernel
theorem zd4_20 : zDp 4 20 23 3 1 (.array .int) = true := by decide +kernel
theorem zd4_23 : zD 4 23 .return_ 1 24 = true := by decide +kernel
theorem zd5_0 : zD 5 0 (.aload_n 0) 1 1 = true := by decide +kernel
theorem zd5_1 : zDo 5 1 4 = true := by decide +kernel
theorem zd5_4 : zD 5 4 (.aload_n 0) 1 5 = true := by decide +kernel
theorem zd5_5 : zDc 5 5 7 (Int32.ofNat 64) = true := by decide +kernel
theorem zd5_7 : zD 5 7 (.newarray .int) 2 9 = true := by decide +kernel
theorem zd5_9 : zDp 5 9 12 4 1 (.array .int) = true := by decide +kernel
theorem zd5_12 : zD 5 12 .return_ 1 13 = true := by decide +kernel
theorem zd6_0 : zDs 6 0 3 1 = true := by decide +kernel
theorem zd6_3 : zDc 6 3 4 (Int32.ofNat 0) = true := by decide +kernel
theorem zd6_4 : zD 6 4 (.aload_n 0) 1 5 = true := by decide +kernel
theorem zd6_5 : zDg 6 5 8 1 0 (.array .int) = true := by decide +kernel
theorem zd6_8 : zDc 6 8 9 (Int32.ofNat 0) = true := by decide +kernel
theorem zd6_9 : zDc 6 9 11 (Int32.ofNat 8) = true := by decide +kernel
theorem zd6_11 : zDy 6 11 14 = true := by decide +kernel
theorem zd6_14 : zD 6 14 (.aload_n 0) 1 15 = true := by decide +kernel
theorem zd6_15 : zDc 6 15 16 (Int32.ofNat 0) = true := by decide +kernel
theorem zd6_16 : zDp 6 16 19 1 2 (.int) = true := by decide +kernel
theorem zd6_19 : zD 6 19 .return_ 1 20 = true := by decide +kernel
theorem zd7_0 : zD 7 0 (.aload_n 0) 1 1 = true := by decide +kernel
theorem zd7_1 : zDg 7 1 4 1 2 (.int) = true := by decide +kernel
theorem zd7_4 : zDc 7 4 6 (Int32.ofNat 8) = true := by decide +kernel
theorem zd7_6 : zD 7 6 .imul 1 7 = true := by decide +kernel
theorem zd7_7 : zD 7 7 (.istore_n 2) 1 8 = true := by decide +kernel
theorem zd7_8 : zD 7 8 (.aload_n 0) 1 9 = true := by decide +kernel
theorem zd7_9 : zDc 7 9 12 (Int32.ofNat 128) = true := by decide +kernel
theorem zd7_12 : zDk 7 12 15 8 0 = true := by decide +kernel
theorem zd7_15 : zDc 7 15 17 (Int32.ofNat 56) = true := by decide +kernel
theorem zd7_17 : zD 7 17 (.aload_n 0) 1 18 = true := by decide +kernel
theorem zd7_18 : zDg 7 18 21 1 2 (.int) = true := by decide +kernel
theorem zd7_21 : zD 7 21 .isub 1 22 = true := by decide +kernel
theorem zd7_22 : zDc 7 22 24 (Int32.ofNat 63) = true := by decide +kernel
theorem zd7_24 : zD 7 24 .iand 1 25 = true := by decide +kernel
theorem zd7_25 : zD 7 25 (.istore_n 3) 1 26 = true := by decide +kernel
theorem zd7_26 : zDc 7 26 27 (Int32.ofNat 0) = true := by decide +kernel
theorem zd7_27 : zD 7 27 (.istore 4) 2 29 = true := by decide +kernel
theorem zd7_29 : zD 7 29 (.iload 4) 2 31 = true := by decide +kernel
theorem zd7_31 : zD 7 31 (.iload_n 3) 1 32 = true := by decide +kernel
theorem zd7_32 : zDc 7 32 33 (Int32.ofNat 4) = true := by decide +kernel
theorem zd7_33 : zD 7 33 .iadd 1 34 = true := by decide +kernel
theorem zd7_34 : zDm 7 34 .ge 48 37 = true := by decide +kernel
theorem zd7_37 : zD 7 37 (.aload_n 0) 1 38 = true := by decide +kernel
theorem zd7_38 : zDc 7 38 39 (Int32.ofNat 0) = true := by decide +kernel
theorem zd7_39 : zDk 7 39 42 8 0 = true := by decide +kernel
theorem zd7_42 : zDi 7 42 45 4 (Int32.ofNat 1) = true := by decide +kernel
theorem zd7_45 : zDj 7 45 29 = true := by decide +kernel
theorem zd7_48 : zD 7 48 (.aload_n 0) 1 49 = true := by decide +kernel
theorem zd7_49 : zD 7 49 (.iload_n 2) 1 50 = true := by decide +kernel
theorem zd7_50 : zDc 7 50 52 (Int32.ofNat 24) = true := by decide +kernel
theorem zd7_52 : zD 7 52 .iushr 1 53 = true := by decide +kernel
theorem zd7_53 : zDk 7 53 56 8 0 = true := by decide +kernel
theorem zd7_56 : zD 7 56 (.aload_n 0) 1 57 = true := by decide +kernel
theorem zd7_57 : zD 7 57 (.iload_n 2) 1 58 = true := by decide +kernel
theorem zd7_58 : zDc 7 58 60 (Int32.ofNat 16) = true := by decide +kernel
theorem zd7_60 : zD 7 60 .iushr 1 61 = true := by decide +kernel
theorem zd7_61 : zDk 7 61 64 8 0 = true := by decide +kernel
theorem zd7_64 : zD 7 64 (.aload_n 0) 1 65 = true := by decide +kernel
theorem zd7_65 : zD 7 65 (.iload_n 2) 1 66 = true := by decide +kernel
theorem zd7_66 : zDc 7 66 68 (Int32.ofNat 8) = true := by decide +kernel
theorem zd7_68 : zD 7 68 .iushr 1 69 = true := by decide +kernel
theorem zd7_69 : zDk 7 69 72 8 0 = true := by decide +kernel
theorem zd7_72 : zD 7 72 (.aload_n 0) 1 73 = true := by decide +kernel
theorem zd7_73 : zD 7 73 (.iload_n 2) 1 74 = true := by decide +kernel
theorem zd7_74 : zDk 7 74 77 8 0 = true := by decide +kernel
theorem zd7_77 : zDc 7 77 78 (Int32.ofNat 0) = true := by decide +kernel
theorem zd7_78 : zD 7 78 (.istore 4) 2 80 = true := by decide +kernel
theorem zd7_80 : zD 7 80 (.iload 4) 2 82 = true := by decide +kernel
theorem zd7_82 : zDc 7 82 84 (Int32.ofNat 32) = true := by decide +kernel
theorem zd7_84 : zDm 7 84 .ge 128 87 = true := by decide +kernel
theorem zd7_87 : zD 7 87 (.iload 4) 2 89 = true := by decide +kernel
theorem zd7_89 : zD 7 89 (.aload_n 1) 1 90 = true := by decide +kernel
theorem zd7_90 : zD 7 90 .arraylength 1 91 = true := by decide +kernel
theorem zd7_91 : zDm 7 91 .ge 128 94 = true := by decide +kernel
theorem zd7_94 : zD 7 94 (.aload_n 1) 1 95 = true := by decide +kernel
theorem zd7_95 : zD 7 95 (.iload 4) 2 97 = true := by decide +kernel
theorem zd7_97 : zD 7 97 (.aload_n 0) 1 98 = true := by decide +kernel
theorem zd7_98 : zDg 7 98 101 1 0 (.array .int) = true := by decide +kernel
theorem zd7_101 : zD 7 101 (.iload 4) 2 103 = true := by decide +kernel
theorem zd7_103 : zDc 7 103 104 (Int32.ofNat 2) = true := by decide +kernel
theorem zd7_104 : zD 7 104 .ishr 1 105 = true := by decide +kernel
theorem zd7_105 : zD 7 105 .iaload 1 106 = true := by decide +kernel
theorem zd7_106 : zDc 7 106 108 (Int32.ofNat 24) = true := by decide +kernel
theorem zd7_108 : zDc 7 108 110 (Int32.ofNat 8) = true := by decide +kernel
theorem zd7_110 : zD 7 110 (.iload 4) 2 112 = true := by decide +kernel
theorem zd7_112 : zDc 7 112 113 (Int32.ofNat 3) = true := by decide +kernel
theorem zd7_113 : zD 7 113 .iand 1 114 = true := by decide +kernel
theorem zd7_114 : zD 7 114 .imul 1 115 = true := by decide +kernel
theorem zd7_115 : zD 7 115 .isub 1 116 = true := by decide +kernel
theorem zd7_116 : zD 7 116 .iushr 1 117 = true := by decide +kernel
theorem zd7_117 : zDc 7 117 120 (Int32.ofNat 255) = true := by decide +kernel
theorem zd7_120 : zD 7 120 .iand 1 121 = true := by decide +kernel
theorem zd7_121 : zD 7 121 .iastore 1 122 = true := by decide +kernel
theorem zd7_122 : zDi 7 122 125 4 (Int32.ofNat 1) = true := by decide +kernel
theorem zd7_125 : zDj 7 125 80 = true := by decide +kernel
theorem zd7_128 : zD 7 128 .return_ 1 129 = true := by decide +kernel
theorem zd8_0 : zD 8 0 (.aload_n 0) 1 1 = true := by decide +kernel
theorem zd8_1 : zDg 8 1 4 1 2 (.int) = true := by decide +kernel
theorem zd8_4 : zDc 8 4 6 (Int32.ofNat 63) = true := by decide +kernel
theorem zd8_6 : zD 8 6 .iand 1 7 = true := by decide +kernel
theorem zd8_7 : zD 8 7 (.istore_n 2) 1 8 = true := by decide +kernel
theorem zd8_8 : zD 8 8 (.iload_n 2) 1 9 = true := by decide +kernel
theorem zd8_9 : zDc 8 9 10 (Int32.ofNat 2) = true := by decide +kernel
theorem zd8_10 : zD 8 10 .ishr 1 11 = true := by decide +kernel
theorem zd8_11 : zD 8 11 (.istore_n 3) 1 12 = true := by decide +kernel
theorem zd8_12 : zD 8 12 (.aload_n 0) 1 13 = true := by decide +kernel
theorem zd8_13 : zDg 8 13 16 1 1 (.array .int) = true := by decide +kernel
theorem zd8_16 : zD 8 16 (.iload_n 3) 1 17 = true := by decide +kernel
theorem zd8_17 : zD 8 17 (.aload_n 0) 1 18 = true := by decide +kernel
theorem zd8_18 : zDg 8 18 21 1 1 (.array .int) = true := by decide +kernel
theorem zd8_21 : zD 8 21 (.iload_n 3) 1 22 = true := by decide +kernel
theorem zd8_22 : zD 8 22 .iaload 1 23 = true := by decide +kernel
theorem zd8_23 : zDc 8 23 25 (Int32.ofNat 8) = true := by decide +kernel
theorem zd8_25 : zD 8 25 .ishl 1 26 = true := by decide +kernel
theorem zd8_26 : zD 8 26 (.iload_n 1) 1 27 = true := by decide +kernel
theorem zd8_27 : zDc 8 27 30 (Int32.ofNat 255) = true := by decide +kernel
theorem zd8_30 : zD 8 30 .iand 1 31 = true := by decide +kernel
theorem zd8_31 : zD 8 31 .ior 1 32 = true := by decide +kernel
theorem zd8_32 : zD 8 32 .iastore 1 33 = true := by decide +kernel
theorem zd8_33 : zD 8 33 (.aload_n 0) 1 34 = true := by decide +kernel
theorem zd8_34 : zD 8 34 .dup 1 35 = true := by decide +kernel
theorem zd8_35 : zDg 8 35 38 1 2 (.int) = true := by decide +kernel
theorem zd8_38 : zDc 8 38 39 (Int32.ofNat 1) = true := by decide +kernel
theorem zd8_39 : zD 8 39 .iadd 1 40 = true := by decide +kernel
theorem zd8_40 : zDp 8 40 43 1 2 (.int) = true := by decide +kernel
theorem zd8_43 : zD 8 43 (.iload_n 2) 1 44 = true := by decide +kernel
theorem zd8_44 : zDc 8 44 46 (Int32.ofNat 63) = true := by decide +kernel
theorem zd8_46 : zDm 8 46 .ne 57 49 = true := by decide +kernel
theorem zd8_49 : zD 8 49 (.aload_n 0) 1 50 = true := by decide +kernel
theorem zd8_50 : zDk 8 50 53 9 0 = true := by decide +kernel
theorem zd8_53 : zD 8 53 (.aload_n 0) 1 54 = true := by decide +kernel
theorem zd8_54 : zDk 8 54 57 11 0 = true := by decide +kernel
theorem zd8_57 : zD 8 57 .return_ 1 58 = true := by decide +kernel
theorem zd9_0 : zDc 9 0 2 (Int32.ofNat 16) = true := by decide +kernel
theorem zd9_2 : zD 9 2 (.istore_n 1) 1 3 = true := by decide +kernel
theorem zd9_3 : zD 9 3 (.iload_n 1) 1 4 = true := by decide +kernel
theorem zd9_4 : zD 9 4 (.aload_n 0) 1 5 = true := by decide +kernel
theorem zd9_5 : zDg 9 5 8 1 1 (.array .int) = true := by decide +kernel
theorem zd9_8 : zD 9 8 .arraylength 1 9 = true := by decide +kernel
theorem zd9_9 : zDm 9 9 .ge 107 12 = true := by decide +kernel
theorem zd9_12 : zD 9 12 (.aload_n 0) 1 13 = true := by decide +kernel
theorem zd9_13 : zDg 9 13 16 1 1 (.array .int) = true := by decide +kernel
theorem zd9_16 : zD 9 16 (.iload_n 1) 1 17 = true := by decide +kernel
theorem zd9_17 : zDc 9 17 19 (Int32.ofNat 15) = true := by decide +kernel
theorem zd9_19 : zD 9 19 .isub 1 20 = true := by decide +kernel
theorem zd9_20 : zD 9 20 .iaload 1 21 = true := by decide +kernel
theorem zd9_21 : zD 9 21 (.istore_n 2) 1 22 = true := by decide +kernel
theorem zd9_22 : zD 9 22 (.aload_n 0) 1 23 = true := by decide +kernel
theorem zd9_23 : zDg 9 23 26 1 1 (.array .int) = true := by decide +kernel
theorem zd9_26 : zD 9 26 (.iload_n 1) 1 27 = true := by decide +kernel
theorem zd9_27 : zDc 9 27 28 (Int32.ofNat 2) = true := by decide +kernel
theorem zd9_28 : zD 9 28 .isub 1 29 = true := by decide +kernel
theorem zd9_29 : zD 9 29 .iaload 1 30 = true := by decide +kernel
theorem zd9_30 : zD 9 30 (.istore_n 3) 1 31 = true := by decide +kernel
theorem zd9_31 : zD 9 31 (.iload_n 2) 1 32 = true := by decide +kernel
theorem zd9_32 : zDc 9 32 34 (Int32.ofNat 7) = true := by decide +kernel
theorem zd9_34 : zDk 9 34 37 10 2 = true := by decide +kernel
theorem zd9_37 : zD 9 37 (.iload_n 2) 1 38 = true := by decide +kernel
theorem zd9_38 : zDc 9 38 40 (Int32.ofNat 18) = true := by decide +kernel
theorem zd9_40 : zDk 9 40 43 10 2 = true := by decide +kernel
theorem zd9_43 : zD 9 43 .ixor 1 44 = true := by decide +kernel
theorem zd9_44 : zD 9 44 (.iload_n 2) 1 45 = true := by decide +kernel
theorem zd9_45 : zDc 9 45 46 (Int32.ofNat 3) = true := by decide +kernel
theorem zd9_46 : zD 9 46 .iushr 1 47 = true := by decide +kernel
theorem zd9_47 : zD 9 47 .ixor 1 48 = true := by decide +kernel
theorem zd9_48 : zD 9 48 (.istore 4) 2 50 = true := by decide +kernel
theorem zd9_50 : zD 9 50 (.iload_n 3) 1 51 = true := by decide +kernel
theorem zd9_51 : zDc 9 51 53 (Int32.ofNat 17) = true := by decide +kernel
theorem zd9_53 : zDk 9 53 56 10 2 = true := by decide +kernel
theorem zd9_56 : zD 9 56 (.iload_n 3) 1 57 = true := by decide +kernel
theorem zd9_57 : zDc 9 57 59 (Int32.ofNat 19) = true := by decide +kernel
theorem zd9_59 : zDk 9 59 62 10 2 = true := by decide +kernel
theorem zd9_62 : zD 9 62 .ixor 1 63 = true := by decide +kernel
theorem zd9_63 : zD 9 63 (.iload_n 3) 1 64 = true := by decide +kernel
theorem zd9_64 : zDc 9 64 66 (Int32.ofNat 10) = true := by decide +kernel
theorem zd9_66 : zD 9 66 .iushr 1 67 = true := by decide +kernel
theorem zd9_67 : zD 9 67 .ixor 1 68 = true := by decide +kernel
theorem zd9_68 : zD 9 68 (.istore 5) 2 70 = true := by decide +kernel
theorem zd9_70 : zD 9 70 (.aload_n 0) 1 71 = true := by decide +kernel
theorem zd9_71 : zDg 9 71 74 1 1 (.array .int) = true := by decide +kernel
theorem zd9_74 : zD 9 74 (.iload_n 1) 1 75 = true := by decide +kernel
theorem zd9_75 : zD 9 75 (.aload_n 0) 1 76 = true := by decide +kernel
theorem zd9_76 : zDg 9 76 79 1 1 (.array .int) = true := by decide +kernel
theorem zd9_79 : zD 9 79 (.iload_n 1) 1 80 = true := by decide +kernel
theorem zd9_80 : zDc 9 80 82 (Int32.ofNat 16) = true := by decide +kernel
theorem zd9_82 : zD 9 82 .isub 1 83 = true := by decide +kernel
theorem zd9_83 : zD 9 83 .iaload 1 84 = true := by decide +kernel
theorem zd9_84 : zD 9 84 (.iload 4) 2 86 = true := by decide +kernel
theorem zd9_86 : zD 9 86 .iadd 1 87 = true := by decide +kernel
theorem zd9_87 : zD 9 87 (.aload_n 0) 1 88 = true := by decide +kernel
theorem zd9_88 : zDg 9 88 91 1 1 (.array .int) = true := by decide +kernel
theorem zd9_91 : zD 9 91 (.iload_n 1) 1 92 = true := by decide +kernel
theorem zd9_92 : zDc 9 92 94 (Int32.ofNat 7) = true := by decide +kernel
theorem zd9_94 : zD 9 94 .isub 1 95 = true := by decide +kernel
theorem zd9_95 : zD 9 95 .iaload 1 96 = true := by decide +kernel
theorem zd9_96 : zD 9 96 .iadd 1 97 = true := by decide +kernel
theorem zd9_97 : zD 9 97 (.iload 5) 2 99 = true := by decide +kernel
theorem zd9_99 : zD 9 99 .iadd 1 100 = true := by decide +kernel
theorem zd9_100 : zD 9 100 .iastore 1 101 = true := by decide +kernel
theorem zd9_101 : zDi 9 101 104 1 (Int32.ofNat 1) = true := by decide +kernel
theorem zd9_104 : zDj 9 104 3 = true := by decide +kernel
theorem zd9_107 : zD 9 107 .return_ 1 108 = true := by decide +kernel
theorem zd10_0 : zD 10 0 (.iload_n 0) 1 1 = true := by decide +kernel
theorem zd10_1 : zD 10 1 (.iload_n 1) 1 2 = true := by decide +kernel
theorem zd10_2 : zD 10 2 .iushr 1 3 = true := by decide +kernel
theorem zd10_3 : zD 10 3 (.iload_n 0) 1 4 = true := by decide +kernel
theorem zd10_4 : zDc 10 4 6 (Int32.ofNat 32) = true := by decide +kernel
theorem zd10_6 : zD 10 6 (.iload_n 1) 1 7 = true := by decide +kernel
theorem zd10_7 : zD 10 7 .isub 1 8 = true := by decide +kernel
theorem zd10_8 : zD 10 8 .ishl 1 9 = true := by decide +kernel
theorem zd10_9 : zD 10 9 .ior 1 10 = true := by decide +kernel
theorem zd10_10 : zD 10 10 .ireturn 1 11 = true := by decide +kernel
theorem zd11_0 : zD 11 0 (.aload_n 0) 1 1 = true := by decide +kernel
theorem zd11_1 : zDg 11 1 4 1 0 (.array .int) = true := by decide +kernel
theorem zd11_4 : zDc 11 4 5 (Int32.ofNat 0) = true := by decide +kernel
theorem zd11_5 : zD 11 5 .iaload 1 6 = true := by decide +kernel
theorem zd11_6 : zD 11 6 (.istore_n 1) 1 7 = true := by decide +kernel
theorem zd11_7 : zD 11 7 (.aload_n 0) 1 8 = true := by decide +kernel
theorem zd11_8 : zDg 11 8 11 1 0 (.array .int) = true := by decide +kernel
theorem zd11_11 : zDc 11 11 12 (Int32.ofNat 1) = true := by decide +kernel
theorem zd11_12 : zD 11 12 .iaload 1 13 = true := by decide +kernel
theorem zd11_13 : zD 11 13 (.istore_n 2) 1 14 = true := by decide +kernel
theorem zd11_14 : zD 11 14 (.aload_n 0) 1 15 = true := by decide +kernel
theorem zd11_15 : zDg 11 15 18 1 0 (.array .int) = true := by decide +kernel
theorem zd11_18 : zDc 11 18 19 (Int32.ofNat 2) = true := by decide +kernel
theorem zd11_19 : zD 11 19 .iaload 1 20 = true := by decide +kernel
theorem zd11_20 : zD 11 20 (.istore_n 3) 1 21 = true := by decide +kernel
theorem zd11_21 : zD 11 21 (.aload_n 0) 1 22 = true := by decide +kernel
theorem zd11_22 : zDg 11 22 25 1 0 (.array .int) = true := by decide +kernel
theorem zd11_25 : zDc 11 25 26 (Int32.ofNat 3) = true := by decide +kernel
theorem zd11_26 : zD 11 26 .iaload 1 27 = true := by decide +kernel
theorem zd11_27 : zD 11 27 (.istore 4) 2 29 = true := by decide +kernel
theorem zd11_29 : zD 11 29 (.aload_n 0) 1 30 = true := by decide +kernel
theorem zd11_30 : zDg 11 30 33 1 0 (.array .int) = true := by decide +kernel
theorem zd11_33 : zDc 11 33 34 (Int32.ofNat 4) = true := by decide +kernel
theorem zd11_34 : zD 11 34 .iaload 1 35 = true := by decide +kernel
theorem zd11_35 : zD 11 35 (.istore 5) 2 37 = true := by decide +kernel
theorem zd11_37 : zD 11 37 (.aload_n 0) 1 38 = true := by decide +kernel
theorem zd11_38 : zDg 11 38 41 1 0 (.array .int) = true := by decide +kernel
theorem zd11_41 : zDc 11 41 42 (Int32.ofNat 5) = true := by decide +kernel
theorem zd11_42 : zD 11 42 .iaload 1 43 = true := by decide +kernel
theorem zd11_43 : zD 11 43 (.istore 6) 2 45 = true := by decide +kernel
theorem zd11_45 : zD 11 45 (.aload_n 0) 1 46 = true := by decide +kernel
theorem zd11_46 : zDg 11 46 49 1 0 (.array .int) = true := by decide +kernel
theorem zd11_49 : zDc 11 49 51 (Int32.ofNat 6) = true := by decide +kernel
theorem zd11_51 : zD 11 51 .iaload 1 52 = true := by decide +kernel
theorem zd11_52 : zD 11 52 (.istore 7) 2 54 = true := by decide +kernel
theorem zd11_54 : zD 11 54 (.aload_n 0) 1 55 = true := by decide +kernel
theorem zd11_55 : zDg 11 55 58 1 0 (.array .int) = true := by decide +kernel
theorem zd11_58 : zDc 11 58 60 (Int32.ofNat 7) = true := by decide +kernel
theorem zd11_60 : zD 11 60 .iaload 1 61 = true := by decide +kernel
theorem zd11_61 : zD 11 61 (.istore 8) 2 63 = true := by decide +kernel
theorem zd11_63 : zDc 11 63 64 (Int32.ofNat 0) = true := by decide +kernel
theorem zd11_64 : zD 11 64 (.istore 9) 2 66 = true := by decide +kernel
theorem zd11_66 : zD 11 66 (.iload 9) 2 68 = true := by decide +kernel
theorem zd11_68 : zDs 11 68 71 2 = true := by decide +kernel
theorem zd11_71 : zD 11 71 .arraylength 1 72 = true := by decide +kernel
theorem zd11_72 : zDm 11 72 .ge 215 75 = true := by decide +kernel
theorem zd11_75 : zD 11 75 (.iload 5) 2 77 = true := by decide +kernel
theorem zd11_77 : zDc 11 77 79 (Int32.ofNat 6) = true := by decide +kernel
theorem zd11_79 : zDk 11 79 82 10 2 = true := by decide +kernel
theorem zd11_82 : zD 11 82 (.iload 5) 2 84 = true := by decide +kernel
theorem zd11_84 : zDc 11 84 86 (Int32.ofNat 11) = true := by decide +kernel
theorem zd11_86 : zDk 11 86 89 10 2 = true := by decide +kernel
theorem zd11_89 : zD 11 89 .ixor 1 90 = true := by decide +kernel
theorem zd11_90 : zD 11 90 (.iload 5) 2 92 = true := by decide +kernel
theorem zd11_92 : zDc 11 92 94 (Int32.ofNat 25) = true := by decide +kernel
theorem zd11_94 : zDk 11 94 97 10 2 = true := by decide +kernel
theorem zd11_97 : zD 11 97 .ixor 1 98 = true := by decide +kernel
theorem zd11_98 : zD 11 98 (.istore 10) 2 100 = true := by decide +kernel
theorem zd11_100 : zD 11 100 (.iload 5) 2 102 = true := by decide +kernel
theorem zd11_102 : zD 11 102 (.iload 6) 2 104 = true := by decide +kernel
theorem zd11_104 : zD 11 104 .iand 1 105 = true := by decide +kernel
theorem zd11_105 : zD 11 105 (.iload 5) 2 107 = true := by decide +kernel
theorem zd11_107 : zDc 11 107 108 (-1) = true := by decide +kernel
theorem zd11_108 : zD 11 108 .ixor 1 109 = true := by decide +kernel
theorem zd11_109 : zD 11 109 (.iload 7) 2 111 = true := by decide +kernel
theorem zd11_111 : zD 11 111 .iand 1 112 = true := by decide +kernel
theorem zd11_112 : zD 11 112 .ixor 1 113 = true := by decide +kernel
theorem zd11_113 : zD 11 113 (.istore 11) 2 115 = true := by decide +kernel
theorem zd11_115 : zD 11 115 (.iload 8) 2 117 = true := by decide +kernel
theorem zd11_117 : zD 11 117 (.iload 10) 2 119 = true := by decide +kernel
theorem zd11_119 : zD 11 119 .iadd 1 120 = true := by decide +kernel
theorem zd11_120 : zD 11 120 (.iload 11) 2 122 = true := by decide +kernel
theorem zd11_122 : zD 11 122 .iadd 1 123 = true := by decide +kernel
theorem zd11_123 : zDs 11 123 126 2 = true := by decide +kernel
theorem zd11_126 : zD 11 126 (.iload 9) 2 128 = true := by decide +kernel
theorem zd11_128 : zD 11 128 .iaload 1 129 = true := by decide +kernel
theorem zd11_129 : zD 11 129 .iadd 1 130 = true := by decide +kernel
theorem zd11_130 : zD 11 130 (.aload_n 0) 1 131 = true := by decide +kernel
theorem zd11_131 : zDg 11 131 134 1 1 (.array .int) = true := by decide +kernel
theorem zd11_134 : zD 11 134 (.iload 9) 2 136 = true := by decide +kernel
theorem zd11_136 : zD 11 136 .iaload 1 137 = true := by decide +kernel
theorem zd11_137 : zD 11 137 .iadd 1 138 = true := by decide +kernel
theorem zd11_138 : zD 11 138 (.istore 12) 2 140 = true := by decide +kernel
theorem zd11_140 : zD 11 140 (.iload_n 1) 1 141 = true := by decide +kernel
theorem zd11_141 : zDc 11 141 142 (Int32.ofNat 2) = true := by decide +kernel
theorem zd11_142 : zDk 11 142 145 10 2 = true := by decide +kernel
theorem zd11_145 : zD 11 145 (.iload_n 1) 1 146 = true := by decide +kernel
theorem zd11_146 : zDc 11 146 148 (Int32.ofNat 13) = true := by decide +kernel
theorem zd11_148 : zDk 11 148 151 10 2 = true := by decide +kernel
theorem zd11_151 : zD 11 151 .ixor 1 152 = true := by decide +kernel
theorem zd11_152 : zD 11 152 (.iload_n 1) 1 153 = true := by decide +kernel
theorem zd11_153 : zDc 11 153 155 (Int32.ofNat 22) = true := by decide +kernel
theorem zd11_155 : zDk 11 155 158 10 2 = true := by decide +kernel
theorem zd11_158 : zD 11 158 .ixor 1 159 = true := by decide +kernel
theorem zd11_159 : zD 11 159 (.istore 13) 2 161 = true := by decide +kernel
theorem zd11_161 : zD 11 161 (.iload_n 1) 1 162 = true := by decide +kernel
theorem zd11_162 : zD 11 162 (.iload_n 2) 1 163 = true := by decide +kernel
theorem zd11_163 : zD 11 163 .iand 1 164 = true := by decide +kernel
theorem zd11_164 : zD 11 164 (.iload_n 1) 1 165 = true := by decide +kernel
theorem zd11_165 : zD 11 165 (.iload_n 3) 1 166 = true := by decide +kernel
theorem zd11_166 : zD 11 166 .iand 1 167 = true := by decide +kernel
theorem zd11_167 : zD 11 167 .ixor 1 168 = true := by decide +kernel
theorem zd11_168 : zD 11 168 (.iload_n 2) 1 169 = true := by decide +kernel
theorem zd11_169 : zD 11 169 (.iload_n 3) 1 170 = true := by decide +kernel
theorem zd11_170 : zD 11 170 .iand 1 171 = true := by decide +kernel
theorem zd11_171 : zD 11 171 .ixor 1 172 = true := by decide +kernel
theorem zd11_172 : zD 11 172 (.istore 14) 2 174 = true := by decide +kernel
theorem zd11_174 : zD 11 174 (.iload 7) 2 176 = true := by decide +kernel
theorem zd11_176 : zD 11 176 (.istore 8) 2 178 = true := by decide +kernel
theorem zd11_178 : zD 11 178 (.iload 6) 2 180 = true := by decide +kernel
theorem zd11_180 : zD 11 180 (.istore 7) 2 182 = true := by decide +kernel
theorem zd11_182 : zD 11 182 (.iload 5) 2 184 = true := by decide +kernel
theorem zd11_184 : zD 11 184 (.istore 6) 2 186 = true := by decide +kernel
theorem zd11_186 : zD 11 186 (.iload 4) 2 188 = true := by decide +kernel
theorem zd11_188 : zD 11 188 (.iload 12) 2 190 = true := by decide +kernel
theorem zd11_190 : zD 11 190 .iadd 1 191 = true := by decide +kernel
theorem zd11_191 : zD 11 191 (.istore 5) 2 193 = true := by decide +kernel
theorem zd11_193 : zD 11 193 (.iload_n 3) 1 194 = true := by decide +kernel
theorem zd11_194 : zD 11 194 (.istore 4) 2 196 = true := by decide +kernel
theorem zd11_196 : zD 11 196 (.iload_n 2) 1 197 = true := by decide +kernel
theorem zd11_197 : zD 11 197 (.istore_n 3) 1 198 = true := by decide +kernel
theorem zd11_198 : zD 11 198 (.iload_n 1) 1 199 = true := by decide +kernel
theorem zd11_199 : zD 11 199 (.istore_n 2) 1 200 = true := by decide +kernel
theorem zd11_200 : zD 11 200 (.iload 12) 2 202 = true := by decide +kernel
theorem zd11_202 : zD 11 202 (.iload 13) 2 204 = true := by decide +kernel
theorem zd11_204 : zD 11 204 .iadd 1 205 = true := by decide +kernel
theorem zd11_205 : zD 11 205 (.iload 14) 2 207 = true := by decide +kernel
theorem zd11_207 : zD 11 207 .iadd 1 208 = true := by decide +kernel
theorem zd11_208 : zD 11 208 (.istore_n 1) 1 209 = true := by decide +kernel
theorem zd11_209 : zDi 11 209 212 9 (Int32.ofNat 1) = true := by decide +kernel
theorem zd11_212 : zDj 11 212 66 = true := by decide +kernel
theorem zd11_215 : zD 11 215 (.aload_n 0) 1 216 = true := by decide +kernel
theorem zd11_216 : zDg 11 216 219 1 0 (.array .int) = true := by decide +kernel
theorem zd11_219 : zDc 11 219 220 (Int32.ofNat 0) = true := by decide +kernel
theorem zd11_220 : zD 11 220 .dup2 1 221 = true := by decide +kernel
theorem zd11_221 : zD 11 221 .iaload 1 222 = true := by decide +kernel
theorem zd11_222 : zD 11 222 (.iload_n 1) 1 223 = true := by decide +kernel
theorem zd11_223 : zD 11 223 .iadd 1 224 = true := by decide +kernel
theorem zd11_224 : zD 11 224 .iastore 1 225 = true := by decide +kernel
theorem zd11_225 : zD 11 225 (.aload_n 0) 1 226 = true := by decide +kernel
theorem zd11_226 : zDg 11 226 229 1 0 (.array .int) = true := by decide +kernel
theorem zd11_229 : zDc 11 229 230 (Int32.ofNat 1) = true := by decide +kernel
theorem zd11_230 : zD 11 230 .dup2 1 231 = true := by decide +kernel
theorem zd11_231 : zD 11 231 .iaload 1 232 = true := by decide +kernel
theorem zd11_232 : zD 11 232 (.iload_n 2) 1 233 = true := by decide +kernel
theorem zd11_233 : zD 11 233 .iadd 1 234 = true := by decide +kernel
theorem zd11_234 : zD 11 234 .iastore 1 235 = true := by decide +kernel
theorem zd11_235 : zD 11 235 (.aload_n 0) 1 236 = true := by decide +kernel
theorem zd11_236 : zDg 11 236 239 1 0 (.array .int) = true := by decide +kernel
theorem zd11_239 : zDc 11 239 240 (Int32.ofNat 2) = true := by decide +kernel
theorem zd11_240 : zD 11 240 .dup2 1 241 = true := by decide +kernel
theorem zd11_241 : zD 11 241 .iaload 1 242 = true := by decide +kernel
theorem zd11_242 : zD 11 242 (.iload_n 3) 1 243 = true := by decide +kernel
theorem zd11_243 : zD 11 243 .iadd 1 244 = true := by decide +kernel
theorem zd11_244 : zD 11 244 .iastore 1 245 = true := by decide +kernel
theorem zd11_245 : zD 11 245 (.aload_n 0) 1 246 = true := by decide +kernel
theorem zd11_246 : zDg 11 246 249 1 0 (.array .int) = true := by decide +kernel
theorem zd11_249 : zDc 11 249 250 (Int32.ofNat 3) = true := by decide +kernel
theorem zd11_250 : zD 11 250 .dup2 1 251 = true := by decide +kernel
theorem zd11_251 : zD 11 251 .iaload 1 252 = true := by decide +kernel
theorem zd11_252 : zD 11 252 (.iload 4) 2 254 = true := by decide +kernel
theorem zd11_254 : zD 11 254 .iadd 1 255 = true := by decide +kernel
theorem zd11_255 : zD 11 255 .iastore 1 256 = true := by decide +kernel
theorem zd11_256 : zD 11 256 (.aload_n 0) 1 257 = true := by decide +kernel
theorem zd11_257 : zDg 11 257 260 1 0 (.array .int) = true := by decide +kernel
theorem zd11_260 : zDc 11 260 261 (Int32.ofNat 4) = true := by decide +kernel
theorem zd11_261 : zD 11 261 .dup2 1 262 = true := by decide +kernel
theorem zd11_262 : zD 11 262 .iaload 1 263 = true := by decide +kernel
theorem zd11_263 : zD 11 263 (.iload 5) 2 265 = true := by decide +kernel
theorem zd11_265 : zD 11 265 .iadd 1 266 = true := by decide +kernel
theorem zd11_266 : zD 11 266 .iastore 1 267 = true := by decide +kernel
theorem zd11_267 : zD 11 267 (.aload_n 0) 1 268 = true := by decide +kernel
theorem zd11_268 : zDg 11 268 271 1 0 (.array .int) = true := by decide +kernel
theorem zd11_271 : zDc 11 271 272 (Int32.ofNat 5) = true := by decide +kernel
theorem zd11_272 : zD 11 272 .dup2 1 273 = true := by decide +kernel
theorem zd11_273 : zD 11 273 .iaload 1 274 = true := by decide +kernel
theorem zd11_274 : zD 11 274 (.iload 6) 2 276 = true := by decide +kernel
theorem zd11_276 : zD 11 276 .iadd 1 277 = true := by decide +kernel
theorem zd11_277 : zD 11 277 .iastore 1 278 = true := by decide +kernel
theorem zd11_278 : zD 11 278 (.aload_n 0) 1 279 = true := by decide +kernel
theorem zd11_279 : zDg 11 279 282 1 0 (.array .int) = true := by decide +kernel
theorem zd11_282 : zDc 11 282 284 (Int32.ofNat 6) = true := by decide +kernel
theorem zd11_284 : zD 11 284 .dup2 1 285 = true := by decide +kernel
theorem zd11_285 : zD 11 285 .iaload 1 286 = true := by decide +kernel
theorem zd11_286 : zD 11 286 (.iload 7) 2 288 = true := by decide +kernel
theorem zd11_288 : zD 11 288 .iadd 1 289 = true := by decide +kernel
theorem zd11_289 : zD 11 289 .iastore 1 290 = true := by decide +kernel
theorem zd11_290 : zD 11 290 (.aload_n 0) 1 291 = true := by decide +kernel
theorem zd11_291 : zDg 11 291 294 1 0 (.array .int) = true := by decide +kernel
theorem zd11_294 : zDc 11 294 296 (Int32.ofNat 7) = true := by decide +kernel
theorem zd11_296 : zD 11 296 .dup2 1 297 = true := by decide +kernel
theorem zd11_297 : zD 11 297 .iaload 1 298 = true := by decide +kernel
theorem zd11_298 : zD 11 298 (.iload 8) 2 300 = true := by decide +kernel
theorem zd11_300 : zD 11 300 .iadd 1 301 = true := by decide +kernel
theorem zd11_301 : zD 11 301 .iastore 1 302 = true := by decide +kernel
theorem zd11_302 : zD 11 302 .return_ 1 303 = true := by decide +kernel
theorem zd12_0 : zD 12 0 (.aload_n 0) 1 1 = true := by decide +kernel
theorem zd12_1 : zDo 12 1 4 = true := by decide +kernel
theorem zd12_4 : zD 12 4 (.aload_n 0) 1 5 = true := by decide +kernel
theorem zd12_5 : zDc 12 5 7 (Int32.ofNat 100) = true := by decide +kernel
theorem zd12_7 : zD 12 7 (.newarray .int) 2 9 = true := by decide +kernel
theorem zd12_9 : zDp 12 9 12 5 0 (.array .int) = true := by decide +kernel
theorem zd12_12 : zD 12 12 (.aload_n 0) 1 13 = true := by decide +kernel
theorem zd12_13 : zDc 12 13 15 (Int32.ofNat 100) = true := by decide +kernel
theorem zd12_15 : zD 12 15 (.newarray .int) 2 17 = true := by decide +kernel
theorem zd12_17 : zDp 12 17 20 5 1 (.array .int) = true := by decide +kernel
theorem zd12_20 : zD 12 20 (.aload_n 0) 1 21 = true := by decide +kernel
theorem zd12_21 : zDc 12 21 23 (Int32.ofNat 100) = true := by decide +kernel
theorem zd12_23 : zD 12 23 (.newarray .int) 2 25 = true := by decide +kernel
theorem zd12_25 : zDp 12 25 28 5 2 (.array .int) = true := by decide +kernel
theorem zd12_28 : zD 12 28 (.aload_n 0) 1 29 = true := by decide +kernel
theorem zd12_29 : zDc 12 29 31 (Int32.ofNat 100) = true := by decide +kernel
theorem zd12_31 : zD 12 31 (.newarray .int) 2 33 = true := by decide +kernel
theorem zd12_33 : zDp 12 33 36 5 3 (.array .int) = true := by decide +kernel
theorem zd12_36 : zD 12 36 .return_ 1 37 = true := by decide +kernel
theorem zd13_0 : zD 13 0 (.aload_n 0) 1 1 = true := by decide +kernel
theorem zd13_1 : zDo 13 1 4 = true := by decide +kernel
theorem zd13_4 : zD 13 4 (.aload_n 0) 1 5 = true := by decide +kernel
theorem zd13_5 : zDc 13 5 8 (Int32.ofNat 300) = true := by decide +kernel
theorem zd13_8 : zD 13 8 (.newarray .int) 2 10 = true := by decide +kernel
theorem zd13_10 : zDp 13 10 13 6 0 (.array .int) = true := by decide +kernel
theorem zd13_13 : zD 13 13 .return_ 1 14 = true := by decide +kernel
theorem zd14_0 : zD 14 0 (.aload_n 0) 1 1 = true := by decide +kernel
theorem zd14_1 : zDg 14 1 4 0 2 (.int) = true := by decide +kernel
theorem zd14_4 : zDc 14 4 6 (Int32.ofNat 10) = true := by decide +kernel
theorem zd14_6 : zDm 14 6 .lt 11 9 = true := by decide +kernel
theorem zd14_9 : zDc 14 9 10 (-1) = true := by decide +kernel
theorem zd14_10 : zD 14 10 .ireturn 1 11 = true := by decide +kernel
theorem zd14_11 : zD 14 11 (.aload_n 0) 1 12 = true := by decide +kernel
theorem zd14_12 : zDg 14 12 15 0 2 (.int) = true := by decide +kernel
theorem zd14_15 : zD 14 15 (.istore_n 1) 1 16 = true := by decide +kernel
theorem zd14_16 : zD 14 16 (.aload_n 0) 1 17 = true := by decide +kernel
theorem zd14_17 : zDg 14 17 20 0 1 (.array (.object "ReleaseLeaves$Release")) = true := by decide +kernel
theorem zd14_20 : zD 14 20 (.iload_n 1) 1 21 = true := by decide +kernel
theorem zd14_21 : zD 14 21 .aaload 1 22 = true := by decide +kernel
theorem zd14_22 : zD 14 22 (.astore_n 2) 1 23 = true := by decide +kernel
theorem zd14_23 : zD 14 23 (.aload_n 2) 1 24 = true := by decide +kernel
theorem zd14_24 : zDk 14 24 27 15 0 = true := by decide +kernel
theorem zd14_27 : zD 14 27 (.aload_n 2) 1 28 = true := by decide +kernel
theorem zd14_28 : zDg 14 28 31 2 2 (.object "ReleaseLeaves$Tree") = true := by decide +kernel
theorem zd14_31 : zD 14 31 (.aload_n 2) 1 32 = true := by decide +kernel
theorem zd14_32 : zDg 14 32 35 2 0 (.array (.object "ReleaseLeaves$StoredFile")) = true := by decide +kernel
theorem zd14_35 : zD 14 35 (.aload_n 2) 1 36 = true := by decide +kernel
theorem zd14_36 : zDg 14 36 39 2 1 (.int) = true := by decide +kernel
theorem zd14_39 : zD 14 39 (.aload_n 0) 1 40 = true := by decide +kernel
theorem zd14_40 : zDg 14 40 43 0 0 (.object "ReleaseLeaves$Digester") = true := by decide +kernel
theorem zd14_43 : zDk 14 43 46 16 0 = true := by decide +kernel
theorem zd14_46 : zD 14 46 (.aload_n 0) 1 47 = true := by decide +kernel
theorem zd14_47 : zDg 14 47 50 0 0 (.object "ReleaseLeaves$Digester") = true := by decide +kernel
theorem zd14_50 : zDk 14 50 53 6 0 = true := by decide +kernel
theorem zd14_53 : zD 14 53 (.aload_n 0) 1 54 = true := by decide +kernel
theorem zd14_54 : zDg 14 54 57 0 0 (.object "ReleaseLeaves$Digester") = true := by decide +kernel
theorem zd14_57 : zD 14 57 (.aload_n 0) 1 58 = true := by decide +kernel
theorem zd14_58 : zDg 14 58 61 0 3 (.array (.array .int)) = true := by decide +kernel
theorem zd14_61 : zD 14 61 (.iload_n 1) 1 62 = true := by decide +kernel
theorem zd14_62 : zD 14 62 .aaload 1 63 = true := by decide +kernel
theorem zd14_63 : zDk 14 63 66 21 0 = true := by decide +kernel
theorem zd14_66 : zD 14 66 (.aload_n 0) 1 67 = true := by decide +kernel
theorem zd14_67 : zDg 14 67 70 0 0 (.object "ReleaseLeaves$Digester") = true := by decide +kernel
theorem zd14_70 : zD 14 70 (.aload_n 2) 1 71 = true := by decide +kernel
theorem zd14_71 : zDg 14 71 74 2 2 (.object "ReleaseLeaves$Tree") = true := by decide +kernel
theorem zd14_74 : zDk 14 74 77 22 0 = true := by decide +kernel
theorem zd14_77 : zDk 14 77 80 21 0 = true := by decide +kernel
theorem zd14_80 : zD 14 80 (.aload_n 0) 1 81 = true := by decide +kernel
theorem zd14_81 : zDg 14 81 84 0 0 (.object "ReleaseLeaves$Digester") = true := by decide +kernel
theorem zd14_84 : zD 14 84 (.aload_n 0) 1 85 = true := by decide +kernel
theorem zd14_85 : zDg 14 85 88 0 3 (.array (.array .int)) = true := by decide +kernel
theorem zd14_88 : zD 14 88 (.iload_n 1) 1 89 = true := by decide +kernel
theorem zd14_89 : zDc 14 89 90 (Int32.ofNat 1) = true := by decide +kernel
theorem zd14_90 : zD 14 90 .iadd 1 91 = true := by decide +kernel
theorem zd14_91 : zD 14 91 .aaload 1 92 = true := by decide +kernel
theorem zd14_92 : zDk 14 92 95 7 0 = true := by decide +kernel
theorem zd14_95 : zD 14 95 (.aload_n 0) 1 96 = true := by decide +kernel
theorem zd14_96 : zD 14 96 (.iload_n 1) 1 97 = true := by decide +kernel
theorem zd14_97 : zDc 14 97 98 (Int32.ofNat 1) = true := by decide +kernel
theorem zd14_98 : zD 14 98 .iadd 1 99 = true := by decide +kernel
theorem zd14_99 : zDp 14 99 102 0 2 (.int) = true := by decide +kernel
theorem zd14_102 : zD 14 102 (.iload_n 1) 1 103 = true := by decide +kernel
theorem zd14_103 : zD 14 103 .ireturn 1 104 = true := by decide +kernel
theorem zd15_0 : zDc 15 0 1 (Int32.ofNat 1) = true := by decide +kernel
theorem zd15_1 : zD 15 1 (.istore_n 1) 1 2 = true := by decide +kernel
theorem zd15_2 : zD 15 2 (.iload_n 1) 1 3 = true := by decide +kernel
theorem zd15_3 : zD 15 3 (.aload_n 0) 1 4 = true := by decide +kernel
theorem zd15_4 : zDg 15 4 7 2 1 (.int) = true := by decide +kernel
theorem zd15_7 : zDm 15 7 .ge 74 10 = true := by decide +kernel
theorem zd15_10 : zD 15 10 (.aload_n 0) 1 11 = true := by decide +kernel
theorem zd15_11 : zDg 15 11 14 2 0 (.array (.object "ReleaseLeaves$StoredFile")) = true := by decide +kernel
theorem zd15_14 : zD 15 14 (.iload_n 1) 1 15 = true := by decide +kernel
theorem zd15_15 : zD 15 15 .aaload 1 16 = true := by decide +kernel
theorem zd15_16 : zD 15 16 (.astore_n 2) 1 17 = true := by decide +kernel
theorem zd15_17 : zD 15 17 (.iload_n 1) 1 18 = true := by decide +kernel
theorem zd15_18 : zD 15 18 (.istore_n 3) 1 19 = true := by decide +kernel
theorem zd15_19 : zD 15 19 (.iload_n 3) 1 20 = true := by decide +kernel
theorem zd15_20 : zDf 15 20 .le 61 23 = true := by decide +kernel
theorem zd15_23 : zD 15 23 (.aload_n 0) 1 24 = true := by decide +kernel
theorem zd15_24 : zDg 15 24 27 2 0 (.array (.object "ReleaseLeaves$StoredFile")) = true := by decide +kernel
theorem zd15_27 : zD 15 27 (.iload_n 3) 1 28 = true := by decide +kernel
theorem zd15_28 : zDc 15 28 29 (Int32.ofNat 1) = true := by decide +kernel
theorem zd15_29 : zD 15 29 .isub 1 30 = true := by decide +kernel
theorem zd15_30 : zD 15 30 .aaload 1 31 = true := by decide +kernel
theorem zd15_31 : zDg 15 31 34 4 0 (.int) = true := by decide +kernel
theorem zd15_34 : zD 15 34 (.aload_n 2) 1 35 = true := by decide +kernel
theorem zd15_35 : zDg 15 35 38 4 0 (.int) = true := by decide +kernel
theorem zd15_38 : zDm 15 38 .le 61 41 = true := by decide +kernel
theorem zd15_41 : zD 15 41 (.aload_n 0) 1 42 = true := by decide +kernel
theorem zd15_42 : zDg 15 42 45 2 0 (.array (.object "ReleaseLeaves$StoredFile")) = true := by decide +kernel
theorem zd15_45 : zD 15 45 (.iload_n 3) 1 46 = true := by decide +kernel
theorem zd15_46 : zD 15 46 (.aload_n 0) 1 47 = true := by decide +kernel
theorem zd15_47 : zDg 15 47 50 2 0 (.array (.object "ReleaseLeaves$StoredFile")) = true := by decide +kernel
theorem zd15_50 : zD 15 50 (.iload_n 3) 1 51 = true := by decide +kernel
theorem zd15_51 : zDc 15 51 52 (Int32.ofNat 1) = true := by decide +kernel
theorem zd15_52 : zD 15 52 .isub 1 53 = true := by decide +kernel
theorem zd15_53 : zD 15 53 .aaload 1 54 = true := by decide +kernel
theorem zd15_54 : zD 15 54 .aastore 1 55 = true := by decide +kernel
theorem zd15_55 : zDi 15 55 58 3 (-(Int32.ofNat 1)) = true := by decide +kernel
theorem zd15_58 : zDj 15 58 19 = true := by decide +kernel
theorem zd15_61 : zD 15 61 (.aload_n 0) 1 62 = true := by decide +kernel
theorem zd15_62 : zDg 15 62 65 2 0 (.array (.object "ReleaseLeaves$StoredFile")) = true := by decide +kernel
theorem zd15_65 : zD 15 65 (.iload_n 3) 1 66 = true := by decide +kernel
theorem zd15_66 : zD 15 66 (.aload_n 2) 1 67 = true := by decide +kernel
theorem zd15_67 : zD 15 67 .aastore 1 68 = true := by decide +kernel
theorem zd15_68 : zDi 15 68 71 1 (Int32.ofNat 1) = true := by decide +kernel
theorem zd15_71 : zDj 15 71 2 = true := by decide +kernel
theorem zd15_74 : zD 15 74 .return_ 1 75 = true := by decide +kernel
theorem zd16_0 : zD 16 0 (.aload_n 3) 1 1 = true := by decide +kernel
theorem zd16_1 : zDk 16 1 4 6 0 = true := by decide +kernel
theorem zd16_4 : zD 16 4 (.aload_n 3) 1 5 = true := by decide +kernel
theorem zd16_5 : zD 16 5 (.aload_n 0) 1 6 = true := by decide +kernel
theorem zd16_6 : zDc 16 6 7 (Int32.ofNat 0) = true := by decide +kernel
theorem zd16_7 : zDc 16 7 8 (Int32.ofNat 0) = true := by decide +kernel
theorem zd16_8 : zDk 16 8 11 17 0 = true := by decide +kernel
theorem zd16_11 : zDk 16 11 14 7 0 = true := by decide +kernel
theorem zd16_14 : zDc 16 14 15 (Int32.ofNat 0) = true := by decide +kernel
theorem zd16_15 : zD 16 15 (.istore 4) 2 17 = true := by decide +kernel
theorem zd16_17 : zD 16 17 (.iload 4) 2 19 = true := by decide +kernel
theorem zd16_19 : zD 16 19 (.iload_n 2) 1 20 = true := by decide +kernel
theorem zd16_20 : zDm 16 20 .ge 44 23 = true := by decide +kernel
theorem zd16_23 : zD 16 23 (.aload_n 1) 1 24 = true := by decide +kernel
theorem zd16_24 : zD 16 24 (.iload 4) 2 26 = true := by decide +kernel
theorem zd16_26 : zD 16 26 .aaload 1 27 = true := by decide +kernel
theorem zd16_27 : zD 16 27 (.aload_n 3) 1 28 = true := by decide +kernel
theorem zd16_28 : zD 16 28 (.aload_n 0) 1 29 = true := by decide +kernel
theorem zd16_29 : zDc 16 29 30 (Int32.ofNat 0) = true := by decide +kernel
theorem zd16_30 : zD 16 30 (.iload 4) 2 32 = true := by decide +kernel
theorem zd16_32 : zDk 16 32 35 17 0 = true := by decide +kernel
theorem zd16_35 : zDk 16 35 38 18 0 = true := by decide +kernel
theorem zd16_38 : zDi 16 38 41 4 (Int32.ofNat 1) = true := by decide +kernel
theorem zd16_41 : zDj 16 41 17 = true := by decide +kernel
theorem zd16_44 : zD 16 44 (.aload_n 0) 1 45 = true := by decide +kernel
theorem zd16_45 : zDg 16 45 48 3 1 (.array .int) = true := by decide +kernel
theorem zd16_48 : zDc 16 48 49 (Int32.ofNat 0) = true := by decide +kernel
theorem zd16_49 : zD 16 49 (.iload_n 2) 1 50 = true := by decide +kernel
theorem zd16_50 : zD 16 50 .iastore 1 51 = true := by decide +kernel
theorem zd16_51 : zDc 16 51 52 (Int32.ofNat 0) = true := by decide +kernel
theorem zd16_52 : zD 16 52 (.istore 4) 2 54 = true := by decide +kernel
theorem zd16_54 : zD 16 54 (.iload 4) 2 56 = true := by decide +kernel
theorem zd16_56 : zDc 16 56 57 (Int32.ofNat 1) = true := by decide +kernel
theorem zd16_57 : zD 16 57 .iadd 1 58 = true := by decide +kernel
theorem zd16_58 : zDc 16 58 59 (Int32.ofNat 4) = true := by decide +kernel
theorem zd16_59 : zDm 16 59 .ge 94 62 = true := by decide +kernel
theorem zd16_62 : zD 16 62 (.aload_n 0) 1 63 = true := by decide +kernel
theorem zd16_63 : zDg 16 63 66 3 1 (.array .int) = true := by decide +kernel
theorem zd16_66 : zD 16 66 (.iload 4) 2 68 = true := by decide +kernel
theorem zd16_68 : zD 16 68 .iaload 1 69 = true := by decide +kernel
theorem zd16_69 : zDc 16 69 70 (Int32.ofNat 1) = true := by decide +kernel
theorem zd16_70 : zDm 16 70 .le 94 73 = true := by decide +kernel
theorem zd16_73 : zD 16 73 (.aload_n 0) 1 74 = true := by decide +kernel
theorem zd16_74 : zD 16 74 (.iload 4) 2 76 = true := by decide +kernel
theorem zd16_76 : zD 16 76 (.aload_n 3) 1 77 = true := by decide +kernel
theorem zd16_77 : zDk 16 77 80 20 0 = true := by decide +kernel
theorem zd16_80 : zD 16 80 (.aload_n 0) 1 81 = true := by decide +kernel
theorem zd16_81 : zD 16 81 (.iload 4) 2 83 = true := by decide +kernel
theorem zd16_83 : zDc 16 83 84 (Int32.ofNat 1) = true := by decide +kernel
theorem zd16_84 : zD 16 84 .iadd 1 85 = true := by decide +kernel
theorem zd16_85 : zDp 16 85 88 3 2 (.int) = true := by decide +kernel
theorem zd16_88 : zDi 16 88 91 4 (Int32.ofNat 1) = true := by decide +kernel
theorem zd16_91 : zDj 16 91 54 = true := by decide +kernel
theorem zd16_94 : zD 16 94 .return_ 1 95 = true := by decide +kernel
theorem zd17_0 : zD 17 0 (.aload_n 0) 1 1 = true := by decide +kernel
theorem zd17_1 : zDg 17 1 4 3 0 (.array (.array .int)) = true := by decide +kernel
theorem zd17_4 : zD 17 4 (.iload_n 1) 1 5 = true := by decide +kernel
theorem zd17_5 : zDc 17 5 7 (Int32.ofNat 8) = true := by decide +kernel
theorem zd17_7 : zD 17 7 .imul 1 8 = true := by decide +kernel
theorem zd17_8 : zD 17 8 (.iload_n 2) 1 9 = true := by decide +kernel
theorem zd17_9 : zD 17 9 .iadd 1 10 = true := by decide +kernel
theorem zd17_10 : zD 17 10 .aaload 1 11 = true := by decide +kernel
theorem zd17_11 : zD 17 11 .areturn 1 12 = true := by decide +kernel
theorem zd18_0 : zD 18 0 (.aload_n 1) 1 1 = true := by decide +kernel
theorem zd18_1 : zDk 18 1 4 6 0 = true := by decide +kernel
theorem zd18_4 : zD 18 4 (.aload_n 1) 1 5 = true := by decide +kernel
theorem zd18_5 : zDc 18 5 6 (Int32.ofNat 0) = true := by decide +kernel
theorem zd18_6 : zDk 18 6 9 8 0 = true := by decide +kernel
theorem zd18_9 : zD 18 9 (.aload_n 1) 1 10 = true := by decide +kernel
theorem zd18_10 : zD 18 10 (.aload_n 0) 1 11 = true := by decide +kernel
theorem zd18_11 : zDg 18 11 14 4 0 (.int) = true := by decide +kernel
theorem zd18_14 : zDc 18 14 17 (Int32.ofNat 256) = true := by decide +kernel
theorem zd18_17 : zD 18 17 .idiv 1 18 = true := by decide +kernel
theorem zd18_18 : zDk 18 18 21 8 0 = true := by decide +kernel
theorem zd18_21 : zD 18 21 (.aload_n 1) 1 22 = true := by decide +kernel
theorem zd18_22 : zD 18 22 (.aload_n 0) 1 23 = true := by decide +kernel
theorem zd18_23 : zDg 18 23 26 4 0 (.int) = true := by decide +kernel
theorem zd18_26 : zDc 18 26 29 (Int32.ofNat 256) = true := by decide +kernel
theorem zd18_29 : zD 18 29 .irem 1 30 = true := by decide +kernel
theorem zd18_30 : zDk 18 30 33 8 0 = true := by decide +kernel
theorem zd18_33 : zD 18 33 (.aload_n 1) 1 34 = true := by decide +kernel
theorem zd18_34 : zD 18 34 (.aload_n 0) 1 35 = true := by decide +kernel
theorem zd18_35 : zDg 18 35 38 4 1 (.array .int) = true := by decide +kernel
theorem zd18_38 : zDc 18 38 39 (Int32.ofNat 0) = true := by decide +kernel
theorem zd18_39 : zD 18 39 (.aload_n 0) 1 40 = true := by decide +kernel
theorem zd18_40 : zDg 18 40 43 4 2 (.int) = true := by decide +kernel
theorem zd18_43 : zDk 18 43 46 19 0 = true := by decide +kernel
theorem zd18_46 : zD 18 46 (.aload_n 1) 1 47 = true := by decide +kernel
theorem zd18_47 : zD 18 47 (.aload_n 2) 1 48 = true := by decide +kernel
theorem zd18_48 : zDk 18 48 51 7 0 = true := by decide +kernel
theorem zd18_51 : zD 18 51 .return_ 1 52 = true := by decide +kernel
theorem zd19_0 : zD 19 0 (.iload_n 2) 1 1 = true := by decide +kernel
theorem zd19_1 : zD 19 1 (.iload_n 3) 1 2 = true := by decide +kernel
theorem zd19_2 : zD 19 2 .iadd 1 3 = true := by decide +kernel
theorem zd19_3 : zD 19 3 (.aload_n 1) 1 4 = true := by decide +kernel
theorem zd19_4 : zD 19 4 .arraylength 1 5 = true := by decide +kernel
theorem zd19_5 : zDn 19 5 8 = true := by decide +kernel
theorem zd19_8 : zD 19 8 (.istore 4) 2 10 = true := by decide +kernel
theorem zd19_10 : zD 19 10 (.iload_n 2) 1 11 = true := by decide +kernel
theorem zd19_11 : zD 19 11 (.istore 5) 2 13 = true := by decide +kernel
theorem zd19_13 : zD 19 13 (.iload 5) 2 15 = true := by decide +kernel
theorem zd19_15 : zD 19 15 (.iload 4) 2 17 = true := by decide +kernel
theorem zd19_17 : zDm 19 17 .ge 34 20 = true := by decide +kernel
theorem zd19_20 : zD 19 20 (.aload_n 0) 1 21 = true := by decide +kernel
theorem zd19_21 : zD 19 21 (.aload_n 1) 1 22 = true := by decide +kernel
theorem zd19_22 : zD 19 22 (.iload 5) 2 24 = true := by decide +kernel
theorem zd19_24 : zD 19 24 .iaload 1 25 = true := by decide +kernel
theorem zd19_25 : zDk 19 25 28 8 0 = true := by decide +kernel
theorem zd19_28 : zDi 19 28 31 5 (Int32.ofNat 1) = true := by decide +kernel
theorem zd19_31 : zDj 19 31 13 = true := by decide +kernel
theorem zd19_34 : zD 19 34 .return_ 1 35 = true := by decide +kernel
theorem zd20_0 : zD 20 0 (.aload_n 0) 1 1 = true := by decide +kernel
theorem zd20_1 : zDg 20 1 4 3 1 (.array .int) = true := by decide +kernel
theorem zd20_4 : zD 20 4 (.iload_n 1) 1 5 = true := by decide +kernel
theorem zd20_5 : zD 20 5 .iaload 1 6 = true := by decide +kernel
theorem zd20_6 : zD 20 6 (.istore_n 3) 1 7 = true := by decide +kernel
theorem zd20_7 : zD 20 7 (.iload_n 3) 1 8 = true := by decide +kernel
theorem zd20_8 : zDc 20 8 9 (Int32.ofNat 2) = true := by decide +kernel
theorem zd20_9 : zD 20 9 .idiv 1 10 = true := by decide +kernel
theorem zd20_10 : zD 20 10 (.istore 4) 2 12 = true := by decide +kernel
theorem zd20_12 : zDc 20 12 13 (Int32.ofNat 0) = true := by decide +kernel
theorem zd20_13 : zD 20 13 (.istore 5) 2 15 = true := by decide +kernel
theorem zd20_15 : zD 20 15 (.iload 5) 2 17 = true := by decide +kernel
theorem zd20_17 : zD 20 17 (.iload 4) 2 19 = true := by decide +kernel
theorem zd20_19 : zDm 20 19 .ge 78 22 = true := by decide +kernel
theorem zd20_22 : zD 20 22 (.aload_n 2) 1 23 = true := by decide +kernel
theorem zd20_23 : zDk 20 23 26 6 0 = true := by decide +kernel
theorem zd20_26 : zD 20 26 (.aload_n 2) 1 27 = true := by decide +kernel
theorem zd20_27 : zDc 20 27 28 (Int32.ofNat 1) = true := by decide +kernel
theorem zd20_28 : zDk 20 28 31 8 0 = true := by decide +kernel
theorem zd20_31 : zD 20 31 (.aload_n 2) 1 32 = true := by decide +kernel
theorem zd20_32 : zD 20 32 (.aload_n 0) 1 33 = true := by decide +kernel
theorem zd20_33 : zD 20 33 (.iload_n 1) 1 34 = true := by decide +kernel
theorem zd20_34 : zDc 20 34 35 (Int32.ofNat 2) = true := by decide +kernel
theorem zd20_35 : zD 20 35 (.iload 5) 2 37 = true := by decide +kernel
theorem zd20_37 : zD 20 37 .imul 1 38 = true := by decide +kernel
theorem zd20_38 : zDk 20 38 41 17 0 = true := by decide +kernel
theorem zd20_41 : zDk 20 41 44 21 0 = true := by decide +kernel
theorem zd20_44 : zD 20 44 (.aload_n 2) 1 45 = true := by decide +kernel
theorem zd20_45 : zD 20 45 (.aload_n 0) 1 46 = true := by decide +kernel
theorem zd20_46 : zD 20 46 (.iload_n 1) 1 47 = true := by decide +kernel
theorem zd20_47 : zDc 20 47 48 (Int32.ofNat 2) = true := by decide +kernel
theorem zd20_48 : zD 20 48 (.iload 5) 2 50 = true := by decide +kernel
theorem zd20_50 : zD 20 50 .imul 1 51 = true := by decide +kernel
theorem zd20_51 : zDc 20 51 52 (Int32.ofNat 1) = true := by decide +kernel
theorem zd20_52 : zD 20 52 .iadd 1 53 = true := by decide +kernel
theorem zd20_53 : zDk 20 53 56 17 0 = true := by decide +kernel
theorem zd20_56 : zDk 20 56 59 21 0 = true := by decide +kernel
theorem zd20_59 : zD 20 59 (.aload_n 2) 1 60 = true := by decide +kernel
theorem zd20_60 : zD 20 60 (.aload_n 0) 1 61 = true := by decide +kernel
theorem zd20_61 : zD 20 61 (.iload_n 1) 1 62 = true := by decide +kernel
theorem zd20_62 : zDc 20 62 63 (Int32.ofNat 1) = true := by decide +kernel
theorem zd20_63 : zD 20 63 .iadd 1 64 = true := by decide +kernel
theorem zd20_64 : zD 20 64 (.iload 5) 2 66 = true := by decide +kernel
theorem zd20_66 : zDk 20 66 69 17 0 = true := by decide +kernel
theorem zd20_69 : zDk 20 69 72 7 0 = true := by decide +kernel
theorem zd20_72 : zDi 20 72 75 5 (Int32.ofNat 1) = true := by decide +kernel
theorem zd20_75 : zDj 20 75 15 = true := by decide +kernel
theorem zd20_78 : zD 20 78 (.iload_n 3) 1 79 = true := by decide +kernel
theorem zd20_79 : zDc 20 79 80 (Int32.ofNat 2) = true := by decide +kernel
theorem zd20_80 : zD 20 80 .irem 1 81 = true := by decide +kernel
theorem zd20_81 : zDc 20 81 82 (Int32.ofNat 1) = true := by decide +kernel
theorem zd20_82 : zDm 20 82 .ne 109 85 = true := by decide +kernel
theorem zd20_85 : zD 20 85 (.aload_n 0) 1 86 = true := by decide +kernel
theorem zd20_86 : zD 20 86 (.iload_n 1) 1 87 = true := by decide +kernel
theorem zd20_87 : zD 20 87 (.iload_n 3) 1 88 = true := by decide +kernel
theorem zd20_88 : zDc 20 88 89 (Int32.ofNat 1) = true := by decide +kernel
theorem zd20_89 : zD 20 89 .isub 1 90 = true := by decide +kernel
theorem zd20_90 : zDk 20 90 93 17 0 = true := by decide +kernel
theorem zd20_93 : zDc 20 93 94 (Int32.ofNat 0) = true := by decide +kernel
theorem zd20_94 : zD 20 94 (.aload_n 0) 1 95 = true := by decide +kernel
theorem zd20_95 : zD 20 95 (.iload_n 1) 1 96 = true := by decide +kernel
theorem zd20_96 : zDc 20 96 97 (Int32.ofNat 1) = true := by decide +kernel
theorem zd20_97 : zD 20 97 .iadd 1 98 = true := by decide +kernel
theorem zd20_98 : zD 20 98 (.iload 4) 2 100 = true := by decide +kernel
theorem zd20_100 : zDk 20 100 103 17 0 = true := by decide +kernel
theorem zd20_103 : zDc 20 103 104 (Int32.ofNat 0) = true := by decide +kernel
theorem zd20_104 : zDc 20 104 106 (Int32.ofNat 32) = true := by decide +kernel
theorem zd20_106 : zDy 20 106 109 = true := by decide +kernel
theorem zd20_109 : zD 20 109 (.aload_n 0) 1 110 = true := by decide +kernel
theorem zd20_110 : zDg 20 110 113 3 1 (.array .int) = true := by decide +kernel
theorem zd20_113 : zD 20 113 (.iload_n 1) 1 114 = true := by decide +kernel
theorem zd20_114 : zDc 20 114 115 (Int32.ofNat 1) = true := by decide +kernel
theorem zd20_115 : zD 20 115 .iadd 1 116 = true := by decide +kernel
theorem zd20_116 : zD 20 116 (.iload 4) 2 118 = true := by decide +kernel
theorem zd20_118 : zD 20 118 (.iload_n 3) 1 119 = true := by decide +kernel
theorem zd20_119 : zDc 20 119 120 (Int32.ofNat 2) = true := by decide +kernel
theorem zd20_120 : zD 20 120 .irem 1 121 = true := by decide +kernel
theorem zd20_121 : zD 20 121 .iadd 1 122 = true := by decide +kernel
theorem zd20_122 : zD 20 122 .iastore 1 123 = true := by decide +kernel
theorem zd20_123 : zD 20 123 .return_ 1 124 = true := by decide +kernel
theorem zd21_0 : zD 21 0 (.aload_n 1) 1 1 = true := by decide +kernel
theorem zd21_1 : zD 21 1 (.astore_n 2) 1 2 = true := by decide +kernel
theorem zd21_2 : zD 21 2 (.aload_n 2) 1 3 = true := by decide +kernel
theorem zd21_3 : zD 21 3 .arraylength 1 4 = true := by decide +kernel
theorem zd21_4 : zD 21 4 (.istore_n 3) 1 5 = true := by decide +kernel
theorem zd21_5 : zDc 21 5 6 (Int32.ofNat 0) = true := by decide +kernel
theorem zd21_6 : zD 21 6 (.istore 4) 2 8 = true := by decide +kernel
theorem zd21_8 : zD 21 8 (.iload 4) 2 10 = true := by decide +kernel
theorem zd21_10 : zD 21 10 (.iload_n 3) 1 11 = true := by decide +kernel
theorem zd21_11 : zDm 21 11 .ge 32 14 = true := by decide +kernel
theorem zd21_14 : zD 21 14 (.aload_n 2) 1 15 = true := by decide +kernel
theorem zd21_15 : zD 21 15 (.iload 4) 2 17 = true := by decide +kernel
theorem zd21_17 : zD 21 17 .iaload 1 18 = true := by decide +kernel
theorem zd21_18 : zD 21 18 (.istore 5) 2 20 = true := by decide +kernel
theorem zd21_20 : zD 21 20 (.aload_n 0) 1 21 = true := by decide +kernel
theorem zd21_21 : zD 21 21 (.iload 5) 2 23 = true := by decide +kernel
theorem zd21_23 : zDk 21 23 26 8 0 = true := by decide +kernel
theorem zd21_26 : zDi 21 26 29 4 (Int32.ofNat 1) = true := by decide +kernel
theorem zd21_29 : zDj 21 29 8 = true := by decide +kernel
theorem zd21_32 : zD 21 32 .return_ 1 33 = true := by decide +kernel
theorem zd22_0 : zD 22 0 (.aload_n 0) 1 1 = true := by decide +kernel
theorem zd22_1 : zD 22 1 (.aload_n 0) 1 2 = true := by decide +kernel
theorem zd22_2 : zDg 22 2 5 3 2 (.int) = true := by decide +kernel
theorem zd22_5 : zDc 22 5 6 (Int32.ofNat 0) = true := by decide +kernel
theorem zd22_6 : zDk 22 6 9 17 0 = true := by decide +kernel
theorem zd22_9 : zD 22 9 .areturn 1 10 = true := by decide +kernel
theorem zd23_0 : zD 23 0 (.iload_n 1) 1 1 = true := by decide +kernel
theorem zd23_1 : zDk 23 1 4 24 2 = true := by decide +kernel
theorem zd23_4 : zDf 23 4 .eq 22 7 = true := by decide +kernel
theorem zd23_7 : zD 23 7 (.aload_n 0) 1 8 = true := by decide +kernel
theorem zd23_8 : zDg 23 8 11 0 8 (.object "ReleaseLeaves$Claim") = true := by decide +kernel
theorem zd23_11 : zD 23 11 (.iload_n 1) 1 12 = true := by decide +kernel
theorem zd23_12 : zDk 23 12 15 25 0 = true := by decide +kernel
theorem zd23_15 : zDf 23 15 .eq 22 18 = true := by decide +kernel
theorem zd23_18 : zDc 23 18 19 (Int32.ofNat 1) = true := by decide +kernel
theorem zd23_19 : zDj 23 19 23 = true := by decide +kernel
theorem zd23_22 : zDc 23 22 23 (Int32.ofNat 0) = true := by decide +kernel
theorem zd23_23 : zD 23 23 .ireturn 1 24 = true := by decide +kernel
theorem zd24_0 : zD 24 0 (.iload_n 0) 1 1 = true := by decide +kernel
theorem zd24_1 : zDf 24 1 .lt 15 4 = true := by decide +kernel
theorem zd24_4 : zD 24 4 (.iload_n 0) 1 5 = true := by decide +kernel
theorem zd24_5 : zDc 24 5 8 (Int32.ofNat 255) = true := by decide +kernel
theorem zd24_8 : zDm 24 8 .gt 15 11 = true := by decide +kernel
theorem zd24_11 : zDc 24 11 12 (Int32.ofNat 1) = true := by decide +kernel
theorem zd24_12 : zDj 24 12 16 = true := by decide +kernel
theorem zd24_15 : zDc 24 15 16 (Int32.ofNat 0) = true := by decide +kernel
theorem zd24_16 : zD 24 16 .ireturn 1 17 = true := by decide +kernel
theorem zd25_0 : zD 25 0 (.aload_n 0) 1 1 = true := by decide +kernel
theorem zd25_1 : zDg 25 1 4 6 1 (.int) = true := by decide +kernel
theorem zd25_4 : zDc 25 4 7 (Int32.ofNat 300) = true := by decide +kernel
theorem zd25_7 : zDm 25 7 .lt 12 10 = true := by decide +kernel
theorem zd25_10 : zDc 25 10 11 (Int32.ofNat 0) = true := by decide +kernel
theorem zd25_11 : zD 25 11 .ireturn 1 12 = true := by decide +kernel
theorem zd25_12 : zD 25 12 (.aload_n 0) 1 13 = true := by decide +kernel
theorem zd25_13 : zDg 25 13 16 6 0 (.array .int) = true := by decide +kernel
theorem zd25_16 : zD 25 16 (.aload_n 0) 1 17 = true := by decide +kernel
theorem zd25_17 : zDg 25 17 20 6 1 (.int) = true := by decide +kernel
theorem zd25_20 : zD 25 20 (.iload_n 1) 1 21 = true := by decide +kernel
theorem zd25_21 : zD 25 21 .iastore 1 22 = true := by decide +kernel
theorem zd25_22 : zD 25 22 (.aload_n 0) 1 23 = true := by decide +kernel
theorem zd25_23 : zD 25 23 .dup 1 24 = true := by decide +kernel
theorem zd25_24 : zDg 25 24 27 6 1 (.int) = true := by decide +kernel
theorem zd25_27 : zDc 25 27 28 (Int32.ofNat 1) = true := by decide +kernel
theorem zd25_28 : zD 25 28 .iadd 1 29 = true := by decide +kernel
theorem zd25_29 : zDp 25 29 32 6 1 (.int) = true := by decide +kernel
theorem zd25_32 : zDc 25 32 33 (Int32.ofNat 1) = true := by decide +kernel
theorem zd25_33 : zD 25 33 .ireturn 1 34 = true := by decide +kernel
theorem zd26_0 : zD 26 0 (.aload_n 0) 1 1 = true := by decide +kernel
theorem zd26_1 : zDg 26 1 4 0 8 (.object "ReleaseLeaves$Claim") = true := by decide +kernel
theorem zd26_4 : zDk 26 4 7 27 0 = true := by decide +kernel
theorem zd26_7 : zDf 26 7 .eq 24 10 = true := by decide +kernel
theorem zd26_10 : zD 26 10 (.aload_n 0) 1 11 = true := by decide +kernel
theorem zd26_11 : zDg 26 11 14 0 8 (.object "ReleaseLeaves$Claim") = true := by decide +kernel
theorem zd26_14 : zDk 26 14 17 31 0 = true := by decide +kernel
theorem zd26_17 : zD 26 17 (.aload_n 0) 1 18 = true := by decide +kernel
theorem zd26_18 : zDg 26 18 21 0 2 (.int) = true := by decide +kernel
theorem zd26_21 : zDm 26 21 .lt 26 24 = true := by decide +kernel
theorem zd26_24 : zDc 26 24 25 (Int32.ofNat 0) = true := by decide +kernel
theorem zd26_25 : zD 26 25 .ireturn 1 26 = true := by decide +kernel
theorem zd26_26 : zD 26 26 (.aload_n 0) 1 27 = true := by decide +kernel
theorem zd26_27 : zDg 26 27 30 0 8 (.object "ReleaseLeaves$Claim") = true := by decide +kernel
theorem zd26_30 : zD 26 30 (.aload_n 0) 1 31 = true := by decide +kernel
theorem zd26_31 : zDg 26 31 34 0 0 (.object "ReleaseLeaves$Digester") = true := by decide +kernel
theorem zd26_34 : zD 26 34 (.aload_n 0) 1 35 = true := by decide +kernel
theorem zd26_35 : zDg 26 35 38 0 9 (.array .int) = true := by decide +kernel
theorem zd26_38 : zDk 26 38 41 32 0 = true := by decide +kernel
theorem zd26_41 : zD 26 41 (.aload_n 0) 1 42 = true := by decide +kernel
theorem zd26_42 : zDg 26 42 45 0 9 (.array .int) = true := by decide +kernel
theorem zd26_45 : zD 26 45 (.aload_n 0) 1 46 = true := by decide +kernel
theorem zd26_46 : zDg 26 46 49 0 1 (.array (.object "ReleaseLeaves$Release")) = true := by decide +kernel
theorem zd26_49 : zD 26 49 (.aload_n 0) 1 50 = true := by decide +kernel
theorem zd26_50 : zDg 26 50 53 0 8 (.object "ReleaseLeaves$Claim") = true := by decide +kernel
theorem zd26_53 : zDk 26 53 56 31 0 = true := by decide +kernel
theorem zd26_56 : zD 26 56 .aaload 1 57 = true := by decide +kernel
theorem zd26_57 : zDg 26 57 60 2 2 (.object "ReleaseLeaves$Tree") = true := by decide +kernel
theorem zd26_60 : zDk 26 60 63 22 0 = true := by decide +kernel
theorem zd26_63 : zDc 26 63 65 (Int32.ofNat 32) = true := by decide +kernel
theorem zd26_65 : zDk 26 65 68 34 2 = true := by decide +kernel
theorem zd26_68 : zDf 26 68 .eq 75 71 = true := by decide +kernel
theorem zd26_71 : zDc 26 71 72 (Int32.ofNat 1) = true := by decide +kernel
theorem zd26_72 : zDj 26 72 76 = true := by decide +kernel
theorem zd26_75 : zDc 26 75 76 (Int32.ofNat 0) = true := by decide +kernel
theorem zd26_76 : zD 26 76 .ireturn 1 77 = true := by decide +kernel
theorem zd27_0 : zD 27 0 (.aload_n 0) 1 1 = true := by decide +kernel
theorem zd27_1 : zDc 27 1 2 (Int32.ofNat 3) = true := by decide +kernel
theorem zd27_2 : zDk 27 2 5 28 0 = true := by decide +kernel
theorem zd27_5 : zDf 27 5 .eq 30 8 = true := by decide +kernel
theorem zd27_8 : zD 27 8 (.aload_n 0) 1 9 = true := by decide +kernel
theorem zd27_9 : zDg 27 9 12 6 0 (.array .int) = true := by decide +kernel
theorem zd27_12 : zDc 27 12 13 (Int32.ofNat 3) = true := by decide +kernel
theorem zd27_13 : zD 27 13 .iaload 1 14 = true := by decide +kernel
theorem zd27_14 : zDc 27 14 16 (Int32.ofNat 64) = true := by decide +kernel
theorem zd27_16 : zDm 27 16 .gt 30 19 = true := by decide +kernel
theorem zd27_19 : zD 27 19 (.aload_n 0) 1 20 = true := by decide +kernel
theorem zd27_20 : zD 27 20 (.aload_n 0) 1 21 = true := by decide +kernel
theorem zd27_21 : zDk 27 21 24 29 0 = true := by decide +kernel
theorem zd27_24 : zDk 27 24 27 28 0 = true := by decide +kernel
theorem zd27_27 : zDf 27 27 .ne 32 30 = true := by decide +kernel
theorem zd27_30 : zDc 27 30 31 (Int32.ofNat 0) = true := by decide +kernel
theorem zd27_31 : zD 27 31 .ireturn 1 32 = true := by decide +kernel
theorem zd27_32 : zD 27 32 (.aload_n 0) 1 33 = true := by decide +kernel
theorem zd27_33 : zDg 27 33 36 6 0 (.array .int) = true := by decide +kernel
theorem zd27_36 : zD 27 36 (.aload_n 0) 1 37 = true := by decide +kernel
theorem zd27_37 : zDk 27 37 40 29 0 = true := by decide +kernel
theorem zd27_40 : zD 27 40 .iaload 1 41 = true := by decide +kernel
theorem zd27_41 : zD 27 41 (.istore_n 1) 1 42 = true := by decide +kernel
theorem zd27_42 : zD 27 42 (.aload_n 0) 1 43 = true := by decide +kernel
theorem zd27_43 : zDg 27 43 46 6 1 (.int) = true := by decide +kernel
theorem zd27_46 : zD 27 46 (.aload_n 0) 1 47 = true := by decide +kernel
theorem zd27_47 : zD 27 47 (.iload_n 1) 1 48 = true := by decide +kernel
theorem zd27_48 : zDk 27 48 51 30 0 = true := by decide +kernel
theorem zd27_51 : zDm 27 51 .eq 56 54 = true := by decide +kernel
theorem zd27_54 : zDc 27 54 55 (Int32.ofNat 0) = true := by decide +kernel
theorem zd27_55 : zD 27 55 .ireturn 1 56 = true := by decide +kernel
theorem zd27_56 : zDc 27 56 57 (Int32.ofNat 0) = true := by decide +kernel
theorem zd27_57 : zD 27 57 (.istore_n 2) 1 58 = true := by decide +kernel
theorem zd27_58 : zD 27 58 (.iload_n 2) 1 59 = true := by decide +kernel
theorem zd27_59 : zD 27 59 (.iload_n 1) 1 60 = true := by decide +kernel
theorem zd27_60 : zDm 27 60 .ge 85 63 = true := by decide +kernel
theorem zd27_63 : zD 27 63 (.aload_n 0) 1 64 = true := by decide +kernel
theorem zd27_64 : zDg 27 64 67 6 0 (.array .int) = true := by decide +kernel
theorem zd27_67 : zD 27 67 (.aload_n 0) 1 68 = true := by decide +kernel
theorem zd27_68 : zD 27 68 (.iload_n 2) 1 69 = true := by decide +kernel
theorem zd27_69 : zDk 27 69 72 30 0 = true := by decide +kernel
theorem zd27_72 : zD 27 72 .iaload 1 73 = true := by decide +kernel
theorem zd27_73 : zDc 27 73 74 (Int32.ofNat 1) = true := by decide +kernel
theorem zd27_74 : zDm 27 74 .le 79 77 = true := by decide +kernel
theorem zd27_77 : zDc 27 77 78 (Int32.ofNat 0) = true := by decide +kernel
theorem zd27_78 : zD 27 78 .ireturn 1 79 = true := by decide +kernel
theorem zd27_79 : zDi 27 79 82 2 (Int32.ofNat 1) = true := by decide +kernel
theorem zd27_82 : zDj 27 82 58 = true := by decide +kernel
theorem zd27_85 : zDc 27 85 86 (Int32.ofNat 1) = true := by decide +kernel
theorem zd27_86 : zD 27 86 .ireturn 1 87 = true := by decide +kernel
theorem zd28_0 : zD 28 0 (.iload_n 1) 1 1 = true := by decide +kernel
theorem zd28_1 : zDf 28 1 .lt 16 4 = true := by decide +kernel
theorem zd28_4 : zD 28 4 (.iload_n 1) 1 5 = true := by decide +kernel
theorem zd28_5 : zD 28 5 (.aload_n 0) 1 6 = true := by decide +kernel
theorem zd28_6 : zDg 28 6 9 6 1 (.int) = true := by decide +kernel
theorem zd28_9 : zDm 28 9 .ge 16 12 = true := by decide +kernel
theorem zd28_12 : zDc 28 12 13 (Int32.ofNat 1) = true := by decide +kernel
theorem zd28_13 : zDj 28 13 17 = true := by decide +kernel
theorem zd28_16 : zDc 28 16 17 (Int32.ofNat 0) = true := by decide +kernel
theorem zd28_17 : zD 28 17 .ireturn 1 18 = true := by decide +kernel
theorem zd29_0 : zDc 29 0 1 (Int32.ofNat 4) = true := by decide +kernel
theorem zd29_1 : zD 29 1 (.aload_n 0) 1 2 = true := by decide +kernel
theorem zd29_2 : zDg 29 2 5 6 0 (.array .int) = true := by decide +kernel
theorem zd29_5 : zDc 29 5 6 (Int32.ofNat 3) = true := by decide +kernel
theorem zd29_6 : zD 29 6 .iaload 1 7 = true := by decide +kernel
theorem zd29_7 : zD 29 7 .iadd 1 8 = true := by decide +kernel
theorem zd29_8 : zD 29 8 .ireturn 1 9 = true := by decide +kernel
theorem zd30_0 : zD 30 0 (.aload_n 0) 1 1 = true := by decide +kernel
theorem zd30_1 : zDk 30 1 4 29 0 = true := by decide +kernel
theorem zd30_4 : zDc 30 4 5 (Int32.ofNat 1) = true := by decide +kernel
theorem zd30_5 : zD 30 5 .iadd 1 6 = true := by decide +kernel
theorem zd30_6 : zD 30 6 (.iload_n 1) 1 7 = true := by decide +kernel
theorem zd30_7 : zDc 30 7 9 (Int32.ofNat 33) = true := by decide +kernel
theorem zd30_9 : zD 30 9 .imul 1 10 = true := by decide +kernel
theorem zd30_10 : zD 30 10 .iadd 1 11 = true := by decide +kernel
theorem zd30_11 : zD 30 11 .ireturn 1 12 = true := by decide +kernel
theorem zd31_0 : zD 31 0 (.aload_n 0) 1 1 = true := by decide +kernel
theorem zd31_1 : zDg 31 1 4 6 0 (.array .int) = true := by decide +kernel
theorem zd31_4 : zDc 31 4 5 (Int32.ofNat 0) = true := by decide +kernel
theorem zd31_5 : zD 31 5 .iaload 1 6 = true := by decide +kernel
theorem zd31_6 : zD 31 6 .ireturn 1 7 = true := by decide +kernel
theorem zd32_0 : zD 32 0 (.aload_n 1) 1 1 = true := by decide +kernel
theorem zd32_1 : zDk 32 1 4 6 0 = true := by decide +kernel
theorem zd32_4 : zD 32 4 (.aload_n 1) 1 5 = true := by decide +kernel
theorem zd32_5 : zDc 32 5 6 (Int32.ofNat 0) = true := by decide +kernel
theorem zd32_6 : zDk 32 6 9 8 0 = true := by decide +kernel
theorem zd32_9 : zD 32 9 (.aload_n 1) 1 10 = true := by decide +kernel
theorem zd32_10 : zD 32 10 (.aload_n 0) 1 11 = true := by decide +kernel
theorem zd32_11 : zDg 32 11 14 6 0 (.array .int) = true := by decide +kernel
theorem zd32_14 : zDc 32 14 15 (Int32.ofNat 1) = true := by decide +kernel
theorem zd32_15 : zDc 32 15 16 (Int32.ofNat 2) = true := by decide +kernel
theorem zd32_16 : zDk 32 16 19 19 0 = true := by decide +kernel
theorem zd32_19 : zD 32 19 (.aload_n 1) 1 20 = true := by decide +kernel
theorem zd32_20 : zD 32 20 (.aload_n 0) 1 21 = true := by decide +kernel
theorem zd32_21 : zDg 32 21 24 6 0 (.array .int) = true := by decide +kernel
theorem zd32_24 : zDc 32 24 25 (Int32.ofNat 4) = true := by decide +kernel
theorem zd32_25 : zD 32 25 (.aload_n 0) 1 26 = true := by decide +kernel
theorem zd32_26 : zDg 32 26 29 6 0 (.array .int) = true := by decide +kernel
theorem zd32_29 : zDc 32 29 30 (Int32.ofNat 3) = true := by decide +kernel
theorem zd32_30 : zD 32 30 .iaload 1 31 = true := by decide +kernel
theorem zd32_31 : zDk 32 31 34 19 0 = true := by decide +kernel
theorem zd32_34 : zD 32 34 (.aload_n 1) 1 35 = true := by decide +kernel
theorem zd32_35 : zD 32 35 (.aload_n 2) 1 36 = true := by decide +kernel
theorem zd32_36 : zDk 32 36 39 7 0 = true := by decide +kernel
theorem zd32_39 : zD 32 39 (.aload_n 0) 1 40 = true := by decide +kernel
theorem zd32_40 : zDg 32 40 43 6 0 (.array .int) = true := by decide +kernel
theorem zd32_43 : zD 32 43 (.aload_n 0) 1 44 = true := by decide +kernel
theorem zd32_44 : zDk 32 44 47 29 0 = true := by decide +kernel
theorem zd32_47 : zD 32 47 .iaload 1 48 = true := by decide +kernel
theorem zd32_48 : zD 32 48 (.istore_n 3) 1 49 = true := by decide +kernel
theorem zd32_49 : zDc 32 49 50 (Int32.ofNat 0) = true := by decide +kernel
theorem zd32_50 : zD 32 50 (.istore 4) 2 52 = true := by decide +kernel
theorem zd32_52 : zD 32 52 (.iload 4) 2 54 = true := by decide +kernel
theorem zd32_54 : zD 32 54 (.iload_n 3) 1 55 = true := by decide +kernel
theorem zd32_55 : zDm 32 55 .ge 76 58 = true := by decide +kernel
theorem zd32_58 : zD 32 58 (.aload_n 0) 1 59 = true := by decide +kernel
theorem zd32_59 : zD 32 59 (.aload_n 0) 1 60 = true := by decide +kernel
theorem zd32_60 : zD 32 60 (.iload 4) 2 62 = true := by decide +kernel
theorem zd32_62 : zDk 32 62 65 30 0 = true := by decide +kernel
theorem zd32_65 : zD 32 65 (.aload_n 1) 1 66 = true := by decide +kernel
theorem zd32_66 : zD 32 66 (.aload_n 2) 1 67 = true := by decide +kernel
theorem zd32_67 : zDk 32 67 70 33 0 = true := by decide +kernel
theorem zd32_70 : zDi 32 70 73 4 (Int32.ofNat 1) = true := by decide +kernel
theorem zd32_73 : zDj 32 73 52 = true := by decide +kernel
theorem zd32_76 : zD 32 76 .return_ 1 77 = true := by decide +kernel
theorem zd33_0 : zD 33 0 (.aload_n 2) 1 1 = true := by decide +kernel
theorem zd33_1 : zDk 33 1 4 6 0 = true := by decide +kernel
theorem zd33_4 : zD 33 4 (.aload_n 2) 1 5 = true := by decide +kernel
theorem zd33_5 : zDc 33 5 6 (Int32.ofNat 1) = true := by decide +kernel
theorem zd33_6 : zDk 33 6 9 8 0 = true := by decide +kernel
theorem zd33_9 : zD 33 9 (.aload_n 0) 1 10 = true := by decide +kernel
theorem zd33_10 : zDg 33 10 13 6 0 (.array .int) = true := by decide +kernel
theorem zd33_13 : zD 33 13 (.iload_n 1) 1 14 = true := by decide +kernel
theorem zd33_14 : zD 33 14 .iaload 1 15 = true := by decide +kernel
theorem zd33_15 : zDf 33 15 .ne 39 18 = true := by decide +kernel
theorem zd33_18 : zD 33 18 (.aload_n 2) 1 19 = true := by decide +kernel
theorem zd33_19 : zD 33 19 (.aload_n 0) 1 20 = true := by decide +kernel
theorem zd33_20 : zDg 33 20 23 6 0 (.array .int) = true := by decide +kernel
theorem zd33_23 : zD 33 23 (.iload_n 1) 1 24 = true := by decide +kernel
theorem zd33_24 : zDc 33 24 25 (Int32.ofNat 1) = true := by decide +kernel
theorem zd33_25 : zD 33 25 .iadd 1 26 = true := by decide +kernel
theorem zd33_26 : zDc 33 26 28 (Int32.ofNat 32) = true := by decide +kernel
theorem zd33_28 : zDk 33 28 31 19 0 = true := by decide +kernel
theorem zd33_31 : zD 33 31 (.aload_n 2) 1 32 = true := by decide +kernel
theorem zd33_32 : zD 33 32 (.aload_n 3) 1 33 = true := by decide +kernel
theorem zd33_33 : zDk 33 33 36 21 0 = true := by decide +kernel
theorem zd33_36 : zDj 33 36 57 = true := by decide +kernel
theorem zd33_39 : zD 33 39 (.aload_n 2) 1 40 = true := by decide +kernel
theorem zd33_40 : zD 33 40 (.aload_n 3) 1 41 = true := by decide +kernel
theorem zd33_41 : zDk 33 41 44 21 0 = true := by decide +kernel
theorem zd33_44 : zD 33 44 (.aload_n 2) 1 45 = true := by decide +kernel
theorem zd33_45 : zD 33 45 (.aload_n 0) 1 46 = true := by decide +kernel
theorem zd33_46 : zDg 33 46 49 6 0 (.array .int) = true := by decide +kernel
theorem zd33_49 : zD 33 49 (.iload_n 1) 1 50 = true := by decide +kernel
theorem zd33_50 : zDc 33 50 51 (Int32.ofNat 1) = true := by decide +kernel
theorem zd33_51 : zD 33 51 .iadd 1 52 = true := by decide +kernel
theorem zd33_52 : zDc 33 52 54 (Int32.ofNat 32) = true := by decide +kernel
theorem zd33_54 : zDk 33 54 57 19 0 = true := by decide +kernel
theorem zd33_57 : zD 33 57 (.aload_n 2) 1 58 = true := by decide +kernel
theorem zd33_58 : zD 33 58 (.aload_n 3) 1 59 = true := by decide +kernel
theorem zd33_59 : zDk 33 59 62 7 0 = true := by decide +kernel
theorem zd33_62 : zD 33 62 .return_ 1 63 = true := by decide +kernel
theorem zd34_0 : zD 34 0 (.iload_n 2) 1 1 = true := by decide +kernel
theorem zd34_1 : zD 34 1 (.aload_n 0) 1 2 = true := by decide +kernel
theorem zd34_2 : zD 34 2 .arraylength 1 3 = true := by decide +kernel
theorem zd34_3 : zDm 34 3 .gt 12 6 = true := by decide +kernel
theorem zd34_6 : zD 34 6 (.iload_n 2) 1 7 = true := by decide +kernel
theorem zd34_7 : zD 34 7 (.aload_n 1) 1 8 = true := by decide +kernel
theorem zd34_8 : zD 34 8 .arraylength 1 9 = true := by decide +kernel
theorem zd34_9 : zDm 34 9 .le 14 12 = true := by decide +kernel
theorem zd34_12 : zDc 34 12 13 (Int32.ofNat 0) = true := by decide +kernel
theorem zd34_13 : zD 34 13 .ireturn 1 14 = true := by decide +kernel
theorem zd34_14 : zDc 34 14 15 (Int32.ofNat 0) = true := by decide +kernel
theorem zd34_15 : zD 34 15 (.istore_n 3) 1 16 = true := by decide +kernel
theorem zd34_16 : zD 34 16 (.iload_n 3) 1 17 = true := by decide +kernel
theorem zd34_17 : zD 34 17 (.iload_n 2) 1 18 = true := by decide +kernel
theorem zd34_18 : zDm 34 18 .ge 38 21 = true := by decide +kernel
theorem zd34_21 : zD 34 21 (.aload_n 0) 1 22 = true := by decide +kernel
theorem zd34_22 : zD 34 22 (.iload_n 3) 1 23 = true := by decide +kernel
theorem zd34_23 : zD 34 23 .iaload 1 24 = true := by decide +kernel
theorem zd34_24 : zD 34 24 (.aload_n 1) 1 25 = true := by decide +kernel
theorem zd34_25 : zD 34 25 (.iload_n 3) 1 26 = true := by decide +kernel
theorem zd34_26 : zD 34 26 .iaload 1 27 = true := by decide +kernel
theorem zd34_27 : zDm 34 27 .eq 32 30 = true := by decide +kernel
theorem zd34_30 : zDc 34 30 31 (Int32.ofNat 0) = true := by decide +kernel
theorem zd34_31 : zD 34 31 .ireturn 1 32 = true := by decide +kernel
theorem zd34_32 : zDi 34 32 35 3 (Int32.ofNat 1) = true := by decide +kernel
theorem zd34_35 : zDj 34 35 16 = true := by decide +kernel
theorem zd34_38 : zDc 34 38 39 (Int32.ofNat 1) = true := by decide +kernel
theorem zd34_39 : zD 34 39 .ireturn 1 40 = true := by decide +kernel
theorem zd35_0 : zD 35 0 (.aload_n 0) 1 1 = true := by decide +kernel
theorem zd35_1 : zDg 35 1 4 0 2 (.int) = true := by decide +kernel
theorem zd35_4 : zD 35 4 .ireturn 1 5 = true := by decide +kernel
theorem zd36_0 : zD 36 0 (.aload_n 0) 1 1 = true := by decide +kernel
theorem zd36_1 : zDg 36 1 4 0 8 (.object "ReleaseLeaves$Claim") = true := by decide +kernel
theorem zd36_4 : zDk 36 4 7 37 0 = true := by decide +kernel
theorem zd36_7 : zD 36 7 .return_ 1 8 = true := by decide +kernel
theorem zd37_0 : zD 37 0 (.aload_n 0) 1 1 = true := by decide +kernel
theorem zd37_1 : zDc 37 1 2 (Int32.ofNat 0) = true := by decide +kernel
theorem zd37_2 : zDp 37 2 5 6 1 (.int) = true := by decide +kernel
theorem zd37_5 : zD 37 5 .return_ 1 6 = true := by decide +kernel
theorem zd39_0 : zD 39 0 (.iload_n 1) 1 1 = true := by decide +kernel
theorem zd39_1 : zDf 39 1 .lt 10 4 = true := by decide +kernel
theorem zd39_4 : zD 39 4 (.iload_n 1) 1 5 = true := by decide +kernel
theorem zd39_5 : zDc 39 5 7 (Int32.ofNat 65535) = true := by decide +kernel
theorem zd39_7 : zDm 39 7 .le 20 10 = true := by decide +kernel
theorem zd39_10 : zDx 39 10 0 = true := by decide +kernel
theorem zd39_13 : zD 39 13 .dup 1 14 = true := by decide +kernel
theorem zd39_20 : zD 39 20 (.aload_n 0) 1 21 = true := by decide +kernel
theorem zd39_21 : zDg 39 21 24 0 1 (.array (.object "ReleaseLeaves$Release")) = true := by decide +kernel
theorem zd39_24 : zD 39 24 (.aload_n 0) 1 25 = true := by decide +kernel
theorem zd39_25 : zDg 39 25 28 0 2 (.int) = true := by decide +kernel
theorem zd39_28 : zD 39 28 .aaload 1 29 = true := by decide +kernel
theorem zd39_29 : zD 39 29 (.iload_n 1) 1 30 = true := by decide +kernel
theorem zd39_30 : zDk 39 30 33 40 0 = true := by decide +kernel
theorem zd39_33 : zD 39 33 .ireturn 1 34 = true := by decide +kernel
theorem zd40_0 : zD 40 0 (.aload_n 0) 1 1 = true := by decide +kernel
theorem zd40_1 : zDg 40 1 4 2 1 (.int) = true := by decide +kernel
theorem zd40_4 : zDc 40 4 6 (Int32.ofNat 8) = true := by decide +kernel
theorem zd40_6 : zDm 40 6 .ge 18 9 = true := by decide +kernel
theorem zd40_9 : zD 40 9 (.aload_n 0) 1 10 = true := by decide +kernel
theorem zd40_10 : zD 40 10 (.iload_n 1) 1 11 = true := by decide +kernel
theorem zd40_11 : zDk 40 11 14 41 0 = true := by decide +kernel
theorem zd40_14 : zDc 40 14 15 (-1) = true := by decide +kernel
theorem zd40_15 : zDm 40 15 .eq 20 18 = true := by decide +kernel
theorem zd40_18 : zDc 40 18 19 (-1) = true := by decide +kernel
theorem zd40_19 : zD 40 19 .ireturn 1 20 = true := by decide +kernel
theorem zd40_20 : zD 40 20 (.aload_n 0) 1 21 = true := by decide +kernel
theorem zd40_21 : zDg 40 21 24 2 1 (.int) = true := by decide +kernel
theorem zd40_24 : zD 40 24 (.istore_n 2) 1 25 = true := by decide +kernel
theorem zd40_25 : zD 40 25 (.aload_n 0) 1 26 = true := by decide +kernel
theorem zd40_26 : zDg 40 26 29 2 0 (.array (.object "ReleaseLeaves$StoredFile")) = true := by decide +kernel
theorem zd40_29 : zD 40 29 (.iload_n 2) 1 30 = true := by decide +kernel
theorem zd40_30 : zD 40 30 .aaload 1 31 = true := by decide +kernel
theorem zd40_31 : zD 40 31 (.iload_n 1) 1 32 = true := by decide +kernel
theorem zd40_32 : zDp 40 32 35 4 0 (.int) = true := by decide +kernel
theorem zd40_35 : zD 40 35 (.aload_n 0) 1 36 = true := by decide +kernel
theorem zd40_36 : zD 40 36 (.iload_n 2) 1 37 = true := by decide +kernel
theorem zd40_37 : zDc 40 37 38 (Int32.ofNat 1) = true := by decide +kernel
theorem zd40_38 : zD 40 38 .iadd 1 39 = true := by decide +kernel
theorem zd40_39 : zDp 40 39 42 2 1 (.int) = true := by decide +kernel
theorem zd40_42 : zD 40 42 (.iload_n 2) 1 43 = true := by decide +kernel
theorem zd40_43 : zD 40 43 .ireturn 1 44 = true := by decide +kernel
theorem zd41_0 : zDc 41 0 1 (Int32.ofNat 0) = true := by decide +kernel
theorem zd41_1 : zD 41 1 (.istore_n 2) 1 2 = true := by decide +kernel
theorem zd41_2 : zD 41 2 (.iload_n 2) 1 3 = true := by decide +kernel
theorem zd41_3 : zD 41 3 (.aload_n 0) 1 4 = true := by decide +kernel
theorem zd41_4 : zDg 41 4 7 2 1 (.int) = true := by decide +kernel
theorem zd41_7 : zDm 41 7 .ge 31 10 = true := by decide +kernel
theorem zd41_10 : zD 41 10 (.aload_n 0) 1 11 = true := by decide +kernel
theorem zd41_11 : zDg 41 11 14 2 0 (.array (.object "ReleaseLeaves$StoredFile")) = true := by decide +kernel
theorem zd41_14 : zD 41 14 (.iload_n 2) 1 15 = true := by decide +kernel
theorem zd41_15 : zD 41 15 .aaload 1 16 = true := by decide +kernel
theorem zd41_16 : zDg 41 16 19 4 0 (.int) = true := by decide +kernel
theorem zd41_19 : zD 41 19 (.iload_n 1) 1 20 = true := by decide +kernel
theorem zd41_20 : zDm 41 20 .ne 25 23 = true := by decide +kernel
theorem zd41_23 : zD 41 23 (.iload_n 2) 1 24 = true := by decide +kernel
theorem zd41_24 : zD 41 24 .ireturn 1 25 = true := by decide +kernel
theorem zd41_25 : zDi 41 25 28 2 (Int32.ofNat 1) = true := by decide +kernel
theorem zd41_28 : zDj 41 28 2 = true := by decide +kernel
theorem zd41_31 : zDc 41 31 32 (-1) = true := by decide +kernel
theorem zd41_32 : zD 41 32 .ireturn 1 33 = true := by decide +kernel
theorem zd43_0 : zD 43 0 (.aload_n 0) 1 1 = true := by decide +kernel
theorem zd43_1 : zDg 43 1 4 0 1 (.array (.object "ReleaseLeaves$Release")) = true := by decide +kernel
theorem zd43_4 : zD 43 4 (.aload_n 0) 1 5 = true := by decide +kernel
theorem zd43_5 : zDg 43 5 8 0 2 (.int) = true := by decide +kernel
theorem zd43_8 : zD 43 8 .aaload 1 9 = true := by decide +kernel
theorem zd43_9 : zD 43 9 (.astore_n 3) 1 10 = true := by decide +kernel
theorem zd43_10 : zD 43 10 (.aload_n 3) 1 11 = true := by decide +kernel
theorem zd43_11 : zD 43 11 (.iload_n 1) 1 12 = true := by decide +kernel
theorem zd43_12 : zDk 43 12 15 44 0 = true := by decide +kernel
theorem zd43_15 : zDf 43 15 .ne 28 18 = true := by decide +kernel
theorem zd43_18 : zDx 43 18 1 = true := by decide +kernel
theorem zd43_21 : zD 43 21 .dup 1 22 = true := by decide +kernel
theorem zd43_28 : zD 43 28 (.iload_n 2) 1 29 = true := by decide +kernel
theorem zd43_29 : zDk 43 29 32 24 2 = true := by decide +kernel
theorem zd43_32 : zDf 43 32 .ne 45 35 = true := by decide +kernel
theorem zd43_35 : zDx 43 35 0 = true := by decide +kernel
theorem zd43_38 : zD 43 38 .dup 1 39 = true := by decide +kernel
theorem zd43_45 : zD 43 45 (.aload_n 3) 1 46 = true := by decide +kernel
theorem zd43_46 : zDg 43 46 49 2 0 (.array (.object "ReleaseLeaves$StoredFile")) = true := by decide +kernel
theorem zd43_49 : zD 43 49 (.iload_n 1) 1 50 = true := by decide +kernel
theorem zd43_50 : zD 43 50 .aaload 1 51 = true := by decide +kernel
theorem zd43_51 : zD 43 51 (.iload_n 2) 1 52 = true := by decide +kernel
theorem zd43_52 : zDk 43 52 55 45 0 = true := by decide +kernel
theorem zd43_55 : zD 43 55 .ireturn 1 56 = true := by decide +kernel
theorem zd44_0 : zD 44 0 (.iload_n 1) 1 1 = true := by decide +kernel
theorem zd44_1 : zDf 44 1 .lt 16 4 = true := by decide +kernel
theorem zd44_4 : zD 44 4 (.iload_n 1) 1 5 = true := by decide +kernel
theorem zd44_5 : zD 44 5 (.aload_n 0) 1 6 = true := by decide +kernel
theorem zd44_6 : zDg 44 6 9 2 1 (.int) = true := by decide +kernel
theorem zd44_9 : zDm 44 9 .ge 16 12 = true := by decide +kernel
theorem zd44_12 : zDc 44 12 13 (Int32.ofNat 1) = true := by decide +kernel
theorem zd44_13 : zDj 44 13 17 = true := by decide +kernel
theorem zd44_16 : zDc 44 16 17 (Int32.ofNat 0) = true := by decide +kernel
theorem zd44_17 : zD 44 17 .ireturn 1 18 = true := by decide +kernel
theorem zd45_0 : zD 45 0 (.aload_n 0) 1 1 = true := by decide +kernel
theorem zd45_1 : zDg 45 1 4 4 2 (.int) = true := by decide +kernel
theorem zd45_4 : zDc 45 4 6 (Int32.ofNat 64) = true := by decide +kernel
theorem zd45_6 : zDm 45 6 .lt 11 9 = true := by decide +kernel
theorem zd45_9 : zDc 45 9 10 (Int32.ofNat 0) = true := by decide +kernel
theorem zd45_10 : zD 45 10 .ireturn 1 11 = true := by decide +kernel
theorem zd45_11 : zD 45 11 (.aload_n 0) 1 12 = true := by decide +kernel
theorem zd45_12 : zDg 45 12 15 4 1 (.array .int) = true := by decide +kernel
theorem zd45_15 : zD 45 15 (.aload_n 0) 1 16 = true := by decide +kernel
theorem zd45_16 : zDg 45 16 19 4 2 (.int) = true := by decide +kernel
theorem zd45_19 : zD 45 19 (.iload_n 1) 1 20 = true := by decide +kernel
theorem zd45_20 : zD 45 20 .iastore 1 21 = true := by decide +kernel
theorem zd45_21 : zD 45 21 (.aload_n 0) 1 22 = true := by decide +kernel
theorem zd45_22 : zD 45 22 .dup 1 23 = true := by decide +kernel
theorem zd45_23 : zDg 45 23 26 4 2 (.int) = true := by decide +kernel
theorem zd45_26 : zDc 45 26 27 (Int32.ofNat 1) = true := by decide +kernel
theorem zd45_27 : zD 45 27 .iadd 1 28 = true := by decide +kernel
theorem zd45_28 : zDp 45 28 31 4 2 (.int) = true := by decide +kernel
theorem zd45_31 : zDc 45 31 32 (Int32.ofNat 1) = true := by decide +kernel
theorem zd45_32 : zD 45 32 .ireturn 1 33 = true := by decide +kernel
theorem zd47_0 : zD 47 0 (.aload_n 0) 1 1 = true := by decide +kernel
theorem zd47_1 : zD 47 1 (.iload_n 1) 1 2 = true := by decide +kernel
theorem zd47_2 : zDk 47 2 5 48 0 = true := by decide +kernel
theorem zd47_5 : zD 47 5 (.astore_n 3) 1 6 = true := by decide +kernel
theorem zd47_6 : zD 47 6 (.iload_n 2) 1 7 = true := by decide +kernel
theorem zd47_7 : zDk 47 7 10 49 2 = true := by decide +kernel
theorem zd47_10 : zD 47 10 (.aload_n 3) 1 11 = true := by decide +kernel
theorem zd47_11 : zDg 47 11 14 2 2 (.object "ReleaseLeaves$Tree") = true := by decide +kernel
theorem zd47_14 : zDk 47 14 17 22 0 = true := by decide +kernel
theorem zd47_17 : zD 47 17 (.iload_n 2) 1 18 = true := by decide +kernel
theorem zd47_18 : zD 47 18 .iaload 1 19 = true := by decide +kernel
theorem zd47_19 : zD 47 19 .ireturn 1 20 = true := by decide +kernel
theorem zd48_0 : zD 48 0 (.iload_n 1) 1 1 = true := by decide +kernel
theorem zd48_1 : zDf 48 1 .lt 12 4 = true := by decide +kernel
theorem zd48_4 : zD 48 4 (.iload_n 1) 1 5 = true := by decide +kernel
theorem zd48_5 : zD 48 5 (.aload_n 0) 1 6 = true := by decide +kernel
theorem zd48_6 : zDg 48 6 9 0 2 (.int) = true := by decide +kernel
theorem zd48_9 : zDm 48 9 .lt 22 12 = true := by decide +kernel
theorem zd48_12 : zDx 48 12 1 = true := by decide +kernel
theorem zd48_15 : zD 48 15 .dup 1 16 = true := by decide +kernel
theorem zd48_22 : zD 48 22 (.aload_n 0) 1 23 = true := by decide +kernel
theorem zd48_23 : zDg 48 23 26 0 1 (.array (.object "ReleaseLeaves$Release")) = true := by decide +kernel
theorem zd48_26 : zD 48 26 (.iload_n 1) 1 27 = true := by decide +kernel
theorem zd48_27 : zD 48 27 .aaload 1 28 = true := by decide +kernel
theorem zd48_28 : zD 48 28 .areturn 1 29 = true := by decide +kernel
theorem zd49_0 : zD 49 0 (.iload_n 0) 1 1 = true := by decide +kernel
theorem zd49_1 : zDf 49 1 .lt 10 4 = true := by decide +kernel
theorem zd49_4 : zD 49 4 (.iload_n 0) 1 5 = true := by decide +kernel
theorem zd49_5 : zDc 49 5 7 (Int32.ofNat 32) = true := by decide +kernel
theorem zd49_7 : zDm 49 7 .lt 20 10 = true := by decide +kernel
theorem zd49_10 : zDx 49 10 1 = true := by decide +kernel
theorem zd49_13 : zD 49 13 .dup 1 14 = true := by decide +kernel
theorem zd49_20 : zD 49 20 .return_ 1 21 = true := by decide +kernel
theorem zd51_0 : zD 51 0 (.aload_n 0) 1 1 = true := by decide +kernel
theorem zd51_1 : zD 51 1 (.iload_n 1) 1 2 = true := by decide +kernel
theorem zd51_2 : zD 51 2 (.iload_n 2) 1 3 = true := by decide +kernel
theorem zd51_3 : zDk 51 3 6 52 0 = true := by decide +kernel
theorem zd51_6 : zD 51 6 (.astore 4) 2 8 = true := by decide +kernel
theorem zd51_8 : zD 51 8 (.iload_n 3) 1 9 = true := by decide +kernel
theorem zd51_9 : zDf 51 9 .ge 22 12 = true := by decide +kernel
theorem zd51_12 : zDx 51 12 1 = true := by decide +kernel
theorem zd51_15 : zD 51 15 .dup 1 16 = true := by decide +kernel
theorem zd51_22 : zD 51 22 (.aload 4) 2 24 = true := by decide +kernel
theorem zd51_24 : zDg 51 24 27 2 2 (.object "ReleaseLeaves$Tree") = true := by decide +kernel
theorem zd51_27 : zD 51 27 (.iload_n 2) 1 28 = true := by decide +kernel
theorem zd51_28 : zD 51 28 (.iload_n 3) 1 29 = true := by decide +kernel
theorem zd51_29 : zDk 51 29 32 53 0 = true := by decide +kernel
theorem zd51_32 : zD 51 32 .ireturn 1 33 = true := by decide +kernel
theorem zd52_0 : zD 52 0 (.aload_n 0) 1 1 = true := by decide +kernel
theorem zd52_1 : zD 52 1 (.iload_n 1) 1 2 = true := by decide +kernel
theorem zd52_2 : zDk 52 2 5 48 0 = true := by decide +kernel
theorem zd52_5 : zD 52 5 (.astore_n 3) 1 6 = true := by decide +kernel
theorem zd52_6 : zD 52 6 (.aload_n 3) 1 7 = true := by decide +kernel
theorem zd52_7 : zD 52 7 (.iload_n 2) 1 8 = true := by decide +kernel
theorem zd52_8 : zDk 52 8 11 44 0 = true := by decide +kernel
theorem zd52_11 : zDf 52 11 .ne 24 14 = true := by decide +kernel
theorem zd52_14 : zDx 52 14 1 = true := by decide +kernel
theorem zd52_17 : zD 52 17 .dup 1 18 = true := by decide +kernel
theorem zd52_24 : zD 52 24 (.aload_n 3) 1 25 = true := by decide +kernel
theorem zd52_25 : zD 52 25 .areturn 1 26 = true := by decide +kernel
theorem zd53_0 : zD 53 0 (.iload_n 2) 1 1 = true := by decide +kernel
theorem zd53_1 : zDf 53 1 .ne 10 4 = true := by decide +kernel
theorem zd53_4 : zD 53 4 (.aload_n 0) 1 5 = true := by decide +kernel
theorem zd53_5 : zD 53 5 (.iload_n 1) 1 6 = true := by decide +kernel
theorem zd53_6 : zDk 53 6 9 54 0 = true := by decide +kernel
theorem zd53_9 : zD 53 9 .ireturn 1 10 = true := by decide +kernel
theorem zd53_10 : zD 53 10 (.aload_n 0) 1 11 = true := by decide +kernel
theorem zd53_11 : zD 53 11 (.iload_n 1) 1 12 = true := by decide +kernel
theorem zd53_12 : zD 53 12 (.iload_n 2) 1 13 = true := by decide +kernel
theorem zd53_13 : zDc 53 13 14 (Int32.ofNat 1) = true := by decide +kernel
theorem zd53_14 : zD 53 14 .isub 1 15 = true := by decide +kernel
theorem zd53_15 : zDc 53 15 17 (Int32.ofNat 33) = true := by decide +kernel
theorem zd53_17 : zD 53 17 .idiv 1 18 = true := by decide +kernel
theorem zd53_18 : zDk 53 18 21 57 0 = true := by decide +kernel
theorem zd53_21 : zD 53 21 (.istore_n 3) 1 22 = true := by decide +kernel
theorem zd53_22 : zD 53 22 (.iload_n 3) 1 23 = true := by decide +kernel
theorem zd53_23 : zDc 53 23 24 (-1) = true := by decide +kernel
theorem zd53_24 : zDm 53 24 .ne 29 27 = true := by decide +kernel
theorem zd53_27 : zDc 53 27 28 (-1) = true := by decide +kernel
theorem zd53_28 : zD 53 28 .ireturn 1 29 = true := by decide +kernel
theorem zd53_29 : zD 53 29 (.iload_n 2) 1 30 = true := by decide +kernel
theorem zd53_30 : zDc 53 30 31 (Int32.ofNat 1) = true := by decide +kernel
theorem zd53_31 : zD 53 31 .isub 1 32 = true := by decide +kernel
theorem zd53_32 : zDc 53 32 34 (Int32.ofNat 33) = true := by decide +kernel
theorem zd53_34 : zD 53 34 .irem 1 35 = true := by decide +kernel
theorem zd53_35 : zD 53 35 (.istore 4) 2 37 = true := by decide +kernel
theorem zd53_37 : zD 53 37 (.iload_n 1) 1 38 = true := by decide +kernel
theorem zd53_38 : zD 53 38 (.iload_n 3) 1 39 = true := by decide +kernel
theorem zd53_39 : zD 53 39 .ishr 1 40 = true := by decide +kernel
theorem zd53_40 : zD 53 40 (.istore 5) 2 42 = true := by decide +kernel
theorem zd53_42 : zD 53 42 (.iload 5) 2 44 = true := by decide +kernel
theorem zd53_44 : zDk 53 44 47 56 2 = true := by decide +kernel
theorem zd53_47 : zD 53 47 (.istore 6) 2 49 = true := by decide +kernel
theorem zd53_49 : zD 53 49 (.iload 4) 2 51 = true := by decide +kernel
theorem zd53_51 : zDf 53 51 .ne 67 54 = true := by decide +kernel
theorem zd53_54 : zD 53 54 (.iload 6) 2 56 = true := by decide +kernel
theorem zd53_56 : zD 53 56 (.iload 5) 2 58 = true := by decide +kernel
theorem zd53_58 : zDm 53 58 .ge 65 61 = true := by decide +kernel
theorem zd53_61 : zDc 53 61 62 (Int32.ofNat 0) = true := by decide +kernel
theorem zd53_62 : zDj 53 62 66 = true := by decide +kernel
theorem zd53_65 : zDc 53 65 66 (Int32.ofNat 1) = true := by decide +kernel
theorem zd53_66 : zD 53 66 .ireturn 1 67 = true := by decide +kernel
theorem zd53_67 : zD 53 67 (.aload_n 0) 1 68 = true := by decide +kernel
theorem zd53_68 : zD 53 68 (.iload_n 3) 1 69 = true := by decide +kernel
theorem zd53_69 : zD 53 69 (.iload 6) 2 71 = true := by decide +kernel
theorem zd53_71 : zDk 53 71 74 17 0 = true := by decide +kernel
theorem zd53_74 : zD 53 74 (.iload 4) 2 76 = true := by decide +kernel
theorem zd53_76 : zDc 53 76 77 (Int32.ofNat 1) = true := by decide +kernel
theorem zd53_77 : zD 53 77 .isub 1 78 = true := by decide +kernel
theorem zd53_78 : zD 53 78 .iaload 1 79 = true := by decide +kernel
theorem zd53_79 : zD 53 79 .ireturn 1 80 = true := by decide +kernel
theorem zd54_0 : zDc 54 0 1 (Int32.ofNat 0) = true := by decide +kernel
theorem zd54_1 : zD 54 1 (.istore_n 2) 1 2 = true := by decide +kernel
theorem zd54_2 : zDc 54 2 3 (Int32.ofNat 0) = true := by decide +kernel
theorem zd54_3 : zD 54 3 (.istore_n 3) 1 4 = true := by decide +kernel
theorem zd54_4 : zD 54 4 (.iload_n 3) 1 5 = true := by decide +kernel
theorem zd54_5 : zD 54 5 (.aload_n 0) 1 6 = true := by decide +kernel
theorem zd54_6 : zDg 54 6 9 3 2 (.int) = true := by decide +kernel
theorem zd54_9 : zDm 54 9 .ge 30 12 = true := by decide +kernel
theorem zd54_12 : zD 54 12 (.aload_n 0) 1 13 = true := by decide +kernel
theorem zd54_13 : zD 54 13 (.iload_n 1) 1 14 = true := by decide +kernel
theorem zd54_14 : zD 54 14 (.iload_n 3) 1 15 = true := by decide +kernel
theorem zd54_15 : zDk 54 15 18 55 0 = true := by decide +kernel
theorem zd54_18 : zDf 54 18 .eq 24 21 = true := by decide +kernel
theorem zd54_21 : zDi 54 21 24 2 (Int32.ofNat 1) = true := by decide +kernel
theorem zd54_24 : zDi 54 24 27 3 (Int32.ofNat 1) = true := by decide +kernel
theorem zd54_27 : zDj 54 27 4 = true := by decide +kernel
theorem zd54_30 : zD 54 30 (.iload_n 2) 1 31 = true := by decide +kernel
theorem zd54_31 : zD 54 31 .ireturn 1 32 = true := by decide +kernel
theorem zd55_0 : zD 55 0 (.iload_n 1) 1 1 = true := by decide +kernel
theorem zd55_1 : zD 55 1 (.iload_n 2) 1 2 = true := by decide +kernel
theorem zd55_2 : zD 55 2 .ishr 1 3 = true := by decide +kernel
theorem zd55_3 : zDk 55 3 6 56 2 = true := by decide +kernel
theorem zd55_6 : zD 55 6 (.aload_n 0) 1 7 = true := by decide +kernel
theorem zd55_7 : zDg 55 7 10 3 1 (.array .int) = true := by decide +kernel
theorem zd55_10 : zD 55 10 (.iload_n 2) 1 11 = true := by decide +kernel
theorem zd55_11 : zD 55 11 .iaload 1 12 = true := by decide +kernel
theorem zd55_12 : zDm 55 12 .ge 19 15 = true := by decide +kernel
theorem zd55_15 : zDc 55 15 16 (Int32.ofNat 1) = true := by decide +kernel
theorem zd55_16 : zDj 55 16 20 = true := by decide +kernel
theorem zd55_19 : zDc 55 19 20 (Int32.ofNat 0) = true := by decide +kernel
theorem zd55_20 : zD 55 20 .ireturn 1 21 = true := by decide +kernel
theorem zd56_0 : zD 56 0 (.iload_n 0) 1 1 = true := by decide +kernel
theorem zd56_1 : zDc 56 1 2 (Int32.ofNat 1) = true := by decide +kernel
theorem zd56_2 : zD 56 2 .ixor 1 3 = true := by decide +kernel
theorem zd56_3 : zD 56 3 .ireturn 1 4 = true := by decide +kernel
theorem zd57_0 : zDc 57 0 1 (Int32.ofNat 0) = true := by decide +kernel
theorem zd57_1 : zD 57 1 (.istore_n 3) 1 2 = true := by decide +kernel
theorem zd57_2 : zDc 57 2 3 (Int32.ofNat 0) = true := by decide +kernel
theorem zd57_3 : zD 57 3 (.istore 4) 2 5 = true := by decide +kernel
theorem zd57_5 : zD 57 5 (.iload 4) 2 7 = true := by decide +kernel
theorem zd57_7 : zD 57 7 (.aload_n 0) 1 8 = true := by decide +kernel
theorem zd57_8 : zDg 57 8 11 3 2 (.int) = true := by decide +kernel
theorem zd57_11 : zDm 57 11 .ge 41 14 = true := by decide +kernel
theorem zd57_14 : zD 57 14 (.aload_n 0) 1 15 = true := by decide +kernel
theorem zd57_15 : zD 57 15 (.iload_n 1) 1 16 = true := by decide +kernel
theorem zd57_16 : zD 57 16 (.iload 4) 2 18 = true := by decide +kernel
theorem zd57_18 : zDk 57 18 21 55 0 = true := by decide +kernel
theorem zd57_21 : zDf 57 21 .eq 35 24 = true := by decide +kernel
theorem zd57_24 : zD 57 24 (.iload_n 3) 1 25 = true := by decide +kernel
theorem zd57_25 : zD 57 25 (.iload_n 2) 1 26 = true := by decide +kernel
theorem zd57_26 : zDm 57 26 .ne 32 29 = true := by decide +kernel
theorem zd57_29 : zD 57 29 (.iload 4) 2 31 = true := by decide +kernel
theorem zd57_31 : zD 57 31 .ireturn 1 32 = true := by decide +kernel
theorem zd57_32 : zDi 57 32 35 3 (Int32.ofNat 1) = true := by decide +kernel
theorem zd57_35 : zDi 57 35 38 4 (Int32.ofNat 1) = true := by decide +kernel
theorem zd57_38 : zDj 57 38 5 = true := by decide +kernel
theorem zd57_41 : zDc 57 41 42 (-1) = true := by decide +kernel
theorem zd57_42 : zD 57 42 .ireturn 1 43 = true := by decide +kernel
theorem zd59_0 : zD 59 0 (.aload_n 0) 1 1 = true := by decide +kernel
theorem zd59_1 : zD 59 1 (.iload_n 1) 1 2 = true := by decide +kernel
theorem zd59_2 : zDk 59 2 5 48 0 = true := by decide +kernel
theorem zd59_5 : zD 59 5 (.astore 4) 2 7 = true := by decide +kernel
theorem zd59_7 : zD 59 7 (.iload_n 2) 1 8 = true := by decide +kernel
theorem zd59_8 : zDf 59 8 .lt 17 11 = true := by decide +kernel
theorem zd59_11 : zD 59 11 (.iload_n 2) 1 12 = true := by decide +kernel
theorem zd59_12 : zDc 59 12 14 (Int32.ofNat 16) = true := by decide +kernel
theorem zd59_14 : zDm 59 14 .lt 27 17 = true := by decide +kernel
theorem zd59_17 : zDx 59 17 0 = true := by decide +kernel
theorem zd59_20 : zD 59 20 .dup 1 21 = true := by decide +kernel
theorem zd59_27 : zD 59 27 (.iload_n 3) 1 28 = true := by decide +kernel
theorem zd59_28 : zDf 59 28 .lt 36 31 = true := by decide +kernel
theorem zd59_31 : zD 59 31 (.iload_n 3) 1 32 = true := by decide +kernel
theorem zd59_32 : zDc 59 32 33 (Int32.ofNat 4) = true := by decide +kernel
theorem zd59_33 : zDm 59 33 .lt 46 36 = true := by decide +kernel
theorem zd59_36 : zDx 59 36 0 = true := by decide +kernel
theorem zd59_39 : zD 59 39 .dup 1 40 = true := by decide +kernel
theorem zd59_46 : zD 59 46 (.aload 4) 2 48 = true := by decide +kernel
theorem zd59_48 : zDg 59 48 51 2 3 (.array .int) = true := by decide +kernel
theorem zd59_51 : zD 59 51 (.iload_n 2) 1 52 = true := by decide +kernel
theorem zd59_52 : zD 59 52 (.iload_n 3) 1 53 = true := by decide +kernel
theorem zd59_53 : zD 59 53 .iastore 1 54 = true := by decide +kernel
theorem zd59_54 : zD 59 54 (.aload_n 0) 1 55 = true := by decide +kernel
theorem zd59_55 : zDg 59 55 58 0 7 (.object "ReleaseLeaves$EventLog") = true := by decide +kernel
theorem zd59_58 : zD 59 58 (.iload_n 1) 1 59 = true := by decide +kernel
theorem zd59_59 : zDc 59 59 60 (Int32.ofNat 0) = true := by decide +kernel
theorem zd59_60 : zD 59 60 (.iload_n 2) 1 61 = true := by decide +kernel
theorem zd59_61 : zD 59 61 (.iload_n 3) 1 62 = true := by decide +kernel
theorem zd59_62 : zDk 59 62 65 60 0 = true := by decide +kernel
theorem zd59_65 : zD 59 65 (.aload 4) 2 67 = true := by decide +kernel
theorem zd59_67 : zDk 59 67 70 61 0 = true := by decide +kernel
theorem zd59_70 : zDf 59 70 .eq 77 73 = true := by decide +kernel
theorem zd59_73 : zDc 59 73 74 (Int32.ofNat 1) = true := by decide +kernel
theorem zd59_74 : zDj 59 74 78 = true := by decide +kernel
theorem zd59_77 : zDc 59 77 78 (Int32.ofNat 0) = true := by decide +kernel
theorem zd59_78 : zD 59 78 .ireturn 1 79 = true := by decide +kernel
theorem zd60_0 : zD 60 0 (.aload_n 0) 1 1 = true := by decide +kernel
theorem zd60_1 : zDg 60 1 4 5 4 (.int) = true := by decide +kernel
theorem zd60_4 : zDc 60 4 6 (Int32.ofNat 100) = true := by decide +kernel
theorem zd60_6 : zDm 60 6 .lt 10 9 = true := by decide +kernel
theorem zd60_9 : zD 60 9 .return_ 1 10 = true := by decide +kernel
theorem zd60_10 : zD 60 10 (.aload_n 0) 1 11 = true := by decide +kernel
theorem zd60_11 : zDg 60 11 14 5 0 (.array .int) = true := by decide +kernel
theorem zd60_14 : zD 60 14 (.aload_n 0) 1 15 = true := by decide +kernel
theorem zd60_15 : zDg 60 15 18 5 4 (.int) = true := by decide +kernel
theorem zd60_18 : zD 60 18 (.iload_n 1) 1 19 = true := by decide +kernel
theorem zd60_19 : zD 60 19 .iastore 1 20 = true := by decide +kernel
theorem zd60_20 : zD 60 20 (.aload_n 0) 1 21 = true := by decide +kernel
theorem zd60_21 : zDg 60 21 24 5 1 (.array .int) = true := by decide +kernel
theorem zd60_24 : zD 60 24 (.aload_n 0) 1 25 = true := by decide +kernel
theorem zd60_25 : zDg 60 25 28 5 4 (.int) = true := by decide +kernel
theorem zd60_28 : zD 60 28 (.iload_n 2) 1 29 = true := by decide +kernel
theorem zd60_29 : zD 60 29 .iastore 1 30 = true := by decide +kernel
theorem zd60_30 : zD 60 30 (.aload_n 0) 1 31 = true := by decide +kernel
theorem zd60_31 : zDg 60 31 34 5 2 (.array .int) = true := by decide +kernel
theorem zd60_34 : zD 60 34 (.aload_n 0) 1 35 = true := by decide +kernel
theorem zd60_35 : zDg 60 35 38 5 4 (.int) = true := by decide +kernel
theorem zd60_38 : zD 60 38 (.iload_n 3) 1 39 = true := by decide +kernel
theorem zd60_39 : zD 60 39 .iastore 1 40 = true := by decide +kernel
theorem zd60_40 : zD 60 40 (.aload_n 0) 1 41 = true := by decide +kernel
theorem zd60_41 : zDg 60 41 44 5 3 (.array .int) = true := by decide +kernel
theorem zd60_44 : zD 60 44 (.aload_n 0) 1 45 = true := by decide +kernel
theorem zd60_45 : zDg 60 45 48 5 4 (.int) = true := by decide +kernel
theorem zd60_48 : zD 60 48 (.iload 4) 2 50 = true := by decide +kernel
theorem zd60_50 : zD 60 50 .iastore 1 51 = true := by decide +kernel
theorem zd60_51 : zD 60 51 (.aload_n 0) 1 52 = true := by decide +kernel
theorem zd60_52 : zD 60 52 .dup 1 53 = true := by decide +kernel
theorem zd60_53 : zDg 60 53 56 5 4 (.int) = true := by decide +kernel
theorem zd60_56 : zDc 60 56 57 (Int32.ofNat 1) = true := by decide +kernel
theorem zd60_57 : zD 60 57 .iadd 1 58 = true := by decide +kernel
theorem zd60_58 : zDp 60 58 61 5 4 (.int) = true := by decide +kernel
theorem zd60_61 : zD 60 61 .return_ 1 62 = true := by decide +kernel
theorem zd61_0 : zDc 61 0 1 (-1) = true := by decide +kernel
theorem zd61_1 : zD 61 1 (.istore_n 1) 1 2 = true := by decide +kernel
theorem zd61_2 : zD 61 2 (.aload_n 0) 1 3 = true := by decide +kernel
theorem zd61_3 : zDg 61 3 6 2 3 (.array .int) = true := by decide +kernel
theorem zd61_6 : zD 61 6 (.astore_n 2) 1 7 = true := by decide +kernel
theorem zd61_7 : zD 61 7 (.aload_n 2) 1 8 = true := by decide +kernel
theorem zd61_8 : zD 61 8 .arraylength 1 9 = true := by decide +kernel
theorem zd61_9 : zD 61 9 (.istore_n 3) 1 10 = true := by decide +kernel
theorem zd61_10 : zDc 61 10 11 (Int32.ofNat 0) = true := by decide +kernel
theorem zd61_11 : zD 61 11 (.istore 4) 2 13 = true := by decide +kernel
theorem zd61_13 : zD 61 13 (.iload 4) 2 15 = true := by decide +kernel
theorem zd61_15 : zD 61 15 (.iload_n 3) 1 16 = true := by decide +kernel
theorem zd61_16 : zDm 61 16 .ge 56 19 = true := by decide +kernel
theorem zd61_19 : zD 61 19 (.aload_n 2) 1 20 = true := by decide +kernel
theorem zd61_20 : zD 61 20 (.iload 4) 2 22 = true := by decide +kernel
theorem zd61_22 : zD 61 22 .iaload 1 23 = true := by decide +kernel
theorem zd61_23 : zD 61 23 (.istore 5) 2 25 = true := by decide +kernel
theorem zd61_25 : zD 61 25 (.iload 5) 2 27 = true := by decide +kernel
theorem zd61_27 : zDc 61 27 28 (-1) = true := by decide +kernel
theorem zd61_28 : zDm 61 28 .ne 34 31 = true := by decide +kernel
theorem zd61_31 : zDj 61 31 50 = true := by decide +kernel
theorem zd61_34 : zD 61 34 (.iload_n 1) 1 35 = true := by decide +kernel
theorem zd61_35 : zDc 61 35 36 (-1) = true := by decide +kernel
theorem zd61_36 : zDm 61 36 .eq 47 39 = true := by decide +kernel
theorem zd61_39 : zD 61 39 (.iload 5) 2 41 = true := by decide +kernel
theorem zd61_41 : zD 61 41 (.iload_n 1) 1 42 = true := by decide +kernel
theorem zd61_42 : zDm 61 42 .eq 47 45 = true := by decide +kernel
theorem zd61_45 : zDc 61 45 46 (Int32.ofNat 1) = true := by decide +kernel
theorem zd61_46 : zD 61 46 .ireturn 1 47 = true := by decide +kernel
theorem zd61_47 : zD 61 47 (.iload 5) 2 49 = true := by decide +kernel
theorem zd61_49 : zD 61 49 (.istore_n 1) 1 50 = true := by decide +kernel
theorem zd61_50 : zDi 61 50 53 4 (Int32.ofNat 1) = true := by decide +kernel
theorem zd61_53 : zDj 61 53 13 = true := by decide +kernel
theorem zd61_56 : zDc 61 56 57 (Int32.ofNat 0) = true := by decide +kernel
theorem zd61_57 : zD 61 57 .ireturn 1 58 = true := by decide +kernel
theorem zd63_0 : zD 63 0 (.aload_n 0) 1 1 = true := by decide +kernel
theorem zd63_1 : zD 63 1 (.iload_n 1) 1 2 = true := by decide +kernel
theorem zd63_2 : zDk 63 2 5 48 0 = true := by decide +kernel
theorem zd63_5 : zD 63 5 (.astore_n 2) 1 6 = true := by decide +kernel
theorem zd63_6 : zD 63 6 (.aload_n 2) 1 7 = true := by decide +kernel
theorem zd63_7 : zDg 63 7 10 2 4 (.boolean) = true := by decide +kernel
theorem zd63_10 : zDf 63 10 .eq 15 13 = true := by decide +kernel
theorem zd63_13 : zDc 63 13 14 (-1) = true := by decide +kernel
theorem zd63_14 : zD 63 14 .ireturn 1 15 = true := by decide +kernel
theorem zd63_15 : zD 63 15 (.aload_n 2) 1 16 = true := by decide +kernel
theorem zd63_16 : zDc 63 16 17 (Int32.ofNat 1) = true := by decide +kernel
theorem zd63_17 : zDp 63 17 20 2 4 (.boolean) = true := by decide +kernel
theorem zd63_20 : zD 63 20 (.aload_n 0) 1 21 = true := by decide +kernel
theorem zd63_21 : zD 63 21 .dup 1 22 = true := by decide +kernel
theorem zd63_22 : zDg 63 22 25 0 4 (.int) = true := by decide +kernel
theorem zd63_25 : zDc 63 25 26 (Int32.ofNat 1) = true := by decide +kernel
theorem zd63_26 : zD 63 26 .iadd 1 27 = true := by decide +kernel
theorem zd63_27 : zDp 63 27 30 0 4 (.int) = true := by decide +kernel
theorem zd63_30 : zD 63 30 (.aload_n 0) 1 31 = true := by decide +kernel
theorem zd63_31 : zDg 63 31 34 0 7 (.object "ReleaseLeaves$EventLog") = true := by decide +kernel
theorem zd63_34 : zD 63 34 (.iload_n 1) 1 35 = true := by decide +kernel
theorem zd63_35 : zDc 63 35 36 (Int32.ofNat 2) = true := by decide +kernel
theorem zd63_36 : zDc 63 36 37 (-1) = true := by decide +kernel
theorem zd63_37 : zDc 63 37 38 (-1) = true := by decide +kernel
theorem zd63_38 : zDk 63 38 41 60 0 = true := by decide +kernel
theorem zd63_41 : zD 63 41 (.aload_n 0) 1 42 = true := by decide +kernel
theorem zd63_42 : zDg 63 42 45 0 4 (.int) = true := by decide +kernel
theorem zd63_45 : zD 63 45 .ireturn 1 46 = true := by decide +kernel
theorem zd65_0 : zD 65 0 (.aload_n 0) 1 1 = true := by decide +kernel
theorem zd65_1 : zD 65 1 (.iload_n 1) 1 2 = true := by decide +kernel
theorem zd65_2 : zDk 65 2 5 48 0 = true := by decide +kernel
theorem zd65_5 : zD 65 5 (.astore_n 2) 1 6 = true := by decide +kernel
theorem zd65_6 : zD 65 6 (.aload_n 2) 1 7 = true := by decide +kernel
theorem zd65_7 : zDg 65 7 10 2 4 (.boolean) = true := by decide +kernel
theorem zd65_10 : zDf 65 10 .ne 29 13 = true := by decide +kernel
theorem zd65_13 : zD 65 13 (.aload_n 2) 1 14 = true := by decide +kernel
theorem zd65_14 : zDk 65 14 17 61 0 = true := by decide +kernel
theorem zd65_17 : zDf 65 17 .eq 29 20 = true := by decide +kernel
theorem zd65_20 : zD 65 20 (.aload_n 0) 1 21 = true := by decide +kernel
theorem zd65_21 : zDg 65 21 24 0 6 (.int) = true := by decide +kernel
theorem zd65_24 : zDc 65 24 26 (Int32.ofNat 60) = true := by decide +kernel
theorem zd65_26 : zDm 65 26 .lt 31 29 = true := by decide +kernel
theorem zd65_29 : zDc 65 29 30 (-1) = true := by decide +kernel
theorem zd65_30 : zD 65 30 .ireturn 1 31 = true := by decide +kernel
theorem zd65_31 : zD 65 31 (.aload_n 0) 1 32 = true := by decide +kernel
theorem zd65_32 : zDg 65 32 35 0 6 (.int) = true := by decide +kernel
theorem zd65_35 : zD 65 35 (.istore_n 3) 1 36 = true := by decide +kernel
theorem zd65_36 : zD 65 36 (.aload_n 0) 1 37 = true := by decide +kernel
theorem zd65_37 : zDg 65 37 40 0 5 (.array .int) = true := by decide +kernel
theorem zd65_40 : zD 65 40 (.iload_n 3) 1 41 = true := by decide +kernel
theorem zd65_41 : zD 65 41 (.iload_n 1) 1 42 = true := by decide +kernel
theorem zd65_42 : zD 65 42 .iastore 1 43 = true := by decide +kernel
theorem zd65_43 : zD 65 43 (.aload_n 0) 1 44 = true := by decide +kernel
theorem zd65_44 : zD 65 44 (.iload_n 3) 1 45 = true := by decide +kernel
theorem zd65_45 : zDc 65 45 46 (Int32.ofNat 1) = true := by decide +kernel
theorem zd65_46 : zD 65 46 .iadd 1 47 = true := by decide +kernel
theorem zd65_47 : zDp 65 47 50 0 6 (.int) = true := by decide +kernel
theorem zd65_50 : zD 65 50 (.aload_n 0) 1 51 = true := by decide +kernel
theorem zd65_51 : zDg 65 51 54 0 7 (.object "ReleaseLeaves$EventLog") = true := by decide +kernel
theorem zd65_54 : zD 65 54 (.iload_n 1) 1 55 = true := by decide +kernel
theorem zd65_55 : zDc 65 55 56 (Int32.ofNat 1) = true := by decide +kernel
theorem zd65_56 : zD 65 56 (.iload_n 3) 1 57 = true := by decide +kernel
theorem zd65_57 : zDc 65 57 58 (-1) = true := by decide +kernel
theorem zd65_58 : zDk 65 58 61 60 0 = true := by decide +kernel
theorem zd65_61 : zD 65 61 (.iload_n 3) 1 62 = true := by decide +kernel
theorem zd65_62 : zD 65 62 .ireturn 1 63 = true := by decide +kernel
theorem zd67_0 : zD 67 0 (.iload_n 1) 1 1 = true := by decide +kernel
theorem zd67_1 : zDf 67 1 .lt 12 4 = true := by decide +kernel
theorem zd67_4 : zD 67 4 (.iload_n 1) 1 5 = true := by decide +kernel
theorem zd67_5 : zD 67 5 (.aload_n 0) 1 6 = true := by decide +kernel
theorem zd67_6 : zDg 67 6 9 0 6 (.int) = true := by decide +kernel
theorem zd67_9 : zDm 67 9 .lt 22 12 = true := by decide +kernel
theorem zd67_12 : zDx 67 12 1 = true := by decide +kernel
theorem zd67_15 : zD 67 15 .dup 1 16 = true := by decide +kernel
theorem zd67_22 : zD 67 22 (.iload_n 3) 1 23 = true := by decide +kernel
theorem zd67_23 : zDf 67 23 .lt 31 26 = true := by decide +kernel
theorem zd67_26 : zD 67 26 (.iload_n 3) 1 27 = true := by decide +kernel
theorem zd67_27 : zDc 67 27 28 (Int32.ofNat 2) = true := by decide +kernel
theorem zd67_28 : zDm 67 28 .le 41 31 = true := by decide +kernel
theorem zd67_31 : zDx 67 31 1 = true := by decide +kernel
theorem zd67_34 : zD 67 34 .dup 1 35 = true := by decide +kernel
theorem zd67_41 : zD 67 41 (.aload_n 0) 1 42 = true := by decide +kernel
theorem zd67_42 : zDg 67 42 45 0 7 (.object "ReleaseLeaves$EventLog") = true := by decide +kernel
theorem zd67_45 : zD 67 45 (.aload_n 0) 1 46 = true := by decide +kernel
theorem zd67_46 : zDg 67 46 49 0 5 (.array .int) = true := by decide +kernel
theorem zd67_49 : zD 67 49 (.iload_n 1) 1 50 = true := by decide +kernel
theorem zd67_50 : zD 67 50 .iaload 1 51 = true := by decide +kernel
theorem zd67_51 : zD 67 51 (.iload_n 2) 1 52 = true := by decide +kernel
theorem zd67_52 : zDk 67 52 55 68 0 = true := by decide +kernel
theorem zd67_55 : zD 67 55 (.istore 4) 2 57 = true := by decide +kernel
theorem zd67_57 : zD 67 57 (.iload 4) 2 59 = true := by decide +kernel
theorem zd67_59 : zDc 67 59 60 (-1) = true := by decide +kernel
theorem zd67_60 : zDm 67 60 .ne 67 63 = true := by decide +kernel
theorem zd67_63 : zDc 67 63 64 (-1) = true := by decide +kernel
theorem zd67_64 : zDj 67 64 77 = true := by decide +kernel
theorem zd67_67 : zD 67 67 (.aload_n 0) 1 68 = true := by decide +kernel
theorem zd67_68 : zDg 67 68 71 0 7 (.object "ReleaseLeaves$EventLog") = true := by decide +kernel
theorem zd67_71 : zD 67 71 (.iload 4) 2 73 = true := by decide +kernel
theorem zd67_73 : zD 67 73 (.iload_n 3) 1 74 = true := by decide +kernel
theorem zd67_74 : zDk 67 74 77 69 0 = true := by decide +kernel
theorem zd67_77 : zD 67 77 .ireturn 1 78 = true := by decide +kernel
theorem zd68_0 : zDc 68 0 1 (Int32.ofNat 0) = true := by decide +kernel
theorem zd68_1 : zD 68 1 (.istore_n 3) 1 2 = true := by decide +kernel
theorem zd68_2 : zDc 68 2 3 (Int32.ofNat 0) = true := by decide +kernel
theorem zd68_3 : zD 68 3 (.istore 4) 2 5 = true := by decide +kernel
theorem zd68_5 : zD 68 5 (.iload 4) 2 7 = true := by decide +kernel
theorem zd68_7 : zD 68 7 (.aload_n 0) 1 8 = true := by decide +kernel
theorem zd68_8 : zDg 68 8 11 5 4 (.int) = true := by decide +kernel
theorem zd68_11 : zDm 68 11 .ge 42 14 = true := by decide +kernel
theorem zd68_14 : zD 68 14 (.aload_n 0) 1 15 = true := by decide +kernel
theorem zd68_15 : zDg 68 15 18 5 0 (.array .int) = true := by decide +kernel
theorem zd68_18 : zD 68 18 (.iload 4) 2 20 = true := by decide +kernel
theorem zd68_20 : zD 68 20 .iaload 1 21 = true := by decide +kernel
theorem zd68_21 : zD 68 21 (.iload_n 1) 1 22 = true := by decide +kernel
theorem zd68_22 : zDm 68 22 .ne 36 25 = true := by decide +kernel
theorem zd68_25 : zD 68 25 (.iload_n 3) 1 26 = true := by decide +kernel
theorem zd68_26 : zD 68 26 (.iload_n 2) 1 27 = true := by decide +kernel
theorem zd68_27 : zDm 68 27 .ne 33 30 = true := by decide +kernel
theorem zd68_30 : zD 68 30 (.iload 4) 2 32 = true := by decide +kernel
theorem zd68_32 : zD 68 32 .ireturn 1 33 = true := by decide +kernel
theorem zd68_33 : zDi 68 33 36 3 (Int32.ofNat 1) = true := by decide +kernel
theorem zd68_36 : zDi 68 36 39 4 (Int32.ofNat 1) = true := by decide +kernel
theorem zd68_39 : zDj 68 39 5 = true := by decide +kernel
theorem zd68_42 : zDc 68 42 43 (-1) = true := by decide +kernel
theorem zd68_43 : zD 68 43 .ireturn 1 44 = true := by decide +kernel
theorem zd69_0 : zD 69 0 (.iload_n 2) 1 1 = true := by decide +kernel
theorem zd69_1 : zDf 69 1 .ne 11 4 = true := by decide +kernel
theorem zd69_4 : zD 69 4 (.aload_n 0) 1 5 = true := by decide +kernel
theorem zd69_5 : zDg 69 5 8 5 1 (.array .int) = true := by decide +kernel
theorem zd69_8 : zD 69 8 (.iload_n 1) 1 9 = true := by decide +kernel
theorem zd69_9 : zD 69 9 .iaload 1 10 = true := by decide +kernel
theorem zd69_10 : zD 69 10 .ireturn 1 11 = true := by decide +kernel
theorem zd69_11 : zD 69 11 (.iload_n 2) 1 12 = true := by decide +kernel
theorem zd69_12 : zDc 69 12 13 (Int32.ofNat 1) = true := by decide +kernel
theorem zd69_13 : zDm 69 13 .ne 25 16 = true := by decide +kernel
theorem zd69_16 : zD 69 16 (.aload_n 0) 1 17 = true := by decide +kernel
theorem zd69_17 : zDg 69 17 20 5 2 (.array .int) = true := by decide +kernel
theorem zd69_20 : zD 69 20 (.iload_n 1) 1 21 = true := by decide +kernel
theorem zd69_21 : zD 69 21 .iaload 1 22 = true := by decide +kernel
theorem zd69_22 : zDj 69 22 31 = true := by decide +kernel
theorem zd69_25 : zD 69 25 (.aload_n 0) 1 26 = true := by decide +kernel
theorem zd69_26 : zDg 69 26 29 5 3 (.array .int) = true := by decide +kernel
theorem zd69_29 : zD 69 29 (.iload_n 1) 1 30 = true := by decide +kernel
theorem zd69_30 : zD 69 30 .iaload 1 31 = true := by decide +kernel
theorem zd69_31 : zD 69 31 .ireturn 1 32 = true := by decide +kernel
theorem zd71_0 : zD 71 0 (.aload_n 0) 1 1 = true := by decide +kernel
theorem zd71_1 : zD 71 1 (.iload_n 1) 1 2 = true := by decide +kernel
theorem zd71_2 : zD 71 2 (.iload_n 2) 1 3 = true := by decide +kernel
theorem zd71_3 : zDk 71 3 6 52 0 = true := by decide +kernel
theorem zd71_6 : zD 71 6 (.astore 4) 2 8 = true := by decide +kernel
theorem zd71_8 : zD 71 8 (.iload_n 3) 1 9 = true := by decide +kernel
theorem zd71_9 : zDk 71 9 12 49 2 = true := by decide +kernel
theorem zd71_12 : zD 71 12 (.aload 4) 2 14 = true := by decide +kernel
theorem zd71_14 : zDg 71 14 17 2 2 (.object "ReleaseLeaves$Tree") = true := by decide +kernel
theorem zd71_17 : zDc 71 17 18 (Int32.ofNat 0) = true := by decide +kernel
theorem zd71_18 : zD 71 18 (.iload_n 2) 1 19 = true := by decide +kernel
theorem zd71_19 : zDk 71 19 22 17 0 = true := by decide +kernel
theorem zd71_22 : zD 71 22 (.iload_n 3) 1 23 = true := by decide +kernel
theorem zd71_23 : zD 71 23 .iaload 1 24 = true := by decide +kernel
theorem zd71_24 : zD 71 24 .ireturn 1 25 = true := by decide +kernel
theorem zd73_0 : zD 73 0 (.iload_n 1) 1 1 = true := by decide +kernel
theorem zd73_1 : zDf 73 1 .lt 17 4 = true := by decide +kernel
theorem zd73_4 : zD 73 4 (.iload_n 1) 1 5 = true := by decide +kernel
theorem zd73_5 : zD 73 5 (.iload_n 2) 1 6 = true := by decide +kernel
theorem zd73_6 : zDm 73 6 .gt 17 9 = true := by decide +kernel
theorem zd73_9 : zD 73 9 (.iload_n 2) 1 10 = true := by decide +kernel
theorem zd73_10 : zD 73 10 (.aload_n 0) 1 11 = true := by decide +kernel
theorem zd73_11 : zDg 73 11 14 0 2 (.int) = true := by decide +kernel
theorem zd73_14 : zDm 73 14 .le 27 17 = true := by decide +kernel
theorem zd73_17 : zDx 73 17 1 = true := by decide +kernel
theorem zd73_20 : zD 73 20 .dup 1 21 = true := by decide +kernel
theorem zd73_27 : zD 73 27 (.iload_n 3) 1 28 = true := by decide +kernel
theorem zd73_28 : zDf 73 28 .ge 41 31 = true := by decide +kernel
theorem zd73_31 : zDx 73 31 1 = true := by decide +kernel
theorem zd73_34 : zD 73 34 .dup 1 35 = true := by decide +kernel
theorem zd73_41 : zD 73 41 (.iload_n 3) 1 42 = true := by decide +kernel
theorem zd73_42 : zDc 73 42 44 (Int32.ofNat 32) = true := by decide +kernel
theorem zd73_44 : zD 73 44 .idiv 1 45 = true := by decide +kernel
theorem zd73_45 : zD 73 45 (.istore 4) 2 47 = true := by decide +kernel
theorem zd73_47 : zD 73 47 (.iload_n 3) 1 48 = true := by decide +kernel
theorem zd73_48 : zDc 73 48 50 (Int32.ofNat 32) = true := by decide +kernel
theorem zd73_50 : zD 73 50 .irem 1 51 = true := by decide +kernel
theorem zd73_51 : zD 73 51 (.istore 5) 2 53 = true := by decide +kernel
theorem zd73_53 : zD 73 53 (.iload_n 2) 1 54 = true := by decide +kernel
theorem zd73_54 : zD 73 54 (.iload_n 1) 1 55 = true := by decide +kernel
theorem zd73_55 : zD 73 55 .isub 1 56 = true := by decide +kernel
theorem zd73_56 : zD 73 56 (.istore 6) 2 58 = true := by decide +kernel
theorem zd73_58 : zD 73 58 (.iload 4) 2 60 = true := by decide +kernel
theorem zd73_60 : zDf 73 60 .ne 73 63 = true := by decide +kernel
theorem zd73_63 : zD 73 63 (.aload_n 0) 1 64 = true := by decide +kernel
theorem zd73_64 : zDg 73 64 67 0 3 (.array (.array .int)) = true := by decide +kernel
theorem zd73_67 : zD 73 67 (.iload_n 1) 1 68 = true := by decide +kernel
theorem zd73_68 : zD 73 68 .aaload 1 69 = true := by decide +kernel
theorem zd73_69 : zD 73 69 (.iload 5) 2 71 = true := by decide +kernel
theorem zd73_71 : zD 73 71 .iaload 1 72 = true := by decide +kernel
theorem zd73_72 : zD 73 72 .ireturn 1 73 = true := by decide +kernel
theorem zd73_73 : zD 73 73 (.iload 4) 2 75 = true := by decide +kernel
theorem zd73_75 : zD 73 75 (.iload 6) 2 77 = true := by decide +kernel
theorem zd73_77 : zDm 73 77 .gt 101 80 = true := by decide +kernel
theorem zd73_80 : zD 73 80 (.aload_n 0) 1 81 = true := by decide +kernel
theorem zd73_81 : zDg 73 81 84 0 1 (.array (.object "ReleaseLeaves$Release")) = true := by decide +kernel
theorem zd73_84 : zD 73 84 (.iload_n 1) 1 85 = true := by decide +kernel
theorem zd73_85 : zD 73 85 (.iload 4) 2 87 = true := by decide +kernel
theorem zd73_87 : zD 73 87 .iadd 1 88 = true := by decide +kernel
theorem zd73_88 : zDc 73 88 89 (Int32.ofNat 1) = true := by decide +kernel
theorem zd73_89 : zD 73 89 .isub 1 90 = true := by decide +kernel
theorem zd73_90 : zD 73 90 .aaload 1 91 = true := by decide +kernel
theorem zd73_91 : zDg 73 91 94 2 2 (.object "ReleaseLeaves$Tree") = true := by decide +kernel
theorem zd73_94 : zDk 73 94 97 22 0 = true := by decide +kernel
theorem zd73_97 : zD 73 97 (.iload 5) 2 99 = true := by decide +kernel
theorem zd73_99 : zD 73 99 .iaload 1 100 = true := by decide +kernel
theorem zd73_100 : zD 73 100 .ireturn 1 101 = true := by decide +kernel
theorem zd73_101 : zD 73 101 (.iload 4) 2 103 = true := by decide +kernel
theorem zd73_103 : zD 73 103 (.iload 6) 2 105 = true := by decide +kernel
theorem zd73_105 : zDc 73 105 106 (Int32.ofNat 1) = true := by decide +kernel
theorem zd73_106 : zD 73 106 .iadd 1 107 = true := by decide +kernel
theorem zd73_107 : zDm 73 107 .ne 122 110 = true := by decide +kernel
theorem zd73_110 : zD 73 110 (.aload_n 0) 1 111 = true := by decide +kernel
theorem zd73_111 : zDg 73 111 114 0 3 (.array (.array .int)) = true := by decide +kernel
theorem zd73_114 : zD 73 114 (.iload_n 2) 1 115 = true := by decide +kernel
theorem zd73_115 : zD 73 115 .aaload 1 116 = true := by decide +kernel
theorem zd73_116 : zD 73 116 (.iload 5) 2 118 = true := by decide +kernel
theorem zd73_118 : zD 73 118 .iaload 1 119 = true := by decide +kernel
theorem zd73_119 : zDj 73 119 123 = true := by decide +kernel
theorem zd73_122 : zDc 73 122 123 (-1) = true := by decide +kernel
theorem zd73_123 : zD 73 123 .ireturn 1 124 = true := by decide +kernel
theorem zd75_0 : zD 75 0 (.aload_n 0) 1 1 = true := by decide +kernel
theorem zd75_1 : zDg 75 1 4 0 8 (.object "ReleaseLeaves$Claim") = true := by decide +kernel
theorem zd75_4 : zD 75 4 (.iload_n 1) 1 5 = true := by decide +kernel
theorem zd75_5 : zDk 75 5 8 28 0 = true := by decide +kernel
theorem zd75_8 : zDf 75 8 .ne 21 11 = true := by decide +kernel
theorem zd75_11 : zDx 75 11 1 = true := by decide +kernel
theorem zd75_14 : zD 75 14 .dup 1 15 = true := by decide +kernel
theorem zd75_21 : zD 75 21 (.aload_n 0) 1 22 = true := by decide +kernel
theorem zd75_22 : zDg 75 22 25 0 8 (.object "ReleaseLeaves$Claim") = true := by decide +kernel
theorem zd75_25 : zD 75 25 (.iload_n 1) 1 26 = true := by decide +kernel
theorem zd75_26 : zD 75 26 (.iload_n 2) 1 27 = true := by decide +kernel
theorem zd75_27 : zDk 75 27 30 76 0 = true := by decide +kernel
theorem zd75_30 : zD 75 30 .ireturn 1 31 = true := by decide +kernel
theorem zd76_0 : zD 76 0 (.aload_n 0) 1 1 = true := by decide +kernel
theorem zd76_1 : zDg 76 1 4 6 0 (.array .int) = true := by decide +kernel
theorem zd76_4 : zD 76 4 (.iload_n 1) 1 5 = true := by decide +kernel
theorem zd76_5 : zD 76 5 .iaload 1 6 = true := by decide +kernel
theorem zd76_6 : zD 76 6 (.istore_n 3) 1 7 = true := by decide +kernel
theorem zd76_7 : zD 76 7 (.aload_n 0) 1 8 = true := by decide +kernel
theorem zd76_8 : zDg 76 8 11 6 0 (.array .int) = true := by decide +kernel
theorem zd76_11 : zD 76 11 (.iload_n 1) 1 12 = true := by decide +kernel
theorem zd76_12 : zD 76 12 (.iload_n 3) 1 13 = true := by decide +kernel
theorem zd76_13 : zD 76 13 (.iload_n 2) 1 14 = true := by decide +kernel
theorem zd76_14 : zDc 76 14 17 (Int32.ofNat 255) = true := by decide +kernel
theorem zd76_17 : zD 76 17 .iand 1 18 = true := by decide +kernel
theorem zd76_18 : zD 76 18 .ixor 1 19 = true := by decide +kernel
theorem zd76_19 : zD 76 19 .iastore 1 20 = true := by decide +kernel
theorem zd76_20 : zD 76 20 (.aload_n 0) 1 21 = true := by decide +kernel
theorem zd76_21 : zDg 76 21 24 6 0 (.array .int) = true := by decide +kernel
theorem zd76_24 : zD 76 24 (.iload_n 1) 1 25 = true := by decide +kernel
theorem zd76_25 : zD 76 25 .iaload 1 26 = true := by decide +kernel
theorem zd76_26 : zD 76 26 (.iload_n 3) 1 27 = true := by decide +kernel
theorem zd76_27 : zDm 76 27 .eq 34 30 = true := by decide +kernel
theorem zd76_30 : zDc 76 30 31 (Int32.ofNat 1) = true := by decide +kernel
theorem zd76_31 : zDj 76 31 35 = true := by decide +kernel
theorem zd76_34 : zDc 76 34 35 (Int32.ofNat 0) = true := by decide +kernel
theorem zd76_35 : zD 76 35 .ireturn 1 36 = true := by decide +kernel
theorem zd78_0 : zD 78 0 (.aload_n 0) 1 1 = true := by decide +kernel
theorem zd78_1 : zD 78 1 (.iload_n 1) 1 2 = true := by decide +kernel
theorem zd78_2 : zD 78 2 (.iload_n 2) 1 3 = true := by decide +kernel
theorem zd78_3 : zDk 78 3 6 52 0 = true := by decide +kernel
theorem zd78_6 : zDg 78 6 9 2 0 (.array (.object "ReleaseLeaves$StoredFile")) = true := by decide +kernel
theorem zd78_9 : zD 78 9 (.iload_n 2) 1 10 = true := by decide +kernel
theorem zd78_10 : zD 78 10 .aaload 1 11 = true := by decide +kernel
theorem zd78_11 : zD 78 11 (.astore_n 3) 1 12 = true := by decide +kernel
theorem zd78_12 : zD 78 12 (.iload_n 1) 1 13 = true := by decide +kernel
theorem zd78_13 : zDf 78 13 .ne 18 16 = true := by decide +kernel
theorem zd78_16 : zDc 78 16 17 (Int32.ofNat 2) = true := by decide +kernel
theorem zd78_17 : zD 78 17 .ireturn 1 18 = true := by decide +kernel
theorem zd78_18 : zD 78 18 (.aload_n 0) 1 19 = true := by decide +kernel
theorem zd78_19 : zDg 78 19 22 0 1 (.array (.object "ReleaseLeaves$Release")) = true := by decide +kernel
theorem zd78_22 : zD 78 22 (.iload_n 1) 1 23 = true := by decide +kernel
theorem zd78_23 : zDc 78 23 24 (Int32.ofNat 1) = true := by decide +kernel
theorem zd78_24 : zD 78 24 .isub 1 25 = true := by decide +kernel
theorem zd78_25 : zD 78 25 .aaload 1 26 = true := by decide +kernel
theorem zd78_26 : zD 78 26 (.astore 4) 2 28 = true := by decide +kernel
theorem zd78_28 : zD 78 28 (.aload 4) 2 30 = true := by decide +kernel
theorem zd78_30 : zD 78 30 (.aload_n 3) 1 31 = true := by decide +kernel
theorem zd78_31 : zDg 78 31 34 4 0 (.int) = true := by decide +kernel
theorem zd78_34 : zDk 78 34 37 41 0 = true := by decide +kernel
theorem zd78_37 : zD 78 37 (.istore 5) 2 39 = true := by decide +kernel
theorem zd78_39 : zD 78 39 (.iload 5) 2 41 = true := by decide +kernel
theorem zd78_41 : zDc 78 41 42 (-1) = true := by decide +kernel
theorem zd78_42 : zDm 78 42 .ne 47 45 = true := by decide +kernel
theorem zd78_45 : zDc 78 45 46 (Int32.ofNat 2) = true := by decide +kernel
theorem zd78_46 : zD 78 46 .ireturn 1 47 = true := by decide +kernel
theorem zd78_47 : zD 78 47 (.aload_n 3) 1 48 = true := by decide +kernel
theorem zd78_48 : zD 78 48 (.aload 4) 2 50 = true := by decide +kernel
theorem zd78_50 : zDg 78 50 53 2 0 (.array (.object "ReleaseLeaves$StoredFile")) = true := by decide +kernel
theorem zd78_53 : zD 78 53 (.iload 5) 2 55 = true := by decide +kernel
theorem zd78_55 : zD 78 55 .aaload 1 56 = true := by decide +kernel
theorem zd78_56 : zDk 78 56 59 79 0 = true := by decide +kernel
theorem zd78_59 : zDf 78 59 .eq 66 62 = true := by decide +kernel
theorem zd78_62 : zDc 78 62 63 (Int32.ofNat 0) = true := by decide +kernel
theorem zd78_63 : zDj 78 63 67 = true := by decide +kernel
theorem zd78_66 : zDc 78 66 67 (Int32.ofNat 1) = true := by decide +kernel
theorem zd78_67 : zD 78 67 .ireturn 1 68 = true := by decide +kernel
theorem zd79_0 : zD 79 0 (.aload_n 0) 1 1 = true := by decide +kernel
theorem zd79_1 : zDg 79 1 4 4 2 (.int) = true := by decide +kernel
theorem zd79_4 : zD 79 4 (.aload_n 1) 1 5 = true := by decide +kernel
theorem zd79_5 : zDg 79 5 8 4 2 (.int) = true := by decide +kernel
theorem zd79_8 : zDm 79 8 .ne 33 11 = true := by decide +kernel
theorem zd79_11 : zD 79 11 (.aload_n 0) 1 12 = true := by decide +kernel
theorem zd79_12 : zDg 79 12 15 4 1 (.array .int) = true := by decide +kernel
theorem zd79_15 : zD 79 15 (.aload_n 1) 1 16 = true := by decide +kernel
theorem zd79_16 : zDg 79 16 19 4 1 (.array .int) = true := by decide +kernel
theorem zd79_19 : zD 79 19 (.aload_n 0) 1 20 = true := by decide +kernel
theorem zd79_20 : zDg 79 20 23 4 2 (.int) = true := by decide +kernel
theorem zd79_23 : zDk 79 23 26 34 2 = true := by decide +kernel
theorem zd79_26 : zDf 79 26 .eq 33 29 = true := by decide +kernel
theorem zd79_29 : zDc 79 29 30 (Int32.ofNat 1) = true := by decide +kernel
theorem zd79_30 : zDj 79 30 34 = true := by decide +kernel
theorem zd79_33 : zDc 79 33 34 (Int32.ofNat 0) = true := by decide +kernel
theorem zd79_34 : zD 79 34 .ireturn 1 35 = true := by decide +kernel
end
section
/-! The instructions of the reference -/
theorem zd80_0 : zD 80 0 (.aload_n 0) 1 1 = true := by decide +kernel
theorem zd80_1 : zDo 80 1 4 = true := by decide +kernel
theorem zd80_4 : zD 80 4 (.aload_n 0) 1 5 = true := by decide +kernel
theorem zd80_5 : zDc 80 5 7 (Int32.ofNat 64) = true := by decide +kernel
theorem zd80_7 : zD 80 7 (.newarray .int) 2 9 = true := by decide +kernel
theorem zd80_9 : zDp 80 9 12 7 1 (.array .int) = true := by decide +kernel
theorem zd80_12 : zD 80 12 (.aload_n 0) 1 13 = true := by decide +kernel
theorem zd80_13 : zDc 80 13 16 (Int32.ofNat 512) = true := by decide +kernel
theorem zd80_16 : zD 80 16 (.newarray .int) 2 18 = true := by decide +kernel
theorem zd80_18 : zDp 80 18 21 7 3 (.array .int) = true := by decide +kernel
theorem zd80_21 : zD 80 21 (.aload_n 0) 1 22 = true := by decide +kernel
theorem zd80_22 : zDc 80 22 24 (Int32.ofNat 64) = true := by decide +kernel
theorem zd80_24 : zD 80 24 (.newarray .int) 2 26 = true := by decide +kernel
theorem zd80_26 : zDp 80 26 29 7 4 (.array .int) = true := by decide +kernel
theorem zd80_29 : zD 80 29 (.aload_n 0) 1 30 = true := by decide +kernel
theorem zd80_30 : zDc 80 30 32 (Int32.ofNat 8) = true := by decide +kernel
theorem zd80_32 : zD 80 32 (.newarray .int) 2 34 = true := by decide +kernel
theorem zd80_34 : zDp 80 34 37 7 5 (.array .int) = true := by decide +kernel
theorem zd80_37 : zD 80 37 (.aload_n 0) 1 38 = true := by decide +kernel
theorem zd80_38 : zDc 80 38 40 (Int32.ofNat 8) = true := by decide +kernel
theorem zd80_40 : zD 80 40 (.newarray .int) 2 42 = true := by decide +kernel
theorem zd80_42 : zDp 80 42 45 7 6 (.array .int) = true := by decide +kernel
theorem zd80_45 : zD 80 45 (.aload_n 0) 1 46 = true := by decide +kernel
theorem zd80_46 : zDc 80 46 48 (Int32.ofNat 32) = true := by decide +kernel
theorem zd80_48 : zD 80 48 (.newarray .int) 2 50 = true := by decide +kernel
theorem zd80_50 : zDp 80 50 53 7 7 (.array .int) = true := by decide +kernel
theorem zd80_53 : zD 80 53 (.aload_n 0) 1 54 = true := by decide +kernel
theorem zd80_54 : zDc 80 54 56 (Int32.ofNat 11) = true := by decide +kernel
theorem zd80_56 : zD 80 56 (.newarray .int) 2 58 = true := by decide +kernel
theorem zd80_58 : zDp 80 58 61 7 9 (.array .int) = true := by decide +kernel
theorem zd80_61 : zD 80 61 (.aload_n 0) 1 62 = true := by decide +kernel
theorem zd80_62 : zDc 80 62 64 (Int32.ofNat 88) = true := by decide +kernel
theorem zd80_64 : zD 80 64 (.newarray .int) 2 66 = true := by decide +kernel
theorem zd80_66 : zDp 80 66 69 7 10 (.array .int) = true := by decide +kernel
theorem zd80_69 : zD 80 69 (.aload_n 0) 1 70 = true := by decide +kernel
theorem zd80_70 : zDc 80 70 72 (Int32.ofNat 88) = true := by decide +kernel
theorem zd80_72 : zD 80 72 (.newarray .int) 2 74 = true := by decide +kernel
theorem zd80_74 : zDp 80 74 77 7 11 (.array .int) = true := by decide +kernel
theorem zd80_77 : zD 80 77 (.aload_n 0) 1 78 = true := by decide +kernel
theorem zd80_78 : zDc 80 78 81 (Int32.ofNat 5632) = true := by decide +kernel
theorem zd80_81 : zD 80 81 (.newarray .int) 2 83 = true := by decide +kernel
theorem zd80_83 : zDp 80 83 86 7 12 (.array .int) = true := by decide +kernel
theorem zd80_86 : zD 80 86 (.aload_n 0) 1 87 = true := by decide +kernel
theorem zd80_87 : zDc 80 87 90 (Int32.ofNat 2560) = true := by decide +kernel
theorem zd80_90 : zD 80 90 (.newarray .int) 2 92 = true := by decide +kernel
theorem zd80_92 : zDp 80 92 95 7 13 (.array .int) = true := by decide +kernel
theorem zd80_95 : zD 80 95 (.aload_n 0) 1 96 = true := by decide +kernel
theorem zd80_96 : zDc 80 96 99 (Int32.ofNat 320) = true := by decide +kernel
theorem zd80_99 : zD 80 99 (.newarray .int) 2 101 = true := by decide +kernel
theorem zd80_101 : zDp 80 101 104 7 14 (.array .int) = true := by decide +kernel
theorem zd80_104 : zD 80 104 (.aload_n 0) 1 105 = true := by decide +kernel
theorem zd80_105 : zDc 80 105 108 (Int32.ofNat 256) = true := by decide +kernel
theorem zd80_108 : zD 80 108 (.newarray .int) 2 110 = true := by decide +kernel
theorem zd80_110 : zDp 80 110 113 7 16 (.array .int) = true := by decide +kernel
theorem zd80_113 : zD 80 113 (.aload_n 0) 1 114 = true := by decide +kernel
theorem zd80_114 : zDc 80 114 117 (Int32.ofNat 300) = true := by decide +kernel
theorem zd80_117 : zD 80 117 (.newarray .int) 2 119 = true := by decide +kernel
theorem zd80_119 : zDp 80 119 122 7 18 (.array .int) = true := by decide +kernel
theorem zd80_122 : zD 80 122 (.aload_n 0) 1 123 = true := by decide +kernel
theorem zd80_123 : zDc 80 123 126 (Int32.ofNat 160) = true := by decide +kernel
theorem zd80_126 : zD 80 126 (.newarray .int) 2 128 = true := by decide +kernel
theorem zd80_128 : zDp 80 128 131 7 19 (.array .int) = true := by decide +kernel
theorem zd80_131 : zD 80 131 (.aload_n 0) 1 132 = true := by decide +kernel
theorem zd80_132 : zDc 80 132 134 (Int32.ofNat 10) = true := by decide +kernel
theorem zd80_134 : zD 80 134 (.newarray .boolean) 2 136 = true := by decide +kernel
theorem zd80_136 : zDp 80 136 139 7 20 (.array .boolean) = true := by decide +kernel
theorem zd80_139 : zD 80 139 (.aload_n 0) 1 140 = true := by decide +kernel
theorem zd80_140 : zDc 80 140 142 (Int32.ofNat 60) = true := by decide +kernel
theorem zd80_142 : zD 80 142 (.newarray .int) 2 144 = true := by decide +kernel
theorem zd80_144 : zDp 80 144 147 7 23 (.array .int) = true := by decide +kernel
theorem zd80_147 : zD 80 147 (.aload_n 0) 1 148 = true := by decide +kernel
theorem zd80_148 : zDc 80 148 150 (Int32.ofNat 100) = true := by decide +kernel
theorem zd80_150 : zD 80 150 (.newarray .int) 2 152 = true := by decide +kernel
theorem zd80_152 : zDp 80 152 155 7 25 (.array .int) = true := by decide +kernel
theorem zd80_155 : zD 80 155 (.aload_n 0) 1 156 = true := by decide +kernel
theorem zd80_156 : zDc 80 156 158 (Int32.ofNat 100) = true := by decide +kernel
theorem zd80_158 : zD 80 158 (.newarray .int) 2 160 = true := by decide +kernel
theorem zd80_160 : zDp 80 160 163 7 26 (.array .int) = true := by decide +kernel
theorem zd80_163 : zD 80 163 (.aload_n 0) 1 164 = true := by decide +kernel
theorem zd80_164 : zDc 80 164 166 (Int32.ofNat 100) = true := by decide +kernel
theorem zd80_166 : zD 80 166 (.newarray .int) 2 168 = true := by decide +kernel
theorem zd80_168 : zDp 80 168 171 7 27 (.array .int) = true := by decide +kernel
theorem zd80_171 : zD 80 171 (.aload_n 0) 1 172 = true := by decide +kernel
theorem zd80_172 : zDc 80 172 174 (Int32.ofNat 100) = true := by decide +kernel
theorem zd80_174 : zD 80 174 (.newarray .int) 2 176 = true := by decide +kernel
theorem zd80_176 : zDp 80 176 179 7 28 (.array .int) = true := by decide +kernel
theorem zd80_179 : zD 80 179 (.aload_n 0) 1 180 = true := by decide +kernel
theorem zd80_180 : zDc 80 180 181 (Int32.ofNat 0) = true := by decide +kernel
theorem zd80_181 : zDC 80 181 184 (4794697085070296209) = true := by decide +kernel
theorem zd80_184 : zDC 80 184 187 (-5349999486918337627) = true := by decide +kernel
theorem zd80_187 : zDC 80 187 190 (4131703405765792241) = true := by decide +kernel
theorem zd80_190 : zDC 80 190 193 (-7908458776882290987) = true := by decide +kernel
theorem zd80_193 : zDk 80 193 196 81 0 = true := by decide +kernel
theorem zd80_196 : zD 80 196 (.aload_n 0) 1 197 = true := by decide +kernel
theorem zd80_197 : zDc 80 197 199 (Int32.ofNat 8) = true := by decide +kernel
theorem zd80_199 : zDC 80 199 202 (-2880145866557793535) = true := by decide +kernel
theorem zd80_202 : zDC 80 202 205 (2608012711741390275) = true := by decide +kernel
theorem zd80_205 : zDC 80 205 208 (8268148720858477054) = true := by decide +kernel
theorem zd80_208 : zDC 80 208 211 (-7215885185376849548) = true := by decide +kernel
theorem zd80_211 : zDk 80 211 214 81 0 = true := by decide +kernel
theorem zd80_214 : zD 80 214 (.aload_n 0) 1 215 = true := by decide +kernel
theorem zd80_215 : zDc 80 215 217 (Int32.ofNat 16) = true := by decide +kernel
theorem zd80_217 : zDC 80 217 220 (-1973867730000001146) = true := by decide +kernel
theorem zd80_220 : zDC 80 220 223 (1135362055407968716) = true := by decide +kernel
theorem zd80_223 : zDC 80 223 226 (3308224257782482090) = true := by decide +kernel
theorem zd80_226 : zDC 80 226 229 (6679025011744409818) = true := by decide +kernel
theorem zd80_229 : zDk 80 229 232 81 0 = true := by decide +kernel
theorem zd80_232 : zD 80 232 (.aload_n 0) 1 233 = true := by decide +kernel
theorem zd80_233 : zDc 80 233 235 (Int32.ofNat 24) = true := by decide +kernel
theorem zd80_235 : zDC 80 235 238 (-7476448915937442195) = true := by decide +kernel
theorem zd80_238 : zDC 80 238 241 (-5763719354946846777) = true := by decide +kernel
theorem zd80_241 : zDC 80 241 244 (-4116276917527146169) = true := by decide +kernel
theorem zd80_244 : zDC 80 244 247 (489312709404862823) = true := by decide +kernel
theorem zd80_247 : zDk 80 247 250 81 0 = true := by decide +kernel
theorem zd80_250 : zD 80 250 (.aload_n 0) 1 251 = true := by decide +kernel
theorem zd80_251 : zDc 80 251 253 (Int32.ofNat 32) = true := by decide +kernel
theorem zd80_253 : zDC 80 253 256 (2861767655337697592) = true := by decide +kernel
theorem zd80_256 : zDC 80 256 259 (5560940570391088403) = true := by decide +kernel
theorem zd80_259 : zDC 80 259 262 (7280758554198936251) = true := by decide +kernel
theorem zd80_262 : zDC 80 262 265 (-9096487095472345979) = true := by decide +kernel
theorem zd80_265 : zDk 80 265 268 81 0 = true := by decide +kernel
theorem zd80_268 : zD 80 268 (.aload_n 0) 1 269 = true := by decide +kernel
theorem zd80_269 : zDc 80 269 271 (Int32.ofNat 40) = true := by decide +kernel
theorem zd80_271 : zDC 80 271 274 (-6719396338005809589) = true := by decide +kernel
theorem zd80_274 : zDC 80 274 277 (-4446306890599870045) = true := by decide +kernel
theorem zd80_277 : zDC 80 277 280 (-3345356375510677980) = true := by decide +kernel
theorem zd80_280 : zDC 80 280 283 (-860691633158840208) = true := by decide +kernel
theorem zd80_283 : zDk 80 283 286 81 0 = true := by decide +kernel
theorem zd80_286 : zD 80 286 (.aload_n 0) 1 287 = true := by decide +kernel
theorem zd80_287 : zDc 80 287 289 (Int32.ofNat 48) = true := by decide +kernel
theorem zd80_289 : zDC 80 289 292 (1847814047869135880) = true := by decide +kernel
theorem zd80_292 : zDC 80 292 295 (2830643534987574453) = true := by decide +kernel
theorem zd80_295 : zDC 80 295 298 (4115178123771292234) = true := by decide +kernel
theorem zd80_298 : zDC 80 298 301 (6601373596217405427) = true := by decide +kernel
theorem zd80_301 : zDk 80 301 304 81 0 = true := by decide +kernel
theorem zd80_304 : zD 80 304 (.aload_n 0) 1 305 = true := by decide +kernel
theorem zd80_305 : zDc 80 305 307 (Int32.ofNat 56) = true := by decide +kernel
theorem zd80_307 : zDC 80 307 310 (8399075790807196527) = true := by decide +kernel
theorem zd80_310 : zDC 80 310 313 (-8878714635704401400) = true := by decide +kernel
theorem zd80_313 : zDC 80 313 316 (-8016688834709263125) = true := by decide +kernel
theorem zd80_316 : zDC 80 316 319 (-4685533652720715534) = true := by decide +kernel
theorem zd80_319 : zDk 80 319 322 81 0 = true := by decide +kernel
theorem zd80_322 : zD 80 322 .return_ 1 323 = true := by decide +kernel
theorem zd81_0 : zD 81 0 (.aload_n 0) 1 1 = true := by decide +kernel
theorem zd81_1 : zD 81 1 (.iload_n 1) 1 2 = true := by decide +kernel
theorem zd81_2 : zD 81 2 (.lload_n 2) 1 3 = true := by decide +kernel
theorem zd81_3 : zDk 81 3 6 82 0 = true := by decide +kernel
theorem zd81_6 : zD 81 6 (.aload_n 0) 1 7 = true := by decide +kernel
theorem zd81_7 : zD 81 7 (.iload_n 1) 1 8 = true := by decide +kernel
theorem zd81_8 : zDc 81 8 9 (Int32.ofNat 2) = true := by decide +kernel
theorem zd81_9 : zD 81 9 .iadd 1 10 = true := by decide +kernel
theorem zd81_10 : zD 81 10 (.lload 4) 2 12 = true := by decide +kernel
theorem zd81_12 : zDk 81 12 15 82 0 = true := by decide +kernel
theorem zd81_15 : zD 81 15 (.aload_n 0) 1 16 = true := by decide +kernel
theorem zd81_16 : zD 81 16 (.iload_n 1) 1 17 = true := by decide +kernel
theorem zd81_17 : zDc 81 17 18 (Int32.ofNat 4) = true := by decide +kernel
theorem zd81_18 : zD 81 18 .iadd 1 19 = true := by decide +kernel
theorem zd81_19 : zD 81 19 (.lload 6) 2 21 = true := by decide +kernel
theorem zd81_21 : zDk 81 21 24 82 0 = true := by decide +kernel
theorem zd81_24 : zD 81 24 (.aload_n 0) 1 25 = true := by decide +kernel
theorem zd81_25 : zD 81 25 (.iload_n 1) 1 26 = true := by decide +kernel
theorem zd81_26 : zDc 81 26 28 (Int32.ofNat 6) = true := by decide +kernel
theorem zd81_28 : zD 81 28 .iadd 1 29 = true := by decide +kernel
theorem zd81_29 : zD 81 29 (.lload 8) 2 31 = true := by decide +kernel
theorem zd81_31 : zDk 81 31 34 82 0 = true := by decide +kernel
theorem zd81_34 : zD 81 34 .return_ 1 35 = true := by decide +kernel
theorem zd82_0 : zD 82 0 (.aload_n 0) 1 1 = true := by decide +kernel
theorem zd82_1 : zDg 82 1 4 7 1 (.array .int) = true := by decide +kernel
theorem zd82_4 : zD 82 4 (.iload_n 1) 1 5 = true := by decide +kernel
theorem zd82_5 : zD 82 5 (.lload_n 2) 1 6 = true := by decide +kernel
theorem zd82_6 : zDc 82 6 8 (Int32.ofNat 32) = true := by decide +kernel
theorem zd82_8 : zD 82 8 .lshr 1 9 = true := by decide +kernel
theorem zd82_9 : zD 82 9 .l2i 1 10 = true := by decide +kernel
theorem zd82_10 : zD 82 10 .iastore 1 11 = true := by decide +kernel
theorem zd82_11 : zD 82 11 (.aload_n 0) 1 12 = true := by decide +kernel
theorem zd82_12 : zDg 82 12 15 7 1 (.array .int) = true := by decide +kernel
theorem zd82_15 : zD 82 15 (.iload_n 1) 1 16 = true := by decide +kernel
theorem zd82_16 : zDc 82 16 17 (Int32.ofNat 1) = true := by decide +kernel
theorem zd82_17 : zD 82 17 .iadd 1 18 = true := by decide +kernel
theorem zd82_18 : zD 82 18 (.lload_n 2) 1 19 = true := by decide +kernel
theorem zd82_19 : zD 82 19 .l2i 1 20 = true := by decide +kernel
theorem zd82_20 : zD 82 20 .iastore 1 21 = true := by decide +kernel
theorem zd82_21 : zD 82 21 .return_ 1 22 = true := by decide +kernel
theorem zd83_0 : zD 83 0 (.aload_n 0) 1 1 = true := by decide +kernel
theorem zd83_1 : zDg 83 1 4 7 0 (.int) = true := by decide +kernel
theorem zd83_4 : zD 83 4 .ireturn 1 5 = true := by decide +kernel
theorem zd84_0 : zD 84 0 (.aload_n 0) 1 1 = true := by decide +kernel
theorem zd84_1 : zD 84 1 (.iload_n 1) 1 2 = true := by decide +kernel
theorem zd84_2 : zDf 84 2 .lt 15 5 = true := by decide +kernel
theorem zd84_5 : zD 84 5 (.iload_n 1) 1 6 = true := by decide +kernel
theorem zd84_6 : zDc 84 6 8 (Int32.ofNat 65536) = true := by decide +kernel
theorem zd84_8 : zDm 84 8 .ge 15 11 = true := by decide +kernel
theorem zd84_11 : zDc 84 11 12 (Int32.ofNat 0) = true := by decide +kernel
theorem zd84_12 : zDj 84 12 16 = true := by decide +kernel
theorem zd84_15 : zDc 84 15 16 (Int32.ofNat 1) = true := by decide +kernel
theorem zd84_16 : zDp 84 16 19 7 0 (.int) = true := by decide +kernel
theorem zd84_19 : zD 84 19 (.aload_n 0) 1 20 = true := by decide +kernel
theorem zd84_20 : zDg 84 20 23 7 0 (.int) = true := by decide +kernel
theorem zd84_23 : zDf 84 23 .eq 28 26 = true := by decide +kernel
theorem zd84_26 : zDc 84 26 27 (Int32.ofNat 0) = true := by decide +kernel
theorem zd84_27 : zD 84 27 .ireturn 1 28 = true := by decide +kernel
theorem zd84_28 : zD 84 28 (.aload_n 0) 1 29 = true := by decide +kernel
theorem zd84_29 : zDg 84 29 32 7 9 (.array .int) = true := by decide +kernel
theorem zd84_32 : zDc 84 32 34 (Int32.ofNat 10) = true := by decide +kernel
theorem zd84_34 : zD 84 34 .iaload 1 35 = true := by decide +kernel
theorem zd84_35 : zDc 84 35 37 (Int32.ofNat 8) = true := by decide +kernel
theorem zd84_37 : zDm 84 37 .eq 51 40 = true := by decide +kernel
theorem zd84_40 : zD 84 40 (.aload_n 0) 1 41 = true := by decide +kernel
theorem zd84_41 : zDc 84 41 43 (Int32.ofNat 10) = true := by decide +kernel
theorem zd84_43 : zD 84 43 (.iload_n 1) 1 44 = true := by decide +kernel
theorem zd84_44 : zDk 84 44 47 85 0 = true := by decide +kernel
theorem zd84_47 : zDc 84 47 48 (-1) = true := by decide +kernel
theorem zd84_48 : zDm 84 48 .eq 53 51 = true := by decide +kernel
theorem zd84_51 : zDc 84 51 52 (-1) = true := by decide +kernel
theorem zd84_52 : zD 84 52 .ireturn 1 53 = true := by decide +kernel
theorem zd84_53 : zD 84 53 (.aload_n 0) 1 54 = true := by decide +kernel
theorem zd84_54 : zDg 84 54 57 7 10 (.array .int) = true := by decide +kernel
theorem zd84_57 : zDc 84 57 59 (Int32.ofNat 80) = true := by decide +kernel
theorem zd84_59 : zD 84 59 (.aload_n 0) 1 60 = true := by decide +kernel
theorem zd84_60 : zDg 84 60 63 7 9 (.array .int) = true := by decide +kernel
theorem zd84_63 : zDc 84 63 65 (Int32.ofNat 10) = true := by decide +kernel
theorem zd84_65 : zD 84 65 .iaload 1 66 = true := by decide +kernel
theorem zd84_66 : zD 84 66 .iadd 1 67 = true := by decide +kernel
theorem zd84_67 : zD 84 67 (.iload_n 1) 1 68 = true := by decide +kernel
theorem zd84_68 : zD 84 68 .iastore 1 69 = true := by decide +kernel
theorem zd84_69 : zD 84 69 (.aload_n 0) 1 70 = true := by decide +kernel
theorem zd84_70 : zDg 84 70 73 7 11 (.array .int) = true := by decide +kernel
theorem zd84_73 : zDc 84 73 75 (Int32.ofNat 80) = true := by decide +kernel
theorem zd84_75 : zD 84 75 (.aload_n 0) 1 76 = true := by decide +kernel
theorem zd84_76 : zDg 84 76 79 7 9 (.array .int) = true := by decide +kernel
theorem zd84_79 : zDc 84 79 81 (Int32.ofNat 10) = true := by decide +kernel
theorem zd84_81 : zD 84 81 .iaload 1 82 = true := by decide +kernel
theorem zd84_82 : zD 84 82 .iadd 1 83 = true := by decide +kernel
theorem zd84_83 : zDc 84 83 84 (Int32.ofNat 0) = true := by decide +kernel
theorem zd84_84 : zD 84 84 .iastore 1 85 = true := by decide +kernel
theorem zd84_85 : zD 84 85 (.aload_n 0) 1 86 = true := by decide +kernel
theorem zd84_86 : zDg 84 86 89 7 9 (.array .int) = true := by decide +kernel
theorem zd84_89 : zDc 84 89 91 (Int32.ofNat 10) = true := by decide +kernel
theorem zd84_91 : zD 84 91 .dup2 1 92 = true := by decide +kernel
theorem zd84_92 : zD 84 92 .iaload 1 93 = true := by decide +kernel
theorem zd84_93 : zDc 84 93 94 (Int32.ofNat 1) = true := by decide +kernel
theorem zd84_94 : zD 84 94 .iadd 1 95 = true := by decide +kernel
theorem zd84_95 : zD 84 95 .iastore 1 96 = true := by decide +kernel
theorem zd84_96 : zD 84 96 (.aload_n 0) 1 97 = true := by decide +kernel
theorem zd84_97 : zDg 84 97 100 7 9 (.array .int) = true := by decide +kernel
theorem zd84_100 : zDc 84 100 102 (Int32.ofNat 10) = true := by decide +kernel
theorem zd84_102 : zD 84 102 .iaload 1 103 = true := by decide +kernel
theorem zd84_103 : zDc 84 103 104 (Int32.ofNat 1) = true := by decide +kernel
theorem zd84_104 : zD 84 104 .isub 1 105 = true := by decide +kernel
theorem zd84_105 : zD 84 105 .ireturn 1 106 = true := by decide +kernel
theorem zd85_0 : zDc 85 0 1 (Int32.ofNat 0) = true := by decide +kernel
theorem zd85_1 : zD 85 1 (.istore_n 3) 1 2 = true := by decide +kernel
theorem zd85_2 : zD 85 2 (.iload_n 3) 1 3 = true := by decide +kernel
theorem zd85_3 : zD 85 3 (.aload_n 0) 1 4 = true := by decide +kernel
theorem zd85_4 : zDg 85 4 7 7 9 (.array .int) = true := by decide +kernel
theorem zd85_7 : zD 85 7 (.iload_n 1) 1 8 = true := by decide +kernel
theorem zd85_8 : zD 85 8 .iaload 1 9 = true := by decide +kernel
theorem zd85_9 : zDm 85 9 .ge 35 12 = true := by decide +kernel
theorem zd85_12 : zD 85 12 (.aload_n 0) 1 13 = true := by decide +kernel
theorem zd85_13 : zDg 85 13 16 7 10 (.array .int) = true := by decide +kernel
theorem zd85_16 : zDc 85 16 18 (Int32.ofNat 8) = true := by decide +kernel
theorem zd85_18 : zD 85 18 (.iload_n 1) 1 19 = true := by decide +kernel
theorem zd85_19 : zD 85 19 .imul 1 20 = true := by decide +kernel
theorem zd85_20 : zD 85 20 (.iload_n 3) 1 21 = true := by decide +kernel
theorem zd85_21 : zD 85 21 .iadd 1 22 = true := by decide +kernel
theorem zd85_22 : zD 85 22 .iaload 1 23 = true := by decide +kernel
theorem zd85_23 : zD 85 23 (.iload_n 2) 1 24 = true := by decide +kernel
theorem zd85_24 : zDm 85 24 .ne 29 27 = true := by decide +kernel
theorem zd85_27 : zD 85 27 (.iload_n 3) 1 28 = true := by decide +kernel
theorem zd85_28 : zD 85 28 .ireturn 1 29 = true := by decide +kernel
theorem zd85_29 : zDi 85 29 32 3 (Int32.ofNat 1) = true := by decide +kernel
theorem zd85_32 : zDj 85 32 2 = true := by decide +kernel
theorem zd85_35 : zDc 85 35 36 (-1) = true := by decide +kernel
theorem zd85_36 : zD 85 36 .ireturn 1 37 = true := by decide +kernel
theorem zd86_0 : zD 86 0 (.aload_n 0) 1 1 = true := by decide +kernel
theorem zd86_1 : zD 86 1 (.iload_n 1) 1 2 = true := by decide +kernel
theorem zd86_2 : zDf 86 2 .lt 16 5 = true := by decide +kernel
theorem zd86_5 : zD 86 5 (.iload_n 1) 1 6 = true := by decide +kernel
theorem zd86_6 : zD 86 6 (.aload_n 0) 1 7 = true := by decide +kernel
theorem zd86_7 : zDg 86 7 10 7 9 (.array .int) = true := by decide +kernel
theorem zd86_10 : zDc 86 10 12 (Int32.ofNat 10) = true := by decide +kernel
theorem zd86_12 : zD 86 12 .iaload 1 13 = true := by decide +kernel
theorem zd86_13 : zDm 86 13 .lt 20 16 = true := by decide +kernel
theorem zd86_16 : zDc 86 16 17 (Int32.ofNat 1) = true := by decide +kernel
theorem zd86_17 : zDj 86 17 32 = true := by decide +kernel
theorem zd86_20 : zD 86 20 (.iload_n 2) 1 21 = true := by decide +kernel
theorem zd86_21 : zDk 86 21 24 87 2 = true := by decide +kernel
theorem zd86_24 : zDf 86 24 .eq 31 27 = true := by decide +kernel
theorem zd86_27 : zDc 86 27 28 (Int32.ofNat 0) = true := by decide +kernel
theorem zd86_28 : zDj 86 28 32 = true := by decide +kernel
theorem zd86_31 : zDc 86 31 32 (Int32.ofNat 2) = true := by decide +kernel
theorem zd86_32 : zDp 86 32 35 7 0 (.int) = true := by decide +kernel
theorem zd86_35 : zDc 86 35 37 (Int32.ofNat 80) = true := by decide +kernel
theorem zd86_37 : zD 86 37 (.iload_n 1) 1 38 = true := by decide +kernel
theorem zd86_38 : zD 86 38 .iadd 1 39 = true := by decide +kernel
theorem zd86_39 : zD 86 39 (.istore_n 3) 1 40 = true := by decide +kernel
theorem zd86_40 : zD 86 40 (.aload_n 0) 1 41 = true := by decide +kernel
theorem zd86_41 : zDg 86 41 44 7 0 (.int) = true := by decide +kernel
theorem zd86_44 : zDf 86 44 .ne 58 47 = true := by decide +kernel
theorem zd86_47 : zD 86 47 (.aload_n 0) 1 48 = true := by decide +kernel
theorem zd86_48 : zDg 86 48 51 7 11 (.array .int) = true := by decide +kernel
theorem zd86_51 : zD 86 51 (.iload_n 3) 1 52 = true := by decide +kernel
theorem zd86_52 : zD 86 52 .iaload 1 53 = true := by decide +kernel
theorem zd86_53 : zDc 86 53 55 (Int32.ofNat 64) = true := by decide +kernel
theorem zd86_55 : zDm 86 55 .ne 60 58 = true := by decide +kernel
theorem zd86_58 : zDc 86 58 59 (Int32.ofNat 0) = true := by decide +kernel
theorem zd86_59 : zD 86 59 .ireturn 1 60 = true := by decide +kernel
theorem zd86_60 : zD 86 60 (.aload_n 0) 1 61 = true := by decide +kernel
theorem zd86_61 : zDg 86 61 64 7 12 (.array .int) = true := by decide +kernel
theorem zd86_64 : zDc 86 64 66 (Int32.ofNat 64) = true := by decide +kernel
theorem zd86_66 : zD 86 66 (.iload_n 3) 1 67 = true := by decide +kernel
theorem zd86_67 : zD 86 67 .imul 1 68 = true := by decide +kernel
theorem zd86_68 : zD 86 68 (.aload_n 0) 1 69 = true := by decide +kernel
theorem zd86_69 : zDg 86 69 72 7 11 (.array .int) = true := by decide +kernel
theorem zd86_72 : zD 86 72 (.iload_n 3) 1 73 = true := by decide +kernel
theorem zd86_73 : zD 86 73 .iaload 1 74 = true := by decide +kernel
theorem zd86_74 : zD 86 74 .iadd 1 75 = true := by decide +kernel
theorem zd86_75 : zD 86 75 (.iload_n 2) 1 76 = true := by decide +kernel
theorem zd86_76 : zD 86 76 .iastore 1 77 = true := by decide +kernel
theorem zd86_77 : zD 86 77 (.aload_n 0) 1 78 = true := by decide +kernel
theorem zd86_78 : zDg 86 78 81 7 11 (.array .int) = true := by decide +kernel
theorem zd86_81 : zD 86 81 (.iload_n 3) 1 82 = true := by decide +kernel
theorem zd86_82 : zD 86 82 .dup2 1 83 = true := by decide +kernel
theorem zd86_83 : zD 86 83 .iaload 1 84 = true := by decide +kernel
theorem zd86_84 : zDc 86 84 85 (Int32.ofNat 1) = true := by decide +kernel
theorem zd86_85 : zD 86 85 .iadd 1 86 = true := by decide +kernel
theorem zd86_86 : zD 86 86 .iastore 1 87 = true := by decide +kernel
theorem zd86_87 : zDc 86 87 88 (Int32.ofNat 1) = true := by decide +kernel
theorem zd86_88 : zD 86 88 .ireturn 1 89 = true := by decide +kernel
theorem zd87_0 : zD 87 0 (.iload_n 0) 1 1 = true := by decide +kernel
theorem zd87_1 : zDf 87 1 .lt 15 4 = true := by decide +kernel
theorem zd87_4 : zD 87 4 (.iload_n 0) 1 5 = true := by decide +kernel
theorem zd87_5 : zDc 87 5 8 (Int32.ofNat 256) = true := by decide +kernel
theorem zd87_8 : zDm 87 8 .ge 15 11 = true := by decide +kernel
theorem zd87_11 : zDc 87 11 12 (Int32.ofNat 1) = true := by decide +kernel
theorem zd87_12 : zDj 87 12 16 = true := by decide +kernel
theorem zd87_15 : zDc 87 15 16 (Int32.ofNat 0) = true := by decide +kernel
theorem zd87_16 : zD 87 16 .ireturn 1 17 = true := by decide +kernel
theorem zd88_0 : zD 88 0 (.aload_n 0) 1 1 = true := by decide +kernel
theorem zd88_1 : zDc 88 1 2 (Int32.ofNat 0) = true := by decide +kernel
theorem zd88_2 : zDp 88 2 5 7 0 (.int) = true := by decide +kernel
theorem zd88_5 : zD 88 5 (.aload_n 0) 1 6 = true := by decide +kernel
theorem zd88_6 : zDg 88 6 9 7 8 (.int) = true := by decide +kernel
theorem zd88_9 : zDc 88 9 11 (Int32.ofNat 10) = true := by decide +kernel
theorem zd88_11 : zDm 88 11 .ne 16 14 = true := by decide +kernel
theorem zd88_14 : zDc 88 14 15 (-1) = true := by decide +kernel
theorem zd88_15 : zD 88 15 .ireturn 1 16 = true := by decide +kernel
theorem zd88_16 : zD 88 16 (.aload_n 0) 1 17 = true := by decide +kernel
theorem zd88_17 : zDg 88 17 20 7 8 (.int) = true := by decide +kernel
theorem zd88_20 : zD 88 20 (.istore_n 1) 1 21 = true := by decide +kernel
theorem zd88_21 : zDc 88 21 22 (-1) = true := by decide +kernel
theorem zd88_22 : zD 88 22 (.istore_n 2) 1 23 = true := by decide +kernel
theorem zd88_23 : zDc 88 23 24 (Int32.ofNat 0) = true := by decide +kernel
theorem zd88_24 : zD 88 24 (.istore_n 3) 1 25 = true := by decide +kernel
theorem zd88_25 : zD 88 25 (.iload_n 3) 1 26 = true := by decide +kernel
theorem zd88_26 : zD 88 26 (.aload_n 0) 1 27 = true := by decide +kernel
theorem zd88_27 : zDg 88 27 30 7 9 (.array .int) = true := by decide +kernel
theorem zd88_30 : zDc 88 30 32 (Int32.ofNat 10) = true := by decide +kernel
theorem zd88_32 : zD 88 32 .iaload 1 33 = true := by decide +kernel
theorem zd88_33 : zDm 88 33 .ge 174 36 = true := by decide +kernel
theorem zd88_36 : zDc 88 36 38 (Int32.ofNat 80) = true := by decide +kernel
theorem zd88_38 : zD 88 38 (.aload_n 0) 1 39 = true := by decide +kernel
theorem zd88_39 : zD 88 39 (.iload_n 2) 1 40 = true := by decide +kernel
theorem zd88_40 : zDk 88 40 43 89 0 = true := by decide +kernel
theorem zd88_43 : zD 88 43 .iadd 1 44 = true := by decide +kernel
theorem zd88_44 : zD 88 44 (.istore 4) 2 46 = true := by decide +kernel
theorem zd88_46 : zDc 88 46 48 (Int32.ofNat 8) = true := by decide +kernel
theorem zd88_48 : zD 88 48 (.iload_n 1) 1 49 = true := by decide +kernel
theorem zd88_49 : zD 88 49 .imul 1 50 = true := by decide +kernel
theorem zd88_50 : zD 88 50 (.iload_n 3) 1 51 = true := by decide +kernel
theorem zd88_51 : zD 88 51 .iadd 1 52 = true := by decide +kernel
theorem zd88_52 : zD 88 52 (.istore 5) 2 54 = true := by decide +kernel
theorem zd88_54 : zD 88 54 (.aload_n 0) 1 55 = true := by decide +kernel
theorem zd88_55 : zDg 88 55 58 7 10 (.array .int) = true := by decide +kernel
theorem zd88_58 : zD 88 58 (.iload 4) 2 60 = true := by decide +kernel
theorem zd88_60 : zD 88 60 .iaload 1 61 = true := by decide +kernel
theorem zd88_61 : zD 88 61 (.istore_n 2) 1 62 = true := by decide +kernel
theorem zd88_62 : zD 88 62 (.aload_n 0) 1 63 = true := by decide +kernel
theorem zd88_63 : zDg 88 63 66 7 10 (.array .int) = true := by decide +kernel
theorem zd88_66 : zD 88 66 (.iload 5) 2 68 = true := by decide +kernel
theorem zd88_68 : zD 88 68 (.iload_n 2) 1 69 = true := by decide +kernel
theorem zd88_69 : zD 88 69 .iastore 1 70 = true := by decide +kernel
theorem zd88_70 : zD 88 70 (.aload_n 0) 1 71 = true := by decide +kernel
theorem zd88_71 : zDg 88 71 74 7 11 (.array .int) = true := by decide +kernel
theorem zd88_74 : zD 88 74 (.iload 5) 2 76 = true := by decide +kernel
theorem zd88_76 : zD 88 76 (.aload_n 0) 1 77 = true := by decide +kernel
theorem zd88_77 : zDg 88 77 80 7 11 (.array .int) = true := by decide +kernel
theorem zd88_80 : zD 88 80 (.iload 4) 2 82 = true := by decide +kernel
theorem zd88_82 : zD 88 82 .iaload 1 83 = true := by decide +kernel
theorem zd88_83 : zD 88 83 .iastore 1 84 = true := by decide +kernel
theorem zd88_84 : zDc 88 84 85 (Int32.ofNat 0) = true := by decide +kernel
theorem zd88_85 : zD 88 85 (.istore 6) 2 87 = true := by decide +kernel
theorem zd88_87 : zD 88 87 (.iload 6) 2 89 = true := by decide +kernel
theorem zd88_89 : zDc 88 89 91 (Int32.ofNat 64) = true := by decide +kernel
theorem zd88_91 : zDm 88 91 .ge 126 94 = true := by decide +kernel
theorem zd88_94 : zD 88 94 (.aload_n 0) 1 95 = true := by decide +kernel
theorem zd88_95 : zDg 88 95 98 7 12 (.array .int) = true := by decide +kernel
theorem zd88_98 : zDc 88 98 100 (Int32.ofNat 64) = true := by decide +kernel
theorem zd88_100 : zD 88 100 (.iload 5) 2 102 = true := by decide +kernel
theorem zd88_102 : zD 88 102 .imul 1 103 = true := by decide +kernel
theorem zd88_103 : zD 88 103 (.iload 6) 2 105 = true := by decide +kernel
theorem zd88_105 : zD 88 105 .iadd 1 106 = true := by decide +kernel
theorem zd88_106 : zD 88 106 (.aload_n 0) 1 107 = true := by decide +kernel
theorem zd88_107 : zDg 88 107 110 7 12 (.array .int) = true := by decide +kernel
theorem zd88_110 : zDc 88 110 112 (Int32.ofNat 64) = true := by decide +kernel
theorem zd88_112 : zD 88 112 (.iload 4) 2 114 = true := by decide +kernel
theorem zd88_114 : zD 88 114 .imul 1 115 = true := by decide +kernel
theorem zd88_115 : zD 88 115 (.iload 6) 2 117 = true := by decide +kernel
theorem zd88_117 : zD 88 117 .iadd 1 118 = true := by decide +kernel
theorem zd88_118 : zD 88 118 .iaload 1 119 = true := by decide +kernel
theorem zd88_119 : zD 88 119 .iastore 1 120 = true := by decide +kernel
theorem zd88_120 : zDi 88 120 123 6 (Int32.ofNat 1) = true := by decide +kernel
theorem zd88_123 : zDj 88 123 87 = true := by decide +kernel
theorem zd88_126 : zD 88 126 (.aload_n 0) 1 127 = true := by decide +kernel
theorem zd88_127 : zD 88 127 (.iload 5) 2 129 = true := by decide +kernel
theorem zd88_129 : zDk 88 129 132 90 0 = true := by decide +kernel
theorem zd88_132 : zDc 88 132 133 (Int32.ofNat 0) = true := by decide +kernel
theorem zd88_133 : zD 88 133 (.istore 6) 2 135 = true := by decide +kernel
theorem zd88_135 : zD 88 135 (.iload 6) 2 137 = true := by decide +kernel
theorem zd88_137 : zDc 88 137 139 (Int32.ofNat 32) = true := by decide +kernel
theorem zd88_139 : zDm 88 139 .ge 168 142 = true := by decide +kernel
theorem zd88_142 : zD 88 142 (.aload_n 0) 1 143 = true := by decide +kernel
theorem zd88_143 : zDg 88 143 146 7 13 (.array .int) = true := by decide +kernel
theorem zd88_146 : zDc 88 146 148 (Int32.ofNat 32) = true := by decide +kernel
theorem zd88_148 : zD 88 148 (.iload 5) 2 150 = true := by decide +kernel
theorem zd88_150 : zD 88 150 .imul 1 151 = true := by decide +kernel
theorem zd88_151 : zD 88 151 (.iload 6) 2 153 = true := by decide +kernel
theorem zd88_153 : zD 88 153 .iadd 1 154 = true := by decide +kernel
theorem zd88_154 : zD 88 154 (.aload_n 0) 1 155 = true := by decide +kernel
theorem zd88_155 : zDg 88 155 158 7 7 (.array .int) = true := by decide +kernel
theorem zd88_158 : zD 88 158 (.iload 6) 2 160 = true := by decide +kernel
theorem zd88_160 : zD 88 160 .iaload 1 161 = true := by decide +kernel
theorem zd88_161 : zD 88 161 .iastore 1 162 = true := by decide +kernel
theorem zd88_162 : zDi 88 162 165 6 (Int32.ofNat 1) = true := by decide +kernel
theorem zd88_165 : zDj 88 165 135 = true := by decide +kernel
theorem zd88_168 : zDi 88 168 171 3 (Int32.ofNat 1) = true := by decide +kernel
theorem zd88_171 : zDj 88 171 25 = true := by decide +kernel
theorem zd88_174 : zD 88 174 (.aload_n 0) 1 175 = true := by decide +kernel
theorem zd88_175 : zDg 88 175 178 7 9 (.array .int) = true := by decide +kernel
theorem zd88_178 : zD 88 178 (.iload_n 1) 1 179 = true := by decide +kernel
theorem zd88_179 : zD 88 179 (.aload_n 0) 1 180 = true := by decide +kernel
theorem zd88_180 : zDg 88 180 183 7 9 (.array .int) = true := by decide +kernel
theorem zd88_183 : zDc 88 183 185 (Int32.ofNat 10) = true := by decide +kernel
theorem zd88_185 : zD 88 185 .iaload 1 186 = true := by decide +kernel
theorem zd88_186 : zD 88 186 .iastore 1 187 = true := by decide +kernel
theorem zd88_187 : zD 88 187 (.aload_n 0) 1 188 = true := by decide +kernel
theorem zd88_188 : zDg 88 188 191 7 9 (.array .int) = true := by decide +kernel
theorem zd88_191 : zDc 88 191 193 (Int32.ofNat 10) = true := by decide +kernel
theorem zd88_193 : zDc 88 193 194 (Int32.ofNat 0) = true := by decide +kernel
theorem zd88_194 : zD 88 194 .iastore 1 195 = true := by decide +kernel
theorem zd88_195 : zD 88 195 (.aload_n 0) 1 196 = true := by decide +kernel
theorem zd88_196 : zD 88 196 .dup 1 197 = true := by decide +kernel
theorem zd88_197 : zDg 88 197 200 7 8 (.int) = true := by decide +kernel
theorem zd88_200 : zDc 88 200 201 (Int32.ofNat 1) = true := by decide +kernel
theorem zd88_201 : zD 88 201 .iadd 1 202 = true := by decide +kernel
theorem zd88_202 : zDp 88 202 205 7 8 (.int) = true := by decide +kernel
theorem zd88_205 : zD 88 205 (.aload_n 0) 1 206 = true := by decide +kernel
theorem zd88_206 : zD 88 206 (.iload_n 1) 1 207 = true := by decide +kernel
theorem zd88_207 : zDk 88 207 210 95 0 = true := by decide +kernel
theorem zd88_210 : zD 88 210 (.aload_n 0) 1 211 = true := by decide +kernel
theorem zd88_211 : zDg 88 211 214 7 15 (.int) = true := by decide +kernel
theorem zd88_214 : zDc 88 214 215 (Int32.ofNat 1) = true := by decide +kernel
theorem zd88_215 : zDm 88 215 .le 225 218 = true := by decide +kernel
theorem zd88_218 : zD 88 218 (.aload_n 0) 1 219 = true := by decide +kernel
theorem zd88_219 : zDk 88 219 222 96 0 = true := by decide +kernel
theorem zd88_222 : zDj 88 222 210 = true := by decide +kernel
theorem zd88_225 : zD 88 225 (.aload_n 0) 1 226 = true := by decide +kernel
theorem zd88_226 : zDg 88 226 229 7 15 (.int) = true := by decide +kernel
theorem zd88_229 : zDf 88 229 .ne 236 232 = true := by decide +kernel
theorem zd88_232 : zD 88 232 (.aload_n 0) 1 233 = true := by decide +kernel
theorem zd88_233 : zDk 88 233 236 92 0 = true := by decide +kernel
theorem zd88_236 : zDc 88 236 237 (Int32.ofNat 0) = true := by decide +kernel
theorem zd88_237 : zD 88 237 (.istore_n 3) 1 238 = true := by decide +kernel
theorem zd88_238 : zD 88 238 (.iload_n 3) 1 239 = true := by decide +kernel
theorem zd88_239 : zDc 88 239 241 (Int32.ofNat 32) = true := by decide +kernel
theorem zd88_241 : zDm 88 241 .ge 283 244 = true := by decide +kernel
theorem zd88_244 : zD 88 244 (.aload_n 0) 1 245 = true := by decide +kernel
theorem zd88_245 : zDg 88 245 248 7 14 (.array .int) = true := by decide +kernel
theorem zd88_248 : zDc 88 248 250 (Int32.ofNat 32) = true := by decide +kernel
theorem zd88_250 : zD 88 250 (.iload_n 1) 1 251 = true := by decide +kernel
theorem zd88_251 : zD 88 251 .imul 1 252 = true := by decide +kernel
theorem zd88_252 : zD 88 252 (.iload_n 3) 1 253 = true := by decide +kernel
theorem zd88_253 : zD 88 253 .iadd 1 254 = true := by decide +kernel
theorem zd88_254 : zD 88 254 (.aload_n 0) 1 255 = true := by decide +kernel
theorem zd88_255 : zDg 88 255 258 7 15 (.int) = true := by decide +kernel
theorem zd88_258 : zDf 88 258 .ne 270 261 = true := by decide +kernel
theorem zd88_261 : zD 88 261 (.aload_n 0) 1 262 = true := by decide +kernel
theorem zd88_262 : zDg 88 262 265 7 7 (.array .int) = true := by decide +kernel
theorem zd88_265 : zD 88 265 (.iload_n 3) 1 266 = true := by decide +kernel
theorem zd88_266 : zD 88 266 .iaload 1 267 = true := by decide +kernel
theorem zd88_267 : zDj 88 267 276 = true := by decide +kernel
theorem zd88_270 : zD 88 270 (.aload_n 0) 1 271 = true := by decide +kernel
theorem zd88_271 : zDg 88 271 274 7 16 (.array .int) = true := by decide +kernel
theorem zd88_274 : zD 88 274 (.iload_n 3) 1 275 = true := by decide +kernel
theorem zd88_275 : zD 88 275 .iaload 1 276 = true := by decide +kernel
theorem zd88_276 : zD 88 276 .iastore 1 277 = true := by decide +kernel
theorem zd88_277 : zDi 88 277 280 3 (Int32.ofNat 1) = true := by decide +kernel
theorem zd88_280 : zDj 88 280 238 = true := by decide +kernel
theorem zd88_283 : zD 88 283 (.iload_n 1) 1 284 = true := by decide +kernel
theorem zd88_284 : zD 88 284 .ireturn 1 285 = true := by decide +kernel
theorem zd89_0 : zDc 89 0 1 (-1) = true := by decide +kernel
theorem zd89_1 : zD 89 1 (.istore_n 2) 1 2 = true := by decide +kernel
theorem zd89_2 : zDc 89 2 3 (Int32.ofNat 0) = true := by decide +kernel
theorem zd89_3 : zD 89 3 (.istore_n 3) 1 4 = true := by decide +kernel
theorem zd89_4 : zD 89 4 (.iload_n 3) 1 5 = true := by decide +kernel
theorem zd89_5 : zD 89 5 (.aload_n 0) 1 6 = true := by decide +kernel
theorem zd89_6 : zDg 89 6 9 7 9 (.array .int) = true := by decide +kernel
theorem zd89_9 : zDc 89 9 11 (Int32.ofNat 10) = true := by decide +kernel
theorem zd89_11 : zD 89 11 .iaload 1 12 = true := by decide +kernel
theorem zd89_12 : zDm 89 12 .ge 59 15 = true := by decide +kernel
theorem zd89_15 : zD 89 15 (.aload_n 0) 1 16 = true := by decide +kernel
theorem zd89_16 : zDg 89 16 19 7 10 (.array .int) = true := by decide +kernel
theorem zd89_19 : zDc 89 19 21 (Int32.ofNat 80) = true := by decide +kernel
theorem zd89_21 : zD 89 21 (.iload_n 3) 1 22 = true := by decide +kernel
theorem zd89_22 : zD 89 22 .iadd 1 23 = true := by decide +kernel
theorem zd89_23 : zD 89 23 .iaload 1 24 = true := by decide +kernel
theorem zd89_24 : zD 89 24 (.istore 4) 2 26 = true := by decide +kernel
theorem zd89_26 : zD 89 26 (.iload 4) 2 28 = true := by decide +kernel
theorem zd89_28 : zD 89 28 (.iload_n 1) 1 29 = true := by decide +kernel
theorem zd89_29 : zDm 89 29 .le 53 32 = true := by decide +kernel
theorem zd89_32 : zD 89 32 (.iload_n 2) 1 33 = true := by decide +kernel
theorem zd89_33 : zDc 89 33 34 (-1) = true := by decide +kernel
theorem zd89_34 : zDm 89 34 .eq 51 37 = true := by decide +kernel
theorem zd89_37 : zD 89 37 (.iload 4) 2 39 = true := by decide +kernel
theorem zd89_39 : zD 89 39 (.aload_n 0) 1 40 = true := by decide +kernel
theorem zd89_40 : zDg 89 40 43 7 10 (.array .int) = true := by decide +kernel
theorem zd89_43 : zDc 89 43 45 (Int32.ofNat 80) = true := by decide +kernel
theorem zd89_45 : zD 89 45 (.iload_n 2) 1 46 = true := by decide +kernel
theorem zd89_46 : zD 89 46 .iadd 1 47 = true := by decide +kernel
theorem zd89_47 : zD 89 47 .iaload 1 48 = true := by decide +kernel
theorem zd89_48 : zDm 89 48 .ge 53 51 = true := by decide +kernel
theorem zd89_51 : zD 89 51 (.iload_n 3) 1 52 = true := by decide +kernel
theorem zd89_52 : zD 89 52 (.istore_n 2) 1 53 = true := by decide +kernel
theorem zd89_53 : zDi 89 53 56 3 (Int32.ofNat 1) = true := by decide +kernel
theorem zd89_56 : zDj 89 56 4 = true := by decide +kernel
theorem zd89_59 : zD 89 59 (.iload_n 2) 1 60 = true := by decide +kernel
theorem zd89_60 : zD 89 60 .ireturn 1 61 = true := by decide +kernel
theorem zd90_0 : zD 90 0 (.aload_n 0) 1 1 = true := by decide +kernel
theorem zd90_1 : zDc 90 1 2 (Int32.ofNat 0) = true := by decide +kernel
theorem zd90_2 : zDk 90 2 5 91 0 = true := by decide +kernel
theorem zd90_5 : zD 90 5 (.aload_n 0) 1 6 = true := by decide +kernel
theorem zd90_6 : zD 90 6 (.aload_n 0) 1 7 = true := by decide +kernel
theorem zd90_7 : zDg 90 7 10 7 10 (.array .int) = true := by decide +kernel
theorem zd90_10 : zD 90 10 (.iload_n 1) 1 11 = true := by decide +kernel
theorem zd90_11 : zD 90 11 .iaload 1 12 = true := by decide +kernel
theorem zd90_12 : zDc 90 12 14 (Int32.ofNat 8) = true := by decide +kernel
theorem zd90_14 : zD 90 14 .ishr 1 15 = true := by decide +kernel
theorem zd90_15 : zDk 90 15 18 91 0 = true := by decide +kernel
theorem zd90_18 : zD 90 18 (.aload_n 0) 1 19 = true := by decide +kernel
theorem zd90_19 : zD 90 19 (.aload_n 0) 1 20 = true := by decide +kernel
theorem zd90_20 : zDg 90 20 23 7 10 (.array .int) = true := by decide +kernel
theorem zd90_23 : zD 90 23 (.iload_n 1) 1 24 = true := by decide +kernel
theorem zd90_24 : zD 90 24 .iaload 1 25 = true := by decide +kernel
theorem zd90_25 : zDc 90 25 28 (Int32.ofNat 255) = true := by decide +kernel
theorem zd90_28 : zD 90 28 .iand 1 29 = true := by decide +kernel
theorem zd90_29 : zDk 90 29 32 91 0 = true := by decide +kernel
theorem zd90_32 : zDc 90 32 33 (Int32.ofNat 0) = true := by decide +kernel
theorem zd90_33 : zD 90 33 (.istore_n 2) 1 34 = true := by decide +kernel
theorem zd90_34 : zD 90 34 (.iload_n 2) 1 35 = true := by decide +kernel
theorem zd90_35 : zD 90 35 (.aload_n 0) 1 36 = true := by decide +kernel
theorem zd90_36 : zDg 90 36 39 7 11 (.array .int) = true := by decide +kernel
theorem zd90_39 : zD 90 39 (.iload_n 1) 1 40 = true := by decide +kernel
theorem zd90_40 : zD 90 40 .iaload 1 41 = true := by decide +kernel
theorem zd90_41 : zDm 90 41 .ge 65 44 = true := by decide +kernel
theorem zd90_44 : zD 90 44 (.aload_n 0) 1 45 = true := by decide +kernel
theorem zd90_45 : zD 90 45 (.aload_n 0) 1 46 = true := by decide +kernel
theorem zd90_46 : zDg 90 46 49 7 12 (.array .int) = true := by decide +kernel
theorem zd90_49 : zDc 90 49 51 (Int32.ofNat 64) = true := by decide +kernel
theorem zd90_51 : zD 90 51 (.iload_n 1) 1 52 = true := by decide +kernel
theorem zd90_52 : zD 90 52 .imul 1 53 = true := by decide +kernel
theorem zd90_53 : zD 90 53 (.iload_n 2) 1 54 = true := by decide +kernel
theorem zd90_54 : zD 90 54 .iadd 1 55 = true := by decide +kernel
theorem zd90_55 : zD 90 55 .iaload 1 56 = true := by decide +kernel
theorem zd90_56 : zDk 90 56 59 91 0 = true := by decide +kernel
theorem zd90_59 : zDi 90 59 62 2 (Int32.ofNat 1) = true := by decide +kernel
theorem zd90_62 : zDj 90 62 34 = true := by decide +kernel
theorem zd90_65 : zD 90 65 (.aload_n 0) 1 66 = true := by decide +kernel
theorem zd90_66 : zDk 90 66 69 92 0 = true := by decide +kernel
theorem zd90_69 : zD 90 69 .return_ 1 70 = true := by decide +kernel
theorem zd91_0 : zD 91 0 (.aload_n 0) 1 1 = true := by decide +kernel
theorem zd91_1 : zDg 91 1 4 7 3 (.array .int) = true := by decide +kernel
theorem zd91_4 : zD 91 4 (.aload_n 0) 1 5 = true := by decide +kernel
theorem zd91_5 : zDg 91 5 8 7 2 (.int) = true := by decide +kernel
theorem zd91_8 : zD 91 8 (.iload_n 1) 1 9 = true := by decide +kernel
theorem zd91_9 : zD 91 9 .iastore 1 10 = true := by decide +kernel
theorem zd91_10 : zD 91 10 (.aload_n 0) 1 11 = true := by decide +kernel
theorem zd91_11 : zD 91 11 .dup 1 12 = true := by decide +kernel
theorem zd91_12 : zDg 91 12 15 7 2 (.int) = true := by decide +kernel
theorem zd91_15 : zDc 91 15 16 (Int32.ofNat 1) = true := by decide +kernel
theorem zd91_16 : zD 91 16 .iadd 1 17 = true := by decide +kernel
theorem zd91_17 : zDp 91 17 20 7 2 (.int) = true := by decide +kernel
theorem zd91_20 : zD 91 20 .return_ 1 21 = true := by decide +kernel
theorem zd92_0 : zD 92 0 (.aload_n 0) 1 1 = true := by decide +kernel
theorem zd92_1 : zDg 92 1 4 7 2 (.int) = true := by decide +kernel
theorem zd92_4 : zD 92 4 (.istore_n 1) 1 5 = true := by decide +kernel
theorem zd92_5 : zD 92 5 (.aload_n 0) 1 6 = true := by decide +kernel
theorem zd92_6 : zDc 92 6 9 (Int32.ofNat 128) = true := by decide +kernel
theorem zd92_9 : zDk 92 9 12 91 0 = true := by decide +kernel
theorem zd92_12 : zD 92 12 (.aload_n 0) 1 13 = true := by decide +kernel
theorem zd92_13 : zDg 92 13 16 7 2 (.int) = true := by decide +kernel
theorem zd92_16 : zDc 92 16 18 (Int32.ofNat 64) = true := by decide +kernel
theorem zd92_18 : zD 92 18 .irem 1 19 = true := by decide +kernel
theorem zd92_19 : zDc 92 19 21 (Int32.ofNat 56) = true := by decide +kernel
theorem zd92_21 : zDm 92 21 .eq 32 24 = true := by decide +kernel
theorem zd92_24 : zD 92 24 (.aload_n 0) 1 25 = true := by decide +kernel
theorem zd92_25 : zDc 92 25 26 (Int32.ofNat 0) = true := by decide +kernel
theorem zd92_26 : zDk 92 26 29 91 0 = true := by decide +kernel
theorem zd92_29 : zDj 92 29 12 = true := by decide +kernel
theorem zd92_32 : zDc 92 32 33 (Int32.ofNat 0) = true := by decide +kernel
theorem zd92_33 : zD 92 33 (.istore_n 2) 1 34 = true := by decide +kernel
theorem zd92_34 : zD 92 34 (.iload_n 2) 1 35 = true := by decide +kernel
theorem zd92_35 : zDc 92 35 36 (Int32.ofNat 4) = true := by decide +kernel
theorem zd92_36 : zDm 92 36 .ge 50 39 = true := by decide +kernel
theorem zd92_39 : zD 92 39 (.aload_n 0) 1 40 = true := by decide +kernel
theorem zd92_40 : zDc 92 40 41 (Int32.ofNat 0) = true := by decide +kernel
theorem zd92_41 : zDk 92 41 44 91 0 = true := by decide +kernel
theorem zd92_44 : zDi 92 44 47 2 (Int32.ofNat 1) = true := by decide +kernel
theorem zd92_47 : zDj 92 47 34 = true := by decide +kernel
theorem zd92_50 : zDc 92 50 52 (Int32.ofNat 24) = true := by decide +kernel
theorem zd92_52 : zD 92 52 (.istore_n 2) 1 53 = true := by decide +kernel
theorem zd92_53 : zD 92 53 (.iload_n 2) 1 54 = true := by decide +kernel
theorem zd92_54 : zDf 92 54 .lt 77 57 = true := by decide +kernel
theorem zd92_57 : zD 92 57 (.aload_n 0) 1 58 = true := by decide +kernel
theorem zd92_58 : zDc 92 58 60 (Int32.ofNat 8) = true := by decide +kernel
theorem zd92_60 : zD 92 60 (.iload_n 1) 1 61 = true := by decide +kernel
theorem zd92_61 : zD 92 61 .imul 1 62 = true := by decide +kernel
theorem zd92_62 : zD 92 62 (.iload_n 2) 1 63 = true := by decide +kernel
theorem zd92_63 : zD 92 63 .ishr 1 64 = true := by decide +kernel
theorem zd92_64 : zDc 92 64 67 (Int32.ofNat 255) = true := by decide +kernel
theorem zd92_67 : zD 92 67 .iand 1 68 = true := by decide +kernel
theorem zd92_68 : zDk 92 68 71 91 0 = true := by decide +kernel
theorem zd92_71 : zDi 92 71 74 2 (-(Int32.ofNat 8)) = true := by decide +kernel
theorem zd92_74 : zDj 92 74 53 = true := by decide +kernel
theorem zd92_77 : zD 92 77 (.aload_n 0) 1 78 = true := by decide +kernel
theorem zd92_78 : zDg 92 78 81 7 5 (.array .int) = true := by decide +kernel
theorem zd92_81 : zDc 92 81 82 (Int32.ofNat 0) = true := by decide +kernel
theorem zd92_82 : zDc 92 82 84 (Int32.ofNat 1779033703) = true := by decide +kernel
theorem zd92_84 : zD 92 84 .iastore 1 85 = true := by decide +kernel
theorem zd92_85 : zD 92 85 (.aload_n 0) 1 86 = true := by decide +kernel
theorem zd92_86 : zDg 92 86 89 7 5 (.array .int) = true := by decide +kernel
theorem zd92_89 : zDc 92 89 90 (Int32.ofNat 1) = true := by decide +kernel
theorem zd92_90 : zDc 92 90 92 (-1150833019) = true := by decide +kernel
theorem zd92_92 : zD 92 92 .iastore 1 93 = true := by decide +kernel
theorem zd92_93 : zD 92 93 (.aload_n 0) 1 94 = true := by decide +kernel
theorem zd92_94 : zDg 92 94 97 7 5 (.array .int) = true := by decide +kernel
theorem zd92_97 : zDc 92 97 98 (Int32.ofNat 2) = true := by decide +kernel
theorem zd92_98 : zDc 92 98 100 (Int32.ofNat 1013904242) = true := by decide +kernel
theorem zd92_100 : zD 92 100 .iastore 1 101 = true := by decide +kernel
theorem zd92_101 : zD 92 101 (.aload_n 0) 1 102 = true := by decide +kernel
theorem zd92_102 : zDg 92 102 105 7 5 (.array .int) = true := by decide +kernel
theorem zd92_105 : zDc 92 105 106 (Int32.ofNat 3) = true := by decide +kernel
theorem zd92_106 : zDc 92 106 108 (-1521486534) = true := by decide +kernel
theorem zd92_108 : zD 92 108 .iastore 1 109 = true := by decide +kernel
theorem zd92_109 : zD 92 109 (.aload_n 0) 1 110 = true := by decide +kernel
theorem zd92_110 : zDg 92 110 113 7 5 (.array .int) = true := by decide +kernel
theorem zd92_113 : zDc 92 113 114 (Int32.ofNat 4) = true := by decide +kernel
theorem zd92_114 : zDc 92 114 116 (Int32.ofNat 1359893119) = true := by decide +kernel
theorem zd92_116 : zD 92 116 .iastore 1 117 = true := by decide +kernel
theorem zd92_117 : zD 92 117 (.aload_n 0) 1 118 = true := by decide +kernel
theorem zd92_118 : zDg 92 118 121 7 5 (.array .int) = true := by decide +kernel
theorem zd92_121 : zDc 92 121 122 (Int32.ofNat 5) = true := by decide +kernel
theorem zd92_122 : zDc 92 122 124 (-1694144372) = true := by decide +kernel
theorem zd92_124 : zD 92 124 .iastore 1 125 = true := by decide +kernel
theorem zd92_125 : zD 92 125 (.aload_n 0) 1 126 = true := by decide +kernel
theorem zd92_126 : zDg 92 126 129 7 5 (.array .int) = true := by decide +kernel
theorem zd92_129 : zDc 92 129 131 (Int32.ofNat 6) = true := by decide +kernel
theorem zd92_131 : zDc 92 131 133 (Int32.ofNat 528734635) = true := by decide +kernel
theorem zd92_133 : zD 92 133 .iastore 1 134 = true := by decide +kernel
theorem zd92_134 : zD 92 134 (.aload_n 0) 1 135 = true := by decide +kernel
theorem zd92_135 : zDg 92 135 138 7 5 (.array .int) = true := by decide +kernel
theorem zd92_138 : zDc 92 138 140 (Int32.ofNat 7) = true := by decide +kernel
theorem zd92_140 : zDc 92 140 142 (Int32.ofNat 1541459225) = true := by decide +kernel
theorem zd92_142 : zD 92 142 .iastore 1 143 = true := by decide +kernel
theorem zd92_143 : zDc 92 143 144 (Int32.ofNat 0) = true := by decide +kernel
theorem zd92_144 : zD 92 144 (.istore_n 2) 1 145 = true := by decide +kernel
theorem zd92_145 : zD 92 145 (.iload_n 2) 1 146 = true := by decide +kernel
theorem zd92_146 : zD 92 146 (.aload_n 0) 1 147 = true := by decide +kernel
theorem zd92_147 : zDg 92 147 150 7 2 (.int) = true := by decide +kernel
theorem zd92_150 : zDm 92 150 .ge 164 153 = true := by decide +kernel
theorem zd92_153 : zD 92 153 (.aload_n 0) 1 154 = true := by decide +kernel
theorem zd92_154 : zD 92 154 (.iload_n 2) 1 155 = true := by decide +kernel
theorem zd92_155 : zDk 92 155 158 93 0 = true := by decide +kernel
theorem zd92_158 : zDi 92 158 161 2 (Int32.ofNat 64) = true := by decide +kernel
theorem zd92_161 : zDj 92 161 145 = true := by decide +kernel
theorem zd92_164 : zDc 92 164 165 (Int32.ofNat 0) = true := by decide +kernel
theorem zd92_165 : zD 92 165 (.istore_n 2) 1 166 = true := by decide +kernel
theorem zd92_166 : zD 92 166 (.iload_n 2) 1 167 = true := by decide +kernel
theorem zd92_167 : zDc 92 167 169 (Int32.ofNat 32) = true := by decide +kernel
theorem zd92_169 : zDm 92 169 .ge 206 172 = true := by decide +kernel
theorem zd92_172 : zD 92 172 (.aload_n 0) 1 173 = true := by decide +kernel
theorem zd92_173 : zDg 92 173 176 7 7 (.array .int) = true := by decide +kernel
theorem zd92_176 : zD 92 176 (.iload_n 2) 1 177 = true := by decide +kernel
theorem zd92_177 : zD 92 177 (.aload_n 0) 1 178 = true := by decide +kernel
theorem zd92_178 : zDg 92 178 181 7 5 (.array .int) = true := by decide +kernel
theorem zd92_181 : zD 92 181 (.iload_n 2) 1 182 = true := by decide +kernel
theorem zd92_182 : zDc 92 182 183 (Int32.ofNat 4) = true := by decide +kernel
theorem zd92_183 : zD 92 183 .idiv 1 184 = true := by decide +kernel
theorem zd92_184 : zD 92 184 .iaload 1 185 = true := by decide +kernel
theorem zd92_185 : zDc 92 185 187 (Int32.ofNat 24) = true := by decide +kernel
theorem zd92_187 : zDc 92 187 189 (Int32.ofNat 8) = true := by decide +kernel
theorem zd92_189 : zD 92 189 (.iload_n 2) 1 190 = true := by decide +kernel
theorem zd92_190 : zDc 92 190 191 (Int32.ofNat 4) = true := by decide +kernel
theorem zd92_191 : zD 92 191 .irem 1 192 = true := by decide +kernel
theorem zd92_192 : zD 92 192 .imul 1 193 = true := by decide +kernel
theorem zd92_193 : zD 92 193 .isub 1 194 = true := by decide +kernel
theorem zd92_194 : zD 92 194 .ishr 1 195 = true := by decide +kernel
theorem zd92_195 : zDc 92 195 198 (Int32.ofNat 255) = true := by decide +kernel
theorem zd92_198 : zD 92 198 .iand 1 199 = true := by decide +kernel
theorem zd92_199 : zD 92 199 .iastore 1 200 = true := by decide +kernel
theorem zd92_200 : zDi 92 200 203 2 (Int32.ofNat 1) = true := by decide +kernel
theorem zd92_203 : zDj 92 203 166 = true := by decide +kernel
theorem zd92_206 : zD 92 206 (.aload_n 0) 1 207 = true := by decide +kernel
theorem zd92_207 : zDc 92 207 208 (Int32.ofNat 0) = true := by decide +kernel
theorem zd92_208 : zDp 92 208 211 7 2 (.int) = true := by decide +kernel
theorem zd92_211 : zD 92 211 .return_ 1 212 = true := by decide +kernel
theorem zd93_0 : zDc 93 0 1 (Int32.ofNat 0) = true := by decide +kernel
theorem zd93_1 : zD 93 1 (.istore_n 2) 1 2 = true := by decide +kernel
theorem zd93_2 : zD 93 2 (.iload_n 2) 1 3 = true := by decide +kernel
theorem zd93_3 : zDc 93 3 5 (Int32.ofNat 16) = true := by decide +kernel
theorem zd93_5 : zDm 93 5 .ge 68 8 = true := by decide +kernel
theorem zd93_8 : zD 93 8 (.iload_n 1) 1 9 = true := by decide +kernel
theorem zd93_9 : zDc 93 9 10 (Int32.ofNat 4) = true := by decide +kernel
theorem zd93_10 : zD 93 10 (.iload_n 2) 1 11 = true := by decide +kernel
theorem zd93_11 : zD 93 11 .imul 1 12 = true := by decide +kernel
theorem zd93_12 : zD 93 12 .iadd 1 13 = true := by decide +kernel
theorem zd93_13 : zD 93 13 (.istore_n 3) 1 14 = true := by decide +kernel
theorem zd93_14 : zD 93 14 (.aload_n 0) 1 15 = true := by decide +kernel
theorem zd93_15 : zDg 93 15 18 7 4 (.array .int) = true := by decide +kernel
theorem zd93_18 : zD 93 18 (.iload_n 2) 1 19 = true := by decide +kernel
theorem zd93_19 : zD 93 19 (.aload_n 0) 1 20 = true := by decide +kernel
theorem zd93_20 : zDg 93 20 23 7 3 (.array .int) = true := by decide +kernel
theorem zd93_23 : zD 93 23 (.iload_n 3) 1 24 = true := by decide +kernel
theorem zd93_24 : zD 93 24 .iaload 1 25 = true := by decide +kernel
theorem zd93_25 : zDc 93 25 27 (Int32.ofNat 24) = true := by decide +kernel
theorem zd93_27 : zD 93 27 .ishl 1 28 = true := by decide +kernel
theorem zd93_28 : zD 93 28 (.aload_n 0) 1 29 = true := by decide +kernel
theorem zd93_29 : zDg 93 29 32 7 3 (.array .int) = true := by decide +kernel
theorem zd93_32 : zD 93 32 (.iload_n 3) 1 33 = true := by decide +kernel
theorem zd93_33 : zDc 93 33 34 (Int32.ofNat 1) = true := by decide +kernel
theorem zd93_34 : zD 93 34 .iadd 1 35 = true := by decide +kernel
theorem zd93_35 : zD 93 35 .iaload 1 36 = true := by decide +kernel
theorem zd93_36 : zDc 93 36 38 (Int32.ofNat 16) = true := by decide +kernel
theorem zd93_38 : zD 93 38 .ishl 1 39 = true := by decide +kernel
theorem zd93_39 : zD 93 39 .ior 1 40 = true := by decide +kernel
theorem zd93_40 : zD 93 40 (.aload_n 0) 1 41 = true := by decide +kernel
theorem zd93_41 : zDg 93 41 44 7 3 (.array .int) = true := by decide +kernel
theorem zd93_44 : zD 93 44 (.iload_n 3) 1 45 = true := by decide +kernel
theorem zd93_45 : zDc 93 45 46 (Int32.ofNat 2) = true := by decide +kernel
theorem zd93_46 : zD 93 46 .iadd 1 47 = true := by decide +kernel
theorem zd93_47 : zD 93 47 .iaload 1 48 = true := by decide +kernel
theorem zd93_48 : zDc 93 48 50 (Int32.ofNat 8) = true := by decide +kernel
theorem zd93_50 : zD 93 50 .ishl 1 51 = true := by decide +kernel
theorem zd93_51 : zD 93 51 .ior 1 52 = true := by decide +kernel
theorem zd93_52 : zD 93 52 (.aload_n 0) 1 53 = true := by decide +kernel
theorem zd93_53 : zDg 93 53 56 7 3 (.array .int) = true := by decide +kernel
theorem zd93_56 : zD 93 56 (.iload_n 3) 1 57 = true := by decide +kernel
theorem zd93_57 : zDc 93 57 58 (Int32.ofNat 3) = true := by decide +kernel
theorem zd93_58 : zD 93 58 .iadd 1 59 = true := by decide +kernel
theorem zd93_59 : zD 93 59 .iaload 1 60 = true := by decide +kernel
theorem zd93_60 : zD 93 60 .ior 1 61 = true := by decide +kernel
theorem zd93_61 : zD 93 61 .iastore 1 62 = true := by decide +kernel
theorem zd93_62 : zDi 93 62 65 2 (Int32.ofNat 1) = true := by decide +kernel
theorem zd93_65 : zDj 93 65 2 = true := by decide +kernel
theorem zd93_68 : zDc 93 68 70 (Int32.ofNat 16) = true := by decide +kernel
theorem zd93_70 : zD 93 70 (.istore_n 2) 1 71 = true := by decide +kernel
theorem zd93_71 : zD 93 71 (.iload_n 2) 1 72 = true := by decide +kernel
theorem zd93_72 : zDc 93 72 74 (Int32.ofNat 64) = true := by decide +kernel
theorem zd93_74 : zDm 93 74 .ge 176 77 = true := by decide +kernel
theorem zd93_77 : zD 93 77 (.aload_n 0) 1 78 = true := by decide +kernel
theorem zd93_78 : zDg 93 78 81 7 4 (.array .int) = true := by decide +kernel
theorem zd93_81 : zD 93 81 (.iload_n 2) 1 82 = true := by decide +kernel
theorem zd93_82 : zDc 93 82 84 (Int32.ofNat 15) = true := by decide +kernel
theorem zd93_84 : zD 93 84 .isub 1 85 = true := by decide +kernel
theorem zd93_85 : zD 93 85 .iaload 1 86 = true := by decide +kernel
theorem zd93_86 : zD 93 86 (.istore_n 3) 1 87 = true := by decide +kernel
theorem zd93_87 : zD 93 87 (.aload_n 0) 1 88 = true := by decide +kernel
theorem zd93_88 : zDg 93 88 91 7 4 (.array .int) = true := by decide +kernel
theorem zd93_91 : zD 93 91 (.iload_n 2) 1 92 = true := by decide +kernel
theorem zd93_92 : zDc 93 92 93 (Int32.ofNat 2) = true := by decide +kernel
theorem zd93_93 : zD 93 93 .isub 1 94 = true := by decide +kernel
theorem zd93_94 : zD 93 94 .iaload 1 95 = true := by decide +kernel
theorem zd93_95 : zD 93 95 (.istore 4) 2 97 = true := by decide +kernel
theorem zd93_97 : zD 93 97 (.iload_n 3) 1 98 = true := by decide +kernel
theorem zd93_98 : zDc 93 98 100 (Int32.ofNat 7) = true := by decide +kernel
theorem zd93_100 : zDk 93 100 103 94 2 = true := by decide +kernel
theorem zd93_103 : zD 93 103 (.iload_n 3) 1 104 = true := by decide +kernel
theorem zd93_104 : zDc 93 104 106 (Int32.ofNat 18) = true := by decide +kernel
theorem zd93_106 : zDk 93 106 109 94 2 = true := by decide +kernel
theorem zd93_109 : zD 93 109 .ixor 1 110 = true := by decide +kernel
theorem zd93_110 : zD 93 110 (.iload_n 3) 1 111 = true := by decide +kernel
theorem zd93_111 : zDc 93 111 112 (Int32.ofNat 3) = true := by decide +kernel
theorem zd93_112 : zD 93 112 .iushr 1 113 = true := by decide +kernel
theorem zd93_113 : zD 93 113 .ixor 1 114 = true := by decide +kernel
theorem zd93_114 : zD 93 114 (.istore 5) 2 116 = true := by decide +kernel
theorem zd93_116 : zD 93 116 (.iload 4) 2 118 = true := by decide +kernel
theorem zd93_118 : zDc 93 118 120 (Int32.ofNat 17) = true := by decide +kernel
theorem zd93_120 : zDk 93 120 123 94 2 = true := by decide +kernel
theorem zd93_123 : zD 93 123 (.iload 4) 2 125 = true := by decide +kernel
theorem zd93_125 : zDc 93 125 127 (Int32.ofNat 19) = true := by decide +kernel
theorem zd93_127 : zDk 93 127 130 94 2 = true := by decide +kernel
theorem zd93_130 : zD 93 130 .ixor 1 131 = true := by decide +kernel
theorem zd93_131 : zD 93 131 (.iload 4) 2 133 = true := by decide +kernel
theorem zd93_133 : zDc 93 133 135 (Int32.ofNat 10) = true := by decide +kernel
theorem zd93_135 : zD 93 135 .iushr 1 136 = true := by decide +kernel
theorem zd93_136 : zD 93 136 .ixor 1 137 = true := by decide +kernel
theorem zd93_137 : zD 93 137 (.istore 6) 2 139 = true := by decide +kernel
theorem zd93_139 : zD 93 139 (.aload_n 0) 1 140 = true := by decide +kernel
theorem zd93_140 : zDg 93 140 143 7 4 (.array .int) = true := by decide +kernel
theorem zd93_143 : zD 93 143 (.iload_n 2) 1 144 = true := by decide +kernel
theorem zd93_144 : zD 93 144 (.aload_n 0) 1 145 = true := by decide +kernel
theorem zd93_145 : zDg 93 145 148 7 4 (.array .int) = true := by decide +kernel
theorem zd93_148 : zD 93 148 (.iload_n 2) 1 149 = true := by decide +kernel
theorem zd93_149 : zDc 93 149 151 (Int32.ofNat 16) = true := by decide +kernel
theorem zd93_151 : zD 93 151 .isub 1 152 = true := by decide +kernel
theorem zd93_152 : zD 93 152 .iaload 1 153 = true := by decide +kernel
theorem zd93_153 : zD 93 153 (.iload 5) 2 155 = true := by decide +kernel
theorem zd93_155 : zD 93 155 .iadd 1 156 = true := by decide +kernel
theorem zd93_156 : zD 93 156 (.aload_n 0) 1 157 = true := by decide +kernel
theorem zd93_157 : zDg 93 157 160 7 4 (.array .int) = true := by decide +kernel
theorem zd93_160 : zD 93 160 (.iload_n 2) 1 161 = true := by decide +kernel
theorem zd93_161 : zDc 93 161 163 (Int32.ofNat 7) = true := by decide +kernel
theorem zd93_163 : zD 93 163 .isub 1 164 = true := by decide +kernel
theorem zd93_164 : zD 93 164 .iaload 1 165 = true := by decide +kernel
theorem zd93_165 : zD 93 165 .iadd 1 166 = true := by decide +kernel
theorem zd93_166 : zD 93 166 (.iload 6) 2 168 = true := by decide +kernel
theorem zd93_168 : zD 93 168 .iadd 1 169 = true := by decide +kernel
theorem zd93_169 : zD 93 169 .iastore 1 170 = true := by decide +kernel
theorem zd93_170 : zDi 93 170 173 2 (Int32.ofNat 1) = true := by decide +kernel
theorem zd93_173 : zDj 93 173 71 = true := by decide +kernel
theorem zd93_176 : zDc 93 176 177 (Int32.ofNat 0) = true := by decide +kernel
theorem zd93_177 : zD 93 177 (.istore_n 2) 1 178 = true := by decide +kernel
theorem zd93_178 : zD 93 178 (.iload_n 2) 1 179 = true := by decide +kernel
theorem zd93_179 : zDc 93 179 181 (Int32.ofNat 8) = true := by decide +kernel
theorem zd93_181 : zDm 93 181 .ge 202 184 = true := by decide +kernel
theorem zd93_184 : zD 93 184 (.aload_n 0) 1 185 = true := by decide +kernel
theorem zd93_185 : zDg 93 185 188 7 6 (.array .int) = true := by decide +kernel
theorem zd93_188 : zD 93 188 (.iload_n 2) 1 189 = true := by decide +kernel
theorem zd93_189 : zD 93 189 (.aload_n 0) 1 190 = true := by decide +kernel
theorem zd93_190 : zDg 93 190 193 7 5 (.array .int) = true := by decide +kernel
theorem zd93_193 : zD 93 193 (.iload_n 2) 1 194 = true := by decide +kernel
theorem zd93_194 : zD 93 194 .iaload 1 195 = true := by decide +kernel
theorem zd93_195 : zD 93 195 .iastore 1 196 = true := by decide +kernel
theorem zd93_196 : zDi 93 196 199 2 (Int32.ofNat 1) = true := by decide +kernel
theorem zd93_199 : zDj 93 199 178 = true := by decide +kernel
theorem zd93_202 : zDc 93 202 203 (Int32.ofNat 0) = true := by decide +kernel
theorem zd93_203 : zD 93 203 (.istore_n 2) 1 204 = true := by decide +kernel
theorem zd93_204 : zD 93 204 (.iload_n 2) 1 205 = true := by decide +kernel
theorem zd93_205 : zDc 93 205 207 (Int32.ofNat 64) = true := by decide +kernel
theorem zd93_207 : zDm 93 207 .ge 419 210 = true := by decide +kernel
theorem zd93_210 : zD 93 210 (.aload_n 0) 1 211 = true := by decide +kernel
theorem zd93_211 : zDg 93 211 214 7 6 (.array .int) = true := by decide +kernel
theorem zd93_214 : zDc 93 214 215 (Int32.ofNat 4) = true := by decide +kernel
theorem zd93_215 : zD 93 215 .iaload 1 216 = true := by decide +kernel
theorem zd93_216 : zD 93 216 (.istore_n 3) 1 217 = true := by decide +kernel
theorem zd93_217 : zD 93 217 (.aload_n 0) 1 218 = true := by decide +kernel
theorem zd93_218 : zDg 93 218 221 7 6 (.array .int) = true := by decide +kernel
theorem zd93_221 : zDc 93 221 222 (Int32.ofNat 0) = true := by decide +kernel
theorem zd93_222 : zD 93 222 .iaload 1 223 = true := by decide +kernel
theorem zd93_223 : zD 93 223 (.istore 4) 2 225 = true := by decide +kernel
theorem zd93_225 : zD 93 225 (.iload_n 3) 1 226 = true := by decide +kernel
theorem zd93_226 : zDc 93 226 228 (Int32.ofNat 6) = true := by decide +kernel
theorem zd93_228 : zDk 93 228 231 94 2 = true := by decide +kernel
theorem zd93_231 : zD 93 231 (.iload_n 3) 1 232 = true := by decide +kernel
theorem zd93_232 : zDc 93 232 234 (Int32.ofNat 11) = true := by decide +kernel
theorem zd93_234 : zDk 93 234 237 94 2 = true := by decide +kernel
theorem zd93_237 : zD 93 237 .ixor 1 238 = true := by decide +kernel
theorem zd93_238 : zD 93 238 (.iload_n 3) 1 239 = true := by decide +kernel
theorem zd93_239 : zDc 93 239 241 (Int32.ofNat 25) = true := by decide +kernel
theorem zd93_241 : zDk 93 241 244 94 2 = true := by decide +kernel
theorem zd93_244 : zD 93 244 .ixor 1 245 = true := by decide +kernel
theorem zd93_245 : zD 93 245 (.istore 5) 2 247 = true := by decide +kernel
theorem zd93_247 : zD 93 247 (.iload_n 3) 1 248 = true := by decide +kernel
theorem zd93_248 : zD 93 248 (.aload_n 0) 1 249 = true := by decide +kernel
theorem zd93_249 : zDg 93 249 252 7 6 (.array .int) = true := by decide +kernel
theorem zd93_252 : zDc 93 252 253 (Int32.ofNat 5) = true := by decide +kernel
theorem zd93_253 : zD 93 253 .iaload 1 254 = true := by decide +kernel
theorem zd93_254 : zD 93 254 .iand 1 255 = true := by decide +kernel
theorem zd93_255 : zD 93 255 (.iload_n 3) 1 256 = true := by decide +kernel
theorem zd93_256 : zDc 93 256 257 (-1) = true := by decide +kernel
theorem zd93_257 : zD 93 257 .ixor 1 258 = true := by decide +kernel
theorem zd93_258 : zD 93 258 (.aload_n 0) 1 259 = true := by decide +kernel
theorem zd93_259 : zDg 93 259 262 7 6 (.array .int) = true := by decide +kernel
theorem zd93_262 : zDc 93 262 264 (Int32.ofNat 6) = true := by decide +kernel
theorem zd93_264 : zD 93 264 .iaload 1 265 = true := by decide +kernel
theorem zd93_265 : zD 93 265 .iand 1 266 = true := by decide +kernel
theorem zd93_266 : zD 93 266 .ixor 1 267 = true := by decide +kernel
theorem zd93_267 : zD 93 267 (.istore 6) 2 269 = true := by decide +kernel
theorem zd93_269 : zD 93 269 (.aload_n 0) 1 270 = true := by decide +kernel
theorem zd93_270 : zDg 93 270 273 7 6 (.array .int) = true := by decide +kernel
theorem zd93_273 : zDc 93 273 275 (Int32.ofNat 7) = true := by decide +kernel
theorem zd93_275 : zD 93 275 .iaload 1 276 = true := by decide +kernel
theorem zd93_276 : zD 93 276 (.iload 5) 2 278 = true := by decide +kernel
theorem zd93_278 : zD 93 278 .iadd 1 279 = true := by decide +kernel
theorem zd93_279 : zD 93 279 (.iload 6) 2 281 = true := by decide +kernel
theorem zd93_281 : zD 93 281 .iadd 1 282 = true := by decide +kernel
theorem zd93_282 : zD 93 282 (.aload_n 0) 1 283 = true := by decide +kernel
theorem zd93_283 : zDg 93 283 286 7 1 (.array .int) = true := by decide +kernel
theorem zd93_286 : zD 93 286 (.iload_n 2) 1 287 = true := by decide +kernel
theorem zd93_287 : zD 93 287 .iaload 1 288 = true := by decide +kernel
theorem zd93_288 : zD 93 288 .iadd 1 289 = true := by decide +kernel
theorem zd93_289 : zD 93 289 (.aload_n 0) 1 290 = true := by decide +kernel
theorem zd93_290 : zDg 93 290 293 7 4 (.array .int) = true := by decide +kernel
theorem zd93_293 : zD 93 293 (.iload_n 2) 1 294 = true := by decide +kernel
theorem zd93_294 : zD 93 294 .iaload 1 295 = true := by decide +kernel
theorem zd93_295 : zD 93 295 .iadd 1 296 = true := by decide +kernel
theorem zd93_296 : zD 93 296 (.istore 7) 2 298 = true := by decide +kernel
theorem zd93_298 : zD 93 298 (.iload 4) 2 300 = true := by decide +kernel
theorem zd93_300 : zDc 93 300 301 (Int32.ofNat 2) = true := by decide +kernel
theorem zd93_301 : zDk 93 301 304 94 2 = true := by decide +kernel
theorem zd93_304 : zD 93 304 (.iload 4) 2 306 = true := by decide +kernel
theorem zd93_306 : zDc 93 306 308 (Int32.ofNat 13) = true := by decide +kernel
theorem zd93_308 : zDk 93 308 311 94 2 = true := by decide +kernel
theorem zd93_311 : zD 93 311 .ixor 1 312 = true := by decide +kernel
theorem zd93_312 : zD 93 312 (.iload 4) 2 314 = true := by decide +kernel
theorem zd93_314 : zDc 93 314 316 (Int32.ofNat 22) = true := by decide +kernel
theorem zd93_316 : zDk 93 316 319 94 2 = true := by decide +kernel
theorem zd93_319 : zD 93 319 .ixor 1 320 = true := by decide +kernel
theorem zd93_320 : zD 93 320 (.istore 8) 2 322 = true := by decide +kernel
theorem zd93_322 : zD 93 322 (.iload 4) 2 324 = true := by decide +kernel
theorem zd93_324 : zD 93 324 (.aload_n 0) 1 325 = true := by decide +kernel
theorem zd93_325 : zDg 93 325 328 7 6 (.array .int) = true := by decide +kernel
theorem zd93_328 : zDc 93 328 329 (Int32.ofNat 1) = true := by decide +kernel
theorem zd93_329 : zD 93 329 .iaload 1 330 = true := by decide +kernel
theorem zd93_330 : zD 93 330 .iand 1 331 = true := by decide +kernel
theorem zd93_331 : zD 93 331 (.iload 4) 2 333 = true := by decide +kernel
theorem zd93_333 : zD 93 333 (.aload_n 0) 1 334 = true := by decide +kernel
theorem zd93_334 : zDg 93 334 337 7 6 (.array .int) = true := by decide +kernel
theorem zd93_337 : zDc 93 337 338 (Int32.ofNat 2) = true := by decide +kernel
theorem zd93_338 : zD 93 338 .iaload 1 339 = true := by decide +kernel
theorem zd93_339 : zD 93 339 .iand 1 340 = true := by decide +kernel
theorem zd93_340 : zD 93 340 .ixor 1 341 = true := by decide +kernel
theorem zd93_341 : zD 93 341 (.aload_n 0) 1 342 = true := by decide +kernel
theorem zd93_342 : zDg 93 342 345 7 6 (.array .int) = true := by decide +kernel
theorem zd93_345 : zDc 93 345 346 (Int32.ofNat 1) = true := by decide +kernel
theorem zd93_346 : zD 93 346 .iaload 1 347 = true := by decide +kernel
theorem zd93_347 : zD 93 347 (.aload_n 0) 1 348 = true := by decide +kernel
theorem zd93_348 : zDg 93 348 351 7 6 (.array .int) = true := by decide +kernel
theorem zd93_351 : zDc 93 351 352 (Int32.ofNat 2) = true := by decide +kernel
theorem zd93_352 : zD 93 352 .iaload 1 353 = true := by decide +kernel
theorem zd93_353 : zD 93 353 .iand 1 354 = true := by decide +kernel
theorem zd93_354 : zD 93 354 .ixor 1 355 = true := by decide +kernel
theorem zd93_355 : zD 93 355 (.istore 9) 2 357 = true := by decide +kernel
theorem zd93_357 : zDc 93 357 359 (Int32.ofNat 7) = true := by decide +kernel
theorem zd93_359 : zD 93 359 (.istore 10) 2 361 = true := by decide +kernel
theorem zd93_361 : zD 93 361 (.iload 10) 2 363 = true := by decide +kernel
theorem zd93_363 : zDf 93 363 .le 388 366 = true := by decide +kernel
theorem zd93_366 : zD 93 366 (.aload_n 0) 1 367 = true := by decide +kernel
theorem zd93_367 : zDg 93 367 370 7 6 (.array .int) = true := by decide +kernel
theorem zd93_370 : zD 93 370 (.iload 10) 2 372 = true := by decide +kernel
theorem zd93_372 : zD 93 372 (.aload_n 0) 1 373 = true := by decide +kernel
theorem zd93_373 : zDg 93 373 376 7 6 (.array .int) = true := by decide +kernel
theorem zd93_376 : zD 93 376 (.iload 10) 2 378 = true := by decide +kernel
theorem zd93_378 : zDc 93 378 379 (Int32.ofNat 1) = true := by decide +kernel
theorem zd93_379 : zD 93 379 .isub 1 380 = true := by decide +kernel
theorem zd93_380 : zD 93 380 .iaload 1 381 = true := by decide +kernel
theorem zd93_381 : zD 93 381 .iastore 1 382 = true := by decide +kernel
theorem zd93_382 : zDi 93 382 385 10 (-(Int32.ofNat 1)) = true := by decide +kernel
theorem zd93_385 : zDj 93 385 361 = true := by decide +kernel
theorem zd93_388 : zD 93 388 (.aload_n 0) 1 389 = true := by decide +kernel
theorem zd93_389 : zDg 93 389 392 7 6 (.array .int) = true := by decide +kernel
theorem zd93_392 : zDc 93 392 393 (Int32.ofNat 4) = true := by decide +kernel
theorem zd93_393 : zD 93 393 .dup2 1 394 = true := by decide +kernel
theorem zd93_394 : zD 93 394 .iaload 1 395 = true := by decide +kernel
theorem zd93_395 : zD 93 395 (.iload 7) 2 397 = true := by decide +kernel
theorem zd93_397 : zD 93 397 .iadd 1 398 = true := by decide +kernel
theorem zd93_398 : zD 93 398 .iastore 1 399 = true := by decide +kernel
theorem zd93_399 : zD 93 399 (.aload_n 0) 1 400 = true := by decide +kernel
theorem zd93_400 : zDg 93 400 403 7 6 (.array .int) = true := by decide +kernel
theorem zd93_403 : zDc 93 403 404 (Int32.ofNat 0) = true := by decide +kernel
theorem zd93_404 : zD 93 404 (.iload 7) 2 406 = true := by decide +kernel
theorem zd93_406 : zD 93 406 (.iload 8) 2 408 = true := by decide +kernel
theorem zd93_408 : zD 93 408 .iadd 1 409 = true := by decide +kernel
theorem zd93_409 : zD 93 409 (.iload 9) 2 411 = true := by decide +kernel
theorem zd93_411 : zD 93 411 .iadd 1 412 = true := by decide +kernel
theorem zd93_412 : zD 93 412 .iastore 1 413 = true := by decide +kernel
theorem zd93_413 : zDi 93 413 416 2 (Int32.ofNat 1) = true := by decide +kernel
theorem zd93_416 : zDj 93 416 204 = true := by decide +kernel
theorem zd93_419 : zDc 93 419 420 (Int32.ofNat 0) = true := by decide +kernel
theorem zd93_420 : zD 93 420 (.istore_n 2) 1 421 = true := by decide +kernel
theorem zd93_421 : zD 93 421 (.iload_n 2) 1 422 = true := by decide +kernel
theorem zd93_422 : zDc 93 422 424 (Int32.ofNat 8) = true := by decide +kernel
theorem zd93_424 : zDm 93 424 .ge 448 427 = true := by decide +kernel
theorem zd93_427 : zD 93 427 (.aload_n 0) 1 428 = true := by decide +kernel
theorem zd93_428 : zDg 93 428 431 7 5 (.array .int) = true := by decide +kernel
theorem zd93_431 : zD 93 431 (.iload_n 2) 1 432 = true := by decide +kernel
theorem zd93_432 : zD 93 432 .dup2 1 433 = true := by decide +kernel
theorem zd93_433 : zD 93 433 .iaload 1 434 = true := by decide +kernel
theorem zd93_434 : zD 93 434 (.aload_n 0) 1 435 = true := by decide +kernel
theorem zd93_435 : zDg 93 435 438 7 6 (.array .int) = true := by decide +kernel
theorem zd93_438 : zD 93 438 (.iload_n 2) 1 439 = true := by decide +kernel
theorem zd93_439 : zD 93 439 .iaload 1 440 = true := by decide +kernel
theorem zd93_440 : zD 93 440 .iadd 1 441 = true := by decide +kernel
theorem zd93_441 : zD 93 441 .iastore 1 442 = true := by decide +kernel
theorem zd93_442 : zDi 93 442 445 2 (Int32.ofNat 1) = true := by decide +kernel
theorem zd93_445 : zDj 93 445 421 = true := by decide +kernel
theorem zd93_448 : zD 93 448 .return_ 1 449 = true := by decide +kernel
theorem zd94_0 : zD 94 0 (.iload_n 0) 1 1 = true := by decide +kernel
theorem zd94_1 : zD 94 1 (.iload_n 1) 1 2 = true := by decide +kernel
theorem zd94_2 : zD 94 2 .iushr 1 3 = true := by decide +kernel
theorem zd94_3 : zD 94 3 (.iload_n 0) 1 4 = true := by decide +kernel
theorem zd94_4 : zDc 94 4 6 (Int32.ofNat 32) = true := by decide +kernel
theorem zd94_6 : zD 94 6 (.iload_n 1) 1 7 = true := by decide +kernel
theorem zd94_7 : zD 94 7 .isub 1 8 = true := by decide +kernel
theorem zd94_8 : zD 94 8 .ishl 1 9 = true := by decide +kernel
theorem zd94_9 : zD 94 9 .ior 1 10 = true := by decide +kernel
theorem zd94_10 : zD 94 10 .ireturn 1 11 = true := by decide +kernel
theorem zd95_0 : zD 95 0 (.aload_n 0) 1 1 = true := by decide +kernel
theorem zd95_1 : zD 95 1 (.aload_n 0) 1 2 = true := by decide +kernel
theorem zd95_2 : zDg 95 2 5 7 9 (.array .int) = true := by decide +kernel
theorem zd95_5 : zD 95 5 (.iload_n 1) 1 6 = true := by decide +kernel
theorem zd95_6 : zD 95 6 .iaload 1 7 = true := by decide +kernel
theorem zd95_7 : zDp 95 7 10 7 15 (.int) = true := by decide +kernel
theorem zd95_10 : zDc 95 10 11 (Int32.ofNat 0) = true := by decide +kernel
theorem zd95_11 : zD 95 11 (.istore_n 2) 1 12 = true := by decide +kernel
theorem zd95_12 : zD 95 12 (.iload_n 2) 1 13 = true := by decide +kernel
theorem zd95_13 : zDc 95 13 15 (Int32.ofNat 32) = true := by decide +kernel
theorem zd95_15 : zD 95 15 (.aload_n 0) 1 16 = true := by decide +kernel
theorem zd95_16 : zDg 95 16 19 7 15 (.int) = true := by decide +kernel
theorem zd95_19 : zD 95 19 .imul 1 20 = true := by decide +kernel
theorem zd95_20 : zDm 95 20 .ge 47 23 = true := by decide +kernel
theorem zd95_23 : zD 95 23 (.aload_n 0) 1 24 = true := by decide +kernel
theorem zd95_24 : zDg 95 24 27 7 16 (.array .int) = true := by decide +kernel
theorem zd95_27 : zD 95 27 (.iload_n 2) 1 28 = true := by decide +kernel
theorem zd95_28 : zD 95 28 (.aload_n 0) 1 29 = true := by decide +kernel
theorem zd95_29 : zDg 95 29 32 7 13 (.array .int) = true := by decide +kernel
theorem zd95_32 : zDc 95 32 35 (Int32.ofNat 256) = true := by decide +kernel
theorem zd95_35 : zD 95 35 (.iload_n 1) 1 36 = true := by decide +kernel
theorem zd95_36 : zD 95 36 .imul 1 37 = true := by decide +kernel
theorem zd95_37 : zD 95 37 (.iload_n 2) 1 38 = true := by decide +kernel
theorem zd95_38 : zD 95 38 .iadd 1 39 = true := by decide +kernel
theorem zd95_39 : zD 95 39 .iaload 1 40 = true := by decide +kernel
theorem zd95_40 : zD 95 40 .iastore 1 41 = true := by decide +kernel
theorem zd95_41 : zDi 95 41 44 2 (Int32.ofNat 1) = true := by decide +kernel
theorem zd95_44 : zDj 95 44 12 = true := by decide +kernel
theorem zd95_47 : zD 95 47 .return_ 1 48 = true := by decide +kernel
theorem zd96_0 : zDc 96 0 1 (Int32.ofNat 0) = true := by decide +kernel
theorem zd96_1 : zD 96 1 (.istore_n 1) 1 2 = true := by decide +kernel
theorem zd96_2 : zD 96 2 (.iload_n 1) 1 3 = true := by decide +kernel
theorem zd96_3 : zD 96 3 (.aload_n 0) 1 4 = true := by decide +kernel
theorem zd96_4 : zDg 96 4 7 7 15 (.int) = true := by decide +kernel
theorem zd96_7 : zDm 96 7 .ge 132 10 = true := by decide +kernel
theorem zd96_10 : zD 96 10 (.iload_n 1) 1 11 = true := by decide +kernel
theorem zd96_11 : zDc 96 11 12 (Int32.ofNat 1) = true := by decide +kernel
theorem zd96_12 : zD 96 12 .iadd 1 13 = true := by decide +kernel
theorem zd96_13 : zD 96 13 (.aload_n 0) 1 14 = true := by decide +kernel
theorem zd96_14 : zDg 96 14 17 7 15 (.int) = true := by decide +kernel
theorem zd96_17 : zDm 96 17 .ne 59 20 = true := by decide +kernel
theorem zd96_20 : zDc 96 20 21 (Int32.ofNat 0) = true := by decide +kernel
theorem zd96_21 : zD 96 21 (.istore_n 2) 1 22 = true := by decide +kernel
theorem zd96_22 : zD 96 22 (.iload_n 2) 1 23 = true := by decide +kernel
theorem zd96_23 : zDc 96 23 25 (Int32.ofNat 32) = true := by decide +kernel
theorem zd96_25 : zDm 96 25 .ge 56 28 = true := by decide +kernel
theorem zd96_28 : zD 96 28 (.aload_n 0) 1 29 = true := by decide +kernel
theorem zd96_29 : zDg 96 29 32 7 16 (.array .int) = true := by decide +kernel
theorem zd96_32 : zDc 96 32 34 (Int32.ofNat 16) = true := by decide +kernel
theorem zd96_34 : zD 96 34 (.iload_n 1) 1 35 = true := by decide +kernel
theorem zd96_35 : zD 96 35 .imul 1 36 = true := by decide +kernel
theorem zd96_36 : zD 96 36 (.iload_n 2) 1 37 = true := by decide +kernel
theorem zd96_37 : zD 96 37 .iadd 1 38 = true := by decide +kernel
theorem zd96_38 : zD 96 38 (.aload_n 0) 1 39 = true := by decide +kernel
theorem zd96_39 : zDg 96 39 42 7 16 (.array .int) = true := by decide +kernel
theorem zd96_42 : zDc 96 42 44 (Int32.ofNat 32) = true := by decide +kernel
theorem zd96_44 : zD 96 44 (.iload_n 1) 1 45 = true := by decide +kernel
theorem zd96_45 : zD 96 45 .imul 1 46 = true := by decide +kernel
theorem zd96_46 : zD 96 46 (.iload_n 2) 1 47 = true := by decide +kernel
theorem zd96_47 : zD 96 47 .iadd 1 48 = true := by decide +kernel
theorem zd96_48 : zD 96 48 .iaload 1 49 = true := by decide +kernel
theorem zd96_49 : zD 96 49 .iastore 1 50 = true := by decide +kernel
theorem zd96_50 : zDi 96 50 53 2 (Int32.ofNat 1) = true := by decide +kernel
theorem zd96_53 : zDj 96 53 22 = true := by decide +kernel
theorem zd96_56 : zDj 96 56 126 = true := by decide +kernel
theorem zd96_59 : zD 96 59 (.aload_n 0) 1 60 = true := by decide +kernel
theorem zd96_60 : zDc 96 60 61 (Int32.ofNat 1) = true := by decide +kernel
theorem zd96_61 : zDk 96 61 64 91 0 = true := by decide +kernel
theorem zd96_64 : zD 96 64 (.aload_n 0) 1 65 = true := by decide +kernel
theorem zd96_65 : zD 96 65 (.aload_n 0) 1 66 = true := by decide +kernel
theorem zd96_66 : zDg 96 66 69 7 16 (.array .int) = true := by decide +kernel
theorem zd96_69 : zDc 96 69 71 (Int32.ofNat 32) = true := by decide +kernel
theorem zd96_71 : zD 96 71 (.iload_n 1) 1 72 = true := by decide +kernel
theorem zd96_72 : zD 96 72 .imul 1 73 = true := by decide +kernel
theorem zd96_73 : zDk 96 73 76 97 0 = true := by decide +kernel
theorem zd96_76 : zD 96 76 (.aload_n 0) 1 77 = true := by decide +kernel
theorem zd96_77 : zD 96 77 (.aload_n 0) 1 78 = true := by decide +kernel
theorem zd96_78 : zDg 96 78 81 7 16 (.array .int) = true := by decide +kernel
theorem zd96_81 : zDc 96 81 83 (Int32.ofNat 32) = true := by decide +kernel
theorem zd96_83 : zD 96 83 (.iload_n 1) 1 84 = true := by decide +kernel
theorem zd96_84 : zD 96 84 .imul 1 85 = true := by decide +kernel
theorem zd96_85 : zDc 96 85 87 (Int32.ofNat 32) = true := by decide +kernel
theorem zd96_87 : zD 96 87 .iadd 1 88 = true := by decide +kernel
theorem zd96_88 : zDk 96 88 91 97 0 = true := by decide +kernel
theorem zd96_91 : zD 96 91 (.aload_n 0) 1 92 = true := by decide +kernel
theorem zd96_92 : zDk 96 92 95 92 0 = true := by decide +kernel
theorem zd96_95 : zDc 96 95 96 (Int32.ofNat 0) = true := by decide +kernel
theorem zd96_96 : zD 96 96 (.istore_n 2) 1 97 = true := by decide +kernel
theorem zd96_97 : zD 96 97 (.iload_n 2) 1 98 = true := by decide +kernel
theorem zd96_98 : zDc 96 98 100 (Int32.ofNat 32) = true := by decide +kernel
theorem zd96_100 : zDm 96 100 .ge 126 103 = true := by decide +kernel
theorem zd96_103 : zD 96 103 (.aload_n 0) 1 104 = true := by decide +kernel
theorem zd96_104 : zDg 96 104 107 7 16 (.array .int) = true := by decide +kernel
theorem zd96_107 : zDc 96 107 109 (Int32.ofNat 16) = true := by decide +kernel
theorem zd96_109 : zD 96 109 (.iload_n 1) 1 110 = true := by decide +kernel
theorem zd96_110 : zD 96 110 .imul 1 111 = true := by decide +kernel
theorem zd96_111 : zD 96 111 (.iload_n 2) 1 112 = true := by decide +kernel
theorem zd96_112 : zD 96 112 .iadd 1 113 = true := by decide +kernel
theorem zd96_113 : zD 96 113 (.aload_n 0) 1 114 = true := by decide +kernel
theorem zd96_114 : zDg 96 114 117 7 7 (.array .int) = true := by decide +kernel
theorem zd96_117 : zD 96 117 (.iload_n 2) 1 118 = true := by decide +kernel
theorem zd96_118 : zD 96 118 .iaload 1 119 = true := by decide +kernel
theorem zd96_119 : zD 96 119 .iastore 1 120 = true := by decide +kernel
theorem zd96_120 : zDi 96 120 123 2 (Int32.ofNat 1) = true := by decide +kernel
theorem zd96_123 : zDj 96 123 97 = true := by decide +kernel
theorem zd96_126 : zDi 96 126 129 1 (Int32.ofNat 2) = true := by decide +kernel
theorem zd96_129 : zDj 96 129 2 = true := by decide +kernel
theorem zd96_132 : zD 96 132 (.aload_n 0) 1 133 = true := by decide +kernel
theorem zd96_133 : zD 96 133 (.aload_n 0) 1 134 = true := by decide +kernel
theorem zd96_134 : zDg 96 134 137 7 15 (.int) = true := by decide +kernel
theorem zd96_137 : zDc 96 137 138 (Int32.ofNat 1) = true := by decide +kernel
theorem zd96_138 : zD 96 138 .iadd 1 139 = true := by decide +kernel
theorem zd96_139 : zDc 96 139 140 (Int32.ofNat 2) = true := by decide +kernel
theorem zd96_140 : zD 96 140 .idiv 1 141 = true := by decide +kernel
theorem zd96_141 : zDp 96 141 144 7 15 (.int) = true := by decide +kernel
theorem zd96_144 : zD 96 144 .return_ 1 145 = true := by decide +kernel
theorem zd97_0 : zDc 97 0 1 (Int32.ofNat 0) = true := by decide +kernel
theorem zd97_1 : zD 97 1 (.istore_n 3) 1 2 = true := by decide +kernel
theorem zd97_2 : zD 97 2 (.iload_n 3) 1 3 = true := by decide +kernel
theorem zd97_3 : zDc 97 3 5 (Int32.ofNat 32) = true := by decide +kernel
theorem zd97_5 : zDm 97 5 .ge 23 8 = true := by decide +kernel
theorem zd97_8 : zD 97 8 (.aload_n 0) 1 9 = true := by decide +kernel
theorem zd97_9 : zD 97 9 (.aload_n 1) 1 10 = true := by decide +kernel
theorem zd97_10 : zD 97 10 (.iload_n 2) 1 11 = true := by decide +kernel
theorem zd97_11 : zD 97 11 (.iload_n 3) 1 12 = true := by decide +kernel
theorem zd97_12 : zD 97 12 .iadd 1 13 = true := by decide +kernel
theorem zd97_13 : zD 97 13 .iaload 1 14 = true := by decide +kernel
theorem zd97_14 : zDk 97 14 17 91 0 = true := by decide +kernel
theorem zd97_17 : zDi 97 17 20 3 (Int32.ofNat 1) = true := by decide +kernel
theorem zd97_20 : zDj 97 20 2 = true := by decide +kernel
theorem zd97_23 : zD 97 23 .return_ 1 24 = true := by decide +kernel
theorem zd98_0 : zD 98 0 (.aload_n 0) 1 1 = true := by decide +kernel
theorem zd98_1 : zDc 98 1 2 (Int32.ofNat 0) = true := by decide +kernel
theorem zd98_2 : zDp 98 2 5 7 0 (.int) = true := by decide +kernel
theorem zd98_5 : zD 98 5 (.aload_n 0) 1 6 = true := by decide +kernel
theorem zd98_6 : zDg 98 6 9 7 8 (.int) = true := by decide +kernel
theorem zd98_9 : zD 98 9 .ireturn 1 10 = true := by decide +kernel
theorem zd99_0 : zD 99 0 (.aload_n 0) 1 1 = true := by decide +kernel
theorem zd99_1 : zD 99 1 (.aload_n 0) 1 2 = true := by decide +kernel
theorem zd99_2 : zD 99 2 (.iload_n 1) 1 3 = true := by decide +kernel
theorem zd99_3 : zDk 99 3 6 100 0 = true := by decide +kernel
theorem zd99_6 : zDf 99 6 .eq 23 9 = true := by decide +kernel
theorem zd99_9 : zD 99 9 (.iload_n 2) 1 10 = true := by decide +kernel
theorem zd99_10 : zDf 99 10 .lt 23 13 = true := by decide +kernel
theorem zd99_13 : zD 99 13 (.iload_n 2) 1 14 = true := by decide +kernel
theorem zd99_14 : zDc 99 14 16 (Int32.ofNat 32) = true := by decide +kernel
theorem zd99_16 : zDm 99 16 .ge 23 19 = true := by decide +kernel
theorem zd99_19 : zDc 99 19 20 (Int32.ofNat 0) = true := by decide +kernel
theorem zd99_20 : zDj 99 20 24 = true := by decide +kernel
theorem zd99_23 : zDc 99 23 24 (Int32.ofNat 1) = true := by decide +kernel
theorem zd99_24 : zDp 99 24 27 7 0 (.int) = true := by decide +kernel
theorem zd99_27 : zD 99 27 (.aload_n 0) 1 28 = true := by decide +kernel
theorem zd99_28 : zDg 99 28 31 7 0 (.int) = true := by decide +kernel
theorem zd99_31 : zDf 99 31 .ne 48 34 = true := by decide +kernel
theorem zd99_34 : zD 99 34 (.aload_n 0) 1 35 = true := by decide +kernel
theorem zd99_35 : zDg 99 35 38 7 14 (.array .int) = true := by decide +kernel
theorem zd99_38 : zDc 99 38 40 (Int32.ofNat 32) = true := by decide +kernel
theorem zd99_40 : zD 99 40 (.iload_n 1) 1 41 = true := by decide +kernel
theorem zd99_41 : zD 99 41 .imul 1 42 = true := by decide +kernel
theorem zd99_42 : zD 99 42 (.iload_n 2) 1 43 = true := by decide +kernel
theorem zd99_43 : zD 99 43 .iadd 1 44 = true := by decide +kernel
theorem zd99_44 : zD 99 44 .iaload 1 45 = true := by decide +kernel
theorem zd99_45 : zDj 99 45 49 = true := by decide +kernel
theorem zd99_48 : zDc 99 48 49 (Int32.ofNat 0) = true := by decide +kernel
theorem zd99_49 : zD 99 49 .ireturn 1 50 = true := by decide +kernel
theorem zd100_0 : zD 100 0 (.iload_n 1) 1 1 = true := by decide +kernel
theorem zd100_1 : zDf 100 1 .lt 16 4 = true := by decide +kernel
theorem zd100_4 : zD 100 4 (.iload_n 1) 1 5 = true := by decide +kernel
theorem zd100_5 : zD 100 5 (.aload_n 0) 1 6 = true := by decide +kernel
theorem zd100_6 : zDg 100 6 9 7 8 (.int) = true := by decide +kernel
theorem zd100_9 : zDm 100 9 .ge 16 12 = true := by decide +kernel
theorem zd100_12 : zDc 100 12 13 (Int32.ofNat 1) = true := by decide +kernel
theorem zd100_13 : zDj 100 13 17 = true := by decide +kernel
theorem zd100_16 : zDc 100 16 17 (Int32.ofNat 0) = true := by decide +kernel
theorem zd100_17 : zD 100 17 .ireturn 1 18 = true := by decide +kernel
theorem zd101_0 : zD 101 0 (.aload_n 0) 1 1 = true := by decide +kernel
theorem zd101_1 : zD 101 1 (.aload_n 0) 1 2 = true := by decide +kernel
theorem zd101_2 : zD 101 2 (.iload_n 1) 1 3 = true := by decide +kernel
theorem zd101_3 : zD 101 3 (.iload_n 2) 1 4 = true := by decide +kernel
theorem zd101_4 : zDk 101 4 7 102 0 = true := by decide +kernel
theorem zd101_7 : zDf 101 7 .eq 24 10 = true := by decide +kernel
theorem zd101_10 : zD 101 10 (.iload_n 3) 1 11 = true := by decide +kernel
theorem zd101_11 : zDf 101 11 .lt 24 14 = true := by decide +kernel
theorem zd101_14 : zD 101 14 (.iload_n 3) 1 15 = true := by decide +kernel
theorem zd101_15 : zDc 101 15 17 (Int32.ofNat 32) = true := by decide +kernel
theorem zd101_17 : zDm 101 17 .ge 24 20 = true := by decide +kernel
theorem zd101_20 : zDc 101 20 21 (Int32.ofNat 0) = true := by decide +kernel
theorem zd101_21 : zDj 101 21 25 = true := by decide +kernel
theorem zd101_24 : zDc 101 24 25 (Int32.ofNat 1) = true := by decide +kernel
theorem zd101_25 : zDp 101 25 28 7 0 (.int) = true := by decide +kernel
theorem zd101_28 : zD 101 28 (.aload_n 0) 1 29 = true := by decide +kernel
theorem zd101_29 : zDg 101 29 32 7 0 (.int) = true := by decide +kernel
theorem zd101_32 : zDf 101 32 .ne 54 35 = true := by decide +kernel
theorem zd101_35 : zD 101 35 (.aload_n 0) 1 36 = true := by decide +kernel
theorem zd101_36 : zDg 101 36 39 7 13 (.array .int) = true := by decide +kernel
theorem zd101_39 : zDc 101 39 41 (Int32.ofNat 32) = true := by decide +kernel
theorem zd101_41 : zDc 101 41 43 (Int32.ofNat 8) = true := by decide +kernel
theorem zd101_43 : zD 101 43 (.iload_n 1) 1 44 = true := by decide +kernel
theorem zd101_44 : zD 101 44 .imul 1 45 = true := by decide +kernel
theorem zd101_45 : zD 101 45 (.iload_n 2) 1 46 = true := by decide +kernel
theorem zd101_46 : zD 101 46 .iadd 1 47 = true := by decide +kernel
theorem zd101_47 : zD 101 47 .imul 1 48 = true := by decide +kernel
theorem zd101_48 : zD 101 48 (.iload_n 3) 1 49 = true := by decide +kernel
theorem zd101_49 : zD 101 49 .iadd 1 50 = true := by decide +kernel
theorem zd101_50 : zD 101 50 .iaload 1 51 = true := by decide +kernel
theorem zd101_51 : zDj 101 51 55 = true := by decide +kernel
theorem zd101_54 : zDc 101 54 55 (Int32.ofNat 0) = true := by decide +kernel
theorem zd101_55 : zD 101 55 .ireturn 1 56 = true := by decide +kernel
theorem zd102_0 : zD 102 0 (.aload_n 0) 1 1 = true := by decide +kernel
theorem zd102_1 : zD 102 1 (.iload_n 1) 1 2 = true := by decide +kernel
theorem zd102_2 : zDk 102 2 5 100 0 = true := by decide +kernel
theorem zd102_5 : zDf 102 5 .eq 26 8 = true := by decide +kernel
theorem zd102_8 : zD 102 8 (.iload_n 2) 1 9 = true := by decide +kernel
theorem zd102_9 : zDf 102 9 .lt 26 12 = true := by decide +kernel
theorem zd102_12 : zD 102 12 (.iload_n 2) 1 13 = true := by decide +kernel
theorem zd102_13 : zD 102 13 (.aload_n 0) 1 14 = true := by decide +kernel
theorem zd102_14 : zDg 102 14 17 7 9 (.array .int) = true := by decide +kernel
theorem zd102_17 : zD 102 17 (.iload_n 1) 1 18 = true := by decide +kernel
theorem zd102_18 : zD 102 18 .iaload 1 19 = true := by decide +kernel
theorem zd102_19 : zDm 102 19 .ge 26 22 = true := by decide +kernel
theorem zd102_22 : zDc 102 22 23 (Int32.ofNat 1) = true := by decide +kernel
theorem zd102_23 : zDj 102 23 27 = true := by decide +kernel
theorem zd102_26 : zDc 102 26 27 (Int32.ofNat 0) = true := by decide +kernel
theorem zd102_27 : zD 102 27 .ireturn 1 28 = true := by decide +kernel
theorem zd103_0 : zD 103 0 (.aload_n 0) 1 1 = true := by decide +kernel
theorem zd103_1 : zD 103 1 (.aload_n 0) 1 2 = true := by decide +kernel
theorem zd103_2 : zD 103 2 (.iload_n 1) 1 3 = true := by decide +kernel
theorem zd103_3 : zD 103 3 (.iload_n 2) 1 4 = true := by decide +kernel
theorem zd103_4 : zDk 103 4 7 102 0 = true := by decide +kernel
theorem zd103_7 : zDf 103 7 .eq 18 10 = true := by decide +kernel
theorem zd103_10 : zD 103 10 (.iload_n 3) 1 11 = true := by decide +kernel
theorem zd103_11 : zDf 103 11 .lt 18 14 = true := by decide +kernel
theorem zd103_14 : zDc 103 14 15 (Int32.ofNat 0) = true := by decide +kernel
theorem zd103_15 : zDj 103 15 19 = true := by decide +kernel
theorem zd103_18 : zDc 103 18 19 (Int32.ofNat 1) = true := by decide +kernel
theorem zd103_19 : zDp 103 19 22 7 0 (.int) = true := by decide +kernel
theorem zd103_22 : zD 103 22 (.aload_n 0) 1 23 = true := by decide +kernel
theorem zd103_23 : zDg 103 23 26 7 0 (.int) = true := by decide +kernel
theorem zd103_26 : zDf 103 26 .eq 31 29 = true := by decide +kernel
theorem zd103_29 : zDc 103 29 30 (Int32.ofNat 0) = true := by decide +kernel
theorem zd103_30 : zD 103 30 .ireturn 1 31 = true := by decide +kernel
theorem zd103_31 : zD 103 31 (.aload_n 0) 1 32 = true := by decide +kernel
theorem zd103_32 : zD 103 32 (.iload_n 3) 1 33 = true := by decide +kernel
theorem zd103_33 : zDk 103 33 36 104 0 = true := by decide +kernel
theorem zd103_36 : zD 103 36 (.aload_n 0) 1 37 = true := by decide +kernel
theorem zd103_37 : zD 103 37 (.iload_n 2) 1 38 = true := by decide +kernel
theorem zd103_38 : zD 103 38 (.aload_n 0) 1 39 = true := by decide +kernel
theorem zd103_39 : zDg 103 39 42 7 9 (.array .int) = true := by decide +kernel
theorem zd103_42 : zD 103 42 (.iload_n 1) 1 43 = true := by decide +kernel
theorem zd103_43 : zD 103 43 .iaload 1 44 = true := by decide +kernel
theorem zd103_44 : zDk 103 44 47 105 2 = true := by decide +kernel
theorem zd103_47 : zDk 103 47 50 106 0 = true := by decide +kernel
theorem zd103_50 : zD 103 50 (.aload_n 0) 1 51 = true := by decide +kernel
theorem zd103_51 : zD 103 51 (.iload_n 1) 1 52 = true := by decide +kernel
theorem zd103_52 : zDk 103 52 55 95 0 = true := by decide +kernel
theorem zd103_55 : zD 103 55 (.iload_n 2) 1 56 = true := by decide +kernel
theorem zd103_56 : zD 103 56 (.istore 4) 2 58 = true := by decide +kernel
theorem zd103_58 : zD 103 58 (.aload_n 0) 1 59 = true := by decide +kernel
theorem zd103_59 : zDg 103 59 62 7 15 (.int) = true := by decide +kernel
theorem zd103_62 : zDc 103 62 63 (Int32.ofNat 1) = true := by decide +kernel
theorem zd103_63 : zDm 103 63 .le 143 66 = true := by decide +kernel
theorem zd103_66 : zD 103 66 (.iload 4) 2 68 = true := by decide +kernel
theorem zd103_68 : zDc 103 68 69 (Int32.ofNat 1) = true := by decide +kernel
theorem zd103_69 : zD 103 69 .ixor 1 70 = true := by decide +kernel
theorem zd103_70 : zD 103 70 (.istore 5) 2 72 = true := by decide +kernel
theorem zd103_72 : zD 103 72 (.iload 5) 2 74 = true := by decide +kernel
theorem zd103_74 : zD 103 74 (.aload_n 0) 1 75 = true := by decide +kernel
theorem zd103_75 : zDg 103 75 78 7 15 (.int) = true := by decide +kernel
theorem zd103_78 : zDm 103 78 .ge 130 81 = true := by decide +kernel
theorem zd103_81 : zD 103 81 (.aload_n 0) 1 82 = true := by decide +kernel
theorem zd103_82 : zD 103 82 (.iload 5) 2 84 = true := by decide +kernel
theorem zd103_84 : zD 103 84 (.iload 4) 2 86 = true := by decide +kernel
theorem zd103_86 : zDm 103 86 .ge 93 89 = true := by decide +kernel
theorem zd103_89 : zDc 103 89 90 (Int32.ofNat 0) = true := by decide +kernel
theorem zd103_90 : zDj 103 90 94 = true := by decide +kernel
theorem zd103_93 : zDc 103 93 94 (Int32.ofNat 1) = true := by decide +kernel
theorem zd103_94 : zDk 103 94 97 106 0 = true := by decide +kernel
theorem zd103_97 : zDc 103 97 98 (Int32.ofNat 0) = true := by decide +kernel
theorem zd103_98 : zD 103 98 (.istore 6) 2 100 = true := by decide +kernel
theorem zd103_100 : zD 103 100 (.iload 6) 2 102 = true := by decide +kernel
theorem zd103_102 : zDc 103 102 104 (Int32.ofNat 32) = true := by decide +kernel
theorem zd103_104 : zDm 103 104 .ge 130 107 = true := by decide +kernel
theorem zd103_107 : zD 103 107 (.aload_n 0) 1 108 = true := by decide +kernel
theorem zd103_108 : zD 103 108 (.aload_n 0) 1 109 = true := by decide +kernel
theorem zd103_109 : zDg 103 109 112 7 16 (.array .int) = true := by decide +kernel
theorem zd103_112 : zDc 103 112 114 (Int32.ofNat 32) = true := by decide +kernel
theorem zd103_114 : zD 103 114 (.iload 5) 2 116 = true := by decide +kernel
theorem zd103_116 : zD 103 116 .imul 1 117 = true := by decide +kernel
theorem zd103_117 : zD 103 117 (.iload 6) 2 119 = true := by decide +kernel
theorem zd103_119 : zD 103 119 .iadd 1 120 = true := by decide +kernel
theorem zd103_120 : zD 103 120 .iaload 1 121 = true := by decide +kernel
theorem zd103_121 : zDk 103 121 124 106 0 = true := by decide +kernel
theorem zd103_124 : zDi 103 124 127 6 (Int32.ofNat 1) = true := by decide +kernel
theorem zd103_127 : zDj 103 127 100 = true := by decide +kernel
theorem zd103_130 : zD 103 130 (.aload_n 0) 1 131 = true := by decide +kernel
theorem zd103_131 : zDk 103 131 134 96 0 = true := by decide +kernel
theorem zd103_134 : zD 103 134 (.iload 4) 2 136 = true := by decide +kernel
theorem zd103_136 : zDc 103 136 137 (Int32.ofNat 2) = true := by decide +kernel
theorem zd103_137 : zD 103 137 .idiv 1 138 = true := by decide +kernel
theorem zd103_138 : zD 103 138 (.istore 4) 2 140 = true := by decide +kernel
theorem zd103_140 : zDj 103 140 58 = true := by decide +kernel
theorem zd103_143 : zD 103 143 (.aload_n 0) 1 144 = true := by decide +kernel
theorem zd103_144 : zDg 103 144 147 7 31 (.int) = true := by decide +kernel
theorem zd103_147 : zD 103 147 .ireturn 1 148 = true := by decide +kernel
theorem zd104_0 : zD 104 0 (.aload_n 0) 1 1 = true := by decide +kernel
theorem zd104_1 : zD 104 1 (.iload_n 1) 1 2 = true := by decide +kernel
theorem zd104_2 : zDp 104 2 5 7 29 (.int) = true := by decide +kernel
theorem zd104_5 : zD 104 5 (.aload_n 0) 1 6 = true := by decide +kernel
theorem zd104_6 : zDc 104 6 7 (Int32.ofNat 0) = true := by decide +kernel
theorem zd104_7 : zDp 104 7 10 7 30 (.int) = true := by decide +kernel
theorem zd104_10 : zD 104 10 (.aload_n 0) 1 11 = true := by decide +kernel
theorem zd104_11 : zDc 104 11 12 (-1) = true := by decide +kernel
theorem zd104_12 : zDp 104 12 15 7 31 (.int) = true := by decide +kernel
theorem zd104_15 : zD 104 15 .return_ 1 16 = true := by decide +kernel
theorem zd105_0 : zDc 105 0 1 (Int32.ofNat 0) = true := by decide +kernel
theorem zd105_1 : zD 105 1 (.istore_n 2) 1 2 = true := by decide +kernel
theorem zd105_2 : zD 105 2 (.iload_n 0) 1 3 = true := by decide +kernel
theorem zd105_3 : zD 105 3 (.istore_n 3) 1 4 = true := by decide +kernel
theorem zd105_4 : zD 105 4 (.iload_n 1) 1 5 = true := by decide +kernel
theorem zd105_5 : zD 105 5 (.istore 4) 2 7 = true := by decide +kernel
theorem zd105_7 : zD 105 7 (.iload 4) 2 9 = true := by decide +kernel
theorem zd105_9 : zDc 105 9 10 (Int32.ofNat 1) = true := by decide +kernel
theorem zd105_10 : zDm 105 10 .le 44 13 = true := by decide +kernel
theorem zd105_13 : zD 105 13 (.iload_n 2) 1 14 = true := by decide +kernel
theorem zd105_14 : zD 105 14 (.iload_n 3) 1 15 = true := by decide +kernel
theorem zd105_15 : zDc 105 15 16 (Int32.ofNat 1) = true := by decide +kernel
theorem zd105_16 : zD 105 16 .ixor 1 17 = true := by decide +kernel
theorem zd105_17 : zD 105 17 (.iload 4) 2 19 = true := by decide +kernel
theorem zd105_19 : zDm 105 19 .ge 26 22 = true := by decide +kernel
theorem zd105_22 : zDc 105 22 23 (Int32.ofNat 1) = true := by decide +kernel
theorem zd105_23 : zDj 105 23 27 = true := by decide +kernel
theorem zd105_26 : zDc 105 26 27 (Int32.ofNat 0) = true := by decide +kernel
theorem zd105_27 : zD 105 27 .iadd 1 28 = true := by decide +kernel
theorem zd105_28 : zD 105 28 (.istore_n 2) 1 29 = true := by decide +kernel
theorem zd105_29 : zD 105 29 (.iload_n 3) 1 30 = true := by decide +kernel
theorem zd105_30 : zDc 105 30 31 (Int32.ofNat 2) = true := by decide +kernel
theorem zd105_31 : zD 105 31 .idiv 1 32 = true := by decide +kernel
theorem zd105_32 : zD 105 32 (.istore_n 3) 1 33 = true := by decide +kernel
theorem zd105_33 : zD 105 33 (.iload 4) 2 35 = true := by decide +kernel
theorem zd105_35 : zDc 105 35 36 (Int32.ofNat 1) = true := by decide +kernel
theorem zd105_36 : zD 105 36 .iadd 1 37 = true := by decide +kernel
theorem zd105_37 : zDc 105 37 38 (Int32.ofNat 2) = true := by decide +kernel
theorem zd105_38 : zD 105 38 .idiv 1 39 = true := by decide +kernel
theorem zd105_39 : zD 105 39 (.istore 4) 2 41 = true := by decide +kernel
theorem zd105_41 : zDj 105 41 7 = true := by decide +kernel
theorem zd105_44 : zD 105 44 (.iload_n 2) 1 45 = true := by decide +kernel
theorem zd105_45 : zD 105 45 .ireturn 1 46 = true := by decide +kernel
theorem zd106_0 : zD 106 0 (.aload_n 0) 1 1 = true := by decide +kernel
theorem zd106_1 : zDg 106 1 4 7 30 (.int) = true := by decide +kernel
theorem zd106_4 : zD 106 4 (.aload_n 0) 1 5 = true := by decide +kernel
theorem zd106_5 : zDg 106 5 8 7 29 (.int) = true := by decide +kernel
theorem zd106_8 : zDm 106 8 .ne 16 11 = true := by decide +kernel
theorem zd106_11 : zD 106 11 (.aload_n 0) 1 12 = true := by decide +kernel
theorem zd106_12 : zD 106 12 (.iload_n 1) 1 13 = true := by decide +kernel
theorem zd106_13 : zDp 106 13 16 7 31 (.int) = true := by decide +kernel
theorem zd106_16 : zD 106 16 (.aload_n 0) 1 17 = true := by decide +kernel
theorem zd106_17 : zD 106 17 .dup 1 18 = true := by decide +kernel
theorem zd106_18 : zDg 106 18 21 7 30 (.int) = true := by decide +kernel
theorem zd106_21 : zDc 106 21 22 (Int32.ofNat 1) = true := by decide +kernel
theorem zd106_22 : zD 106 22 .iadd 1 23 = true := by decide +kernel
theorem zd106_23 : zDp 106 23 26 7 30 (.int) = true := by decide +kernel
theorem zd106_26 : zD 106 26 .return_ 1 27 = true := by decide +kernel
theorem zd107_0 : zD 107 0 (.aload_n 0) 1 1 = true := by decide +kernel
theorem zd107_1 : zDc 107 1 2 (Int32.ofNat 0) = true := by decide +kernel
theorem zd107_2 : zDp 107 2 5 7 0 (.int) = true := by decide +kernel
theorem zd107_5 : zD 107 5 (.iload_n 1) 1 6 = true := by decide +kernel
theorem zd107_6 : zDk 107 6 9 87 2 = true := by decide +kernel
theorem zd107_9 : zDf 107 9 .eq 22 12 = true := by decide +kernel
theorem zd107_12 : zD 107 12 (.aload_n 0) 1 13 = true := by decide +kernel
theorem zd107_13 : zDg 107 13 16 7 17 (.int) = true := by decide +kernel
theorem zd107_16 : zDc 107 16 19 (Int32.ofNat 300) = true := by decide +kernel
theorem zd107_19 : zDm 107 19 .ne 24 22 = true := by decide +kernel
theorem zd107_22 : zDc 107 22 23 (Int32.ofNat 0) = true := by decide +kernel
theorem zd107_23 : zD 107 23 .ireturn 1 24 = true := by decide +kernel
theorem zd107_24 : zD 107 24 (.aload_n 0) 1 25 = true := by decide +kernel
theorem zd107_25 : zDg 107 25 28 7 18 (.array .int) = true := by decide +kernel
theorem zd107_28 : zD 107 28 (.aload_n 0) 1 29 = true := by decide +kernel
theorem zd107_29 : zDg 107 29 32 7 17 (.int) = true := by decide +kernel
theorem zd107_32 : zD 107 32 (.iload_n 1) 1 33 = true := by decide +kernel
theorem zd107_33 : zD 107 33 .iastore 1 34 = true := by decide +kernel
theorem zd107_34 : zD 107 34 (.aload_n 0) 1 35 = true := by decide +kernel
theorem zd107_35 : zD 107 35 .dup 1 36 = true := by decide +kernel
theorem zd107_36 : zDg 107 36 39 7 17 (.int) = true := by decide +kernel
theorem zd107_39 : zDc 107 39 40 (Int32.ofNat 1) = true := by decide +kernel
theorem zd107_40 : zD 107 40 .iadd 1 41 = true := by decide +kernel
theorem zd107_41 : zDp 107 41 44 7 17 (.int) = true := by decide +kernel
theorem zd107_44 : zDc 107 44 45 (Int32.ofNat 1) = true := by decide +kernel
theorem zd107_45 : zD 107 45 .ireturn 1 46 = true := by decide +kernel
theorem zd108_0 : zD 108 0 (.aload_n 0) 1 1 = true := by decide +kernel
theorem zd108_1 : zDc 108 1 2 (Int32.ofNat 0) = true := by decide +kernel
theorem zd108_2 : zDp 108 2 5 7 0 (.int) = true := by decide +kernel
theorem zd108_5 : zD 108 5 (.aload_n 0) 1 6 = true := by decide +kernel
theorem zd108_6 : zDc 108 6 7 (Int32.ofNat 0) = true := by decide +kernel
theorem zd108_7 : zDp 108 7 10 7 17 (.int) = true := by decide +kernel
theorem zd108_10 : zD 108 10 .return_ 1 11 = true := by decide +kernel
theorem zd109_0 : zD 109 0 (.aload_n 0) 1 1 = true := by decide +kernel
theorem zd109_1 : zD 109 1 (.iload_n 1) 1 2 = true := by decide +kernel
theorem zd109_2 : zDf 109 2 .lt 17 5 = true := by decide +kernel
theorem zd109_5 : zD 109 5 (.iload_n 1) 1 6 = true := by decide +kernel
theorem zd109_6 : zD 109 6 (.aload_n 0) 1 7 = true := by decide +kernel
theorem zd109_7 : zDg 109 7 10 7 17 (.int) = true := by decide +kernel
theorem zd109_10 : zDm 109 10 .ge 17 13 = true := by decide +kernel
theorem zd109_13 : zDc 109 13 14 (Int32.ofNat 0) = true := by decide +kernel
theorem zd109_14 : zDj 109 14 18 = true := by decide +kernel
theorem zd109_17 : zDc 109 17 18 (Int32.ofNat 1) = true := by decide +kernel
theorem zd109_18 : zDp 109 18 21 7 0 (.int) = true := by decide +kernel
theorem zd109_21 : zD 109 21 (.aload_n 0) 1 22 = true := by decide +kernel
theorem zd109_22 : zDg 109 22 25 7 0 (.int) = true := by decide +kernel
theorem zd109_25 : zDf 109 25 .eq 30 28 = true := by decide +kernel
theorem zd109_28 : zDc 109 28 29 (Int32.ofNat 0) = true := by decide +kernel
theorem zd109_29 : zD 109 29 .ireturn 1 30 = true := by decide +kernel
theorem zd109_30 : zD 109 30 (.aload_n 0) 1 31 = true := by decide +kernel
theorem zd109_31 : zDg 109 31 34 7 18 (.array .int) = true := by decide +kernel
theorem zd109_34 : zD 109 34 (.iload_n 1) 1 35 = true := by decide +kernel
theorem zd109_35 : zD 109 35 (.aload_n 0) 1 36 = true := by decide +kernel
theorem zd109_36 : zDg 109 36 39 7 18 (.array .int) = true := by decide +kernel
theorem zd109_39 : zD 109 39 (.iload_n 1) 1 40 = true := by decide +kernel
theorem zd109_40 : zD 109 40 .iaload 1 41 = true := by decide +kernel
theorem zd109_41 : zD 109 41 (.iload_n 2) 1 42 = true := by decide +kernel
theorem zd109_42 : zDc 109 42 45 (Int32.ofNat 255) = true := by decide +kernel
theorem zd109_45 : zD 109 45 .iand 1 46 = true := by decide +kernel
theorem zd109_46 : zD 109 46 .ixor 1 47 = true := by decide +kernel
theorem zd109_47 : zD 109 47 .iastore 1 48 = true := by decide +kernel
theorem zd109_48 : zD 109 48 (.iload_n 2) 1 49 = true := by decide +kernel
theorem zd109_49 : zDc 109 49 52 (Int32.ofNat 255) = true := by decide +kernel
theorem zd109_52 : zD 109 52 .iand 1 53 = true := by decide +kernel
theorem zd109_53 : zDf 109 53 .eq 60 56 = true := by decide +kernel
theorem zd109_56 : zDc 109 56 57 (Int32.ofNat 1) = true := by decide +kernel
theorem zd109_57 : zDj 109 57 61 = true := by decide +kernel
theorem zd109_60 : zDc 109 60 61 (Int32.ofNat 0) = true := by decide +kernel
theorem zd109_61 : zD 109 61 .ireturn 1 62 = true := by decide +kernel
theorem zd110_0 : zD 110 0 (.aload_n 0) 1 1 = true := by decide +kernel
theorem zd110_1 : zDc 110 1 2 (Int32.ofNat 0) = true := by decide +kernel
theorem zd110_2 : zDp 110 2 5 7 0 (.int) = true := by decide +kernel
theorem zd110_5 : zD 110 5 (.aload_n 0) 1 6 = true := by decide +kernel
theorem zd110_6 : zDk 110 6 9 111 0 = true := by decide +kernel
theorem zd110_9 : zDf 110 9 .eq 16 12 = true := by decide +kernel
theorem zd110_12 : zDc 110 12 13 (Int32.ofNat 1) = true := by decide +kernel
theorem zd110_13 : zDj 110 13 17 = true := by decide +kernel
theorem zd110_16 : zDc 110 16 17 (Int32.ofNat 0) = true := by decide +kernel
theorem zd110_17 : zD 110 17 .ireturn 1 18 = true := by decide +kernel
theorem zd111_0 : zD 111 0 (.aload_n 0) 1 1 = true := by decide +kernel
theorem zd111_1 : zDg 111 1 4 7 17 (.int) = true := by decide +kernel
theorem zd111_4 : zDc 111 4 5 (Int32.ofNat 5) = true := by decide +kernel
theorem zd111_5 : zDm 111 5 .lt 21 8 = true := by decide +kernel
theorem zd111_8 : zD 111 8 (.aload_n 0) 1 9 = true := by decide +kernel
theorem zd111_9 : zD 111 9 (.aload_n 0) 1 10 = true := by decide +kernel
theorem zd111_10 : zDg 111 10 13 7 18 (.array .int) = true := by decide +kernel
theorem zd111_13 : zDc 111 13 14 (Int32.ofNat 0) = true := by decide +kernel
theorem zd111_14 : zD 111 14 .iaload 1 15 = true := by decide +kernel
theorem zd111_15 : zDk 111 15 18 100 0 = true := by decide +kernel
theorem zd111_18 : zDf 111 18 .ne 23 21 = true := by decide +kernel
theorem zd111_21 : zDc 111 21 22 (Int32.ofNat 0) = true := by decide +kernel
theorem zd111_22 : zD 111 22 .ireturn 1 23 = true := by decide +kernel
theorem zd111_23 : zD 111 23 (.aload_n 0) 1 24 = true := by decide +kernel
theorem zd111_24 : zDg 111 24 27 7 18 (.array .int) = true := by decide +kernel
theorem zd111_27 : zDc 111 27 28 (Int32.ofNat 3) = true := by decide +kernel
theorem zd111_28 : zD 111 28 .iaload 1 29 = true := by decide +kernel
theorem zd111_29 : zD 111 29 (.istore_n 1) 1 30 = true := by decide +kernel
theorem zd111_30 : zD 111 30 (.iload_n 1) 1 31 = true := by decide +kernel
theorem zd111_31 : zDc 111 31 33 (Int32.ofNat 64) = true := by decide +kernel
theorem zd111_33 : zDm 111 33 .gt 68 36 = true := by decide +kernel
theorem zd111_36 : zDc 111 36 37 (Int32.ofNat 5) = true := by decide +kernel
theorem zd111_37 : zD 111 37 (.iload_n 1) 1 38 = true := by decide +kernel
theorem zd111_38 : zD 111 38 .iadd 1 39 = true := by decide +kernel
theorem zd111_39 : zD 111 39 (.aload_n 0) 1 40 = true := by decide +kernel
theorem zd111_40 : zDg 111 40 43 7 17 (.int) = true := by decide +kernel
theorem zd111_43 : zDm 111 43 .gt 68 46 = true := by decide +kernel
theorem zd111_46 : zD 111 46 (.aload_n 0) 1 47 = true := by decide +kernel
theorem zd111_47 : zDg 111 47 50 7 17 (.int) = true := by decide +kernel
theorem zd111_50 : zDc 111 50 51 (Int32.ofNat 5) = true := by decide +kernel
theorem zd111_51 : zD 111 51 (.iload_n 1) 1 52 = true := by decide +kernel
theorem zd111_52 : zD 111 52 .iadd 1 53 = true := by decide +kernel
theorem zd111_53 : zDc 111 53 55 (Int32.ofNat 33) = true := by decide +kernel
theorem zd111_55 : zD 111 55 (.aload_n 0) 1 56 = true := by decide +kernel
theorem zd111_56 : zDg 111 56 59 7 18 (.array .int) = true := by decide +kernel
theorem zd111_59 : zDc 111 59 60 (Int32.ofNat 4) = true := by decide +kernel
theorem zd111_60 : zD 111 60 (.iload_n 1) 1 61 = true := by decide +kernel
theorem zd111_61 : zD 111 61 .iadd 1 62 = true := by decide +kernel
theorem zd111_62 : zD 111 62 .iaload 1 63 = true := by decide +kernel
theorem zd111_63 : zD 111 63 .imul 1 64 = true := by decide +kernel
theorem zd111_64 : zD 111 64 .iadd 1 65 = true := by decide +kernel
theorem zd111_65 : zDm 111 65 .eq 70 68 = true := by decide +kernel
theorem zd111_68 : zDc 111 68 69 (Int32.ofNat 0) = true := by decide +kernel
theorem zd111_69 : zD 111 69 .ireturn 1 70 = true := by decide +kernel
theorem zd111_70 : zD 111 70 (.aload_n 0) 1 71 = true := by decide +kernel
theorem zd111_71 : zDc 111 71 72 (Int32.ofNat 0) = true := by decide +kernel
theorem zd111_72 : zDk 111 72 75 91 0 = true := by decide +kernel
theorem zd111_75 : zD 111 75 (.aload_n 0) 1 76 = true := by decide +kernel
theorem zd111_76 : zD 111 76 (.aload_n 0) 1 77 = true := by decide +kernel
theorem zd111_77 : zDg 111 77 80 7 18 (.array .int) = true := by decide +kernel
theorem zd111_80 : zDc 111 80 81 (Int32.ofNat 1) = true := by decide +kernel
theorem zd111_81 : zD 111 81 .iaload 1 82 = true := by decide +kernel
theorem zd111_82 : zDk 111 82 85 91 0 = true := by decide +kernel
theorem zd111_85 : zD 111 85 (.aload_n 0) 1 86 = true := by decide +kernel
theorem zd111_86 : zD 111 86 (.aload_n 0) 1 87 = true := by decide +kernel
theorem zd111_87 : zDg 111 87 90 7 18 (.array .int) = true := by decide +kernel
theorem zd111_90 : zDc 111 90 91 (Int32.ofNat 2) = true := by decide +kernel
theorem zd111_91 : zD 111 91 .iaload 1 92 = true := by decide +kernel
theorem zd111_92 : zDk 111 92 95 91 0 = true := by decide +kernel
theorem zd111_95 : zDc 111 95 96 (Int32.ofNat 0) = true := by decide +kernel
theorem zd111_96 : zD 111 96 (.istore_n 2) 1 97 = true := by decide +kernel
theorem zd111_97 : zD 111 97 (.iload_n 2) 1 98 = true := by decide +kernel
theorem zd111_98 : zD 111 98 (.iload_n 1) 1 99 = true := by decide +kernel
theorem zd111_99 : zDm 111 99 .ge 120 102 = true := by decide +kernel
theorem zd111_102 : zD 111 102 (.aload_n 0) 1 103 = true := by decide +kernel
theorem zd111_103 : zD 111 103 (.aload_n 0) 1 104 = true := by decide +kernel
theorem zd111_104 : zDg 111 104 107 7 18 (.array .int) = true := by decide +kernel
theorem zd111_107 : zDc 111 107 108 (Int32.ofNat 4) = true := by decide +kernel
theorem zd111_108 : zD 111 108 (.iload_n 2) 1 109 = true := by decide +kernel
theorem zd111_109 : zD 111 109 .iadd 1 110 = true := by decide +kernel
theorem zd111_110 : zD 111 110 .iaload 1 111 = true := by decide +kernel
theorem zd111_111 : zDk 111 111 114 91 0 = true := by decide +kernel
theorem zd111_114 : zDi 111 114 117 2 (Int32.ofNat 1) = true := by decide +kernel
theorem zd111_117 : zDj 111 117 97 = true := by decide +kernel
theorem zd111_120 : zD 111 120 (.aload_n 0) 1 121 = true := by decide +kernel
theorem zd111_121 : zDk 111 121 124 92 0 = true := by decide +kernel
theorem zd111_124 : zDc 111 124 125 (Int32.ofNat 0) = true := by decide +kernel
theorem zd111_125 : zD 111 125 (.istore_n 2) 1 126 = true := by decide +kernel
theorem zd111_126 : zD 111 126 (.iload_n 2) 1 127 = true := by decide +kernel
theorem zd111_127 : zDc 111 127 129 (Int32.ofNat 32) = true := by decide +kernel
theorem zd111_129 : zDm 111 129 .ge 150 132 = true := by decide +kernel
theorem zd111_132 : zD 111 132 (.aload_n 0) 1 133 = true := by decide +kernel
theorem zd111_133 : zDg 111 133 136 7 16 (.array .int) = true := by decide +kernel
theorem zd111_136 : zD 111 136 (.iload_n 2) 1 137 = true := by decide +kernel
theorem zd111_137 : zD 111 137 (.aload_n 0) 1 138 = true := by decide +kernel
theorem zd111_138 : zDg 111 138 141 7 7 (.array .int) = true := by decide +kernel
theorem zd111_141 : zD 111 141 (.iload_n 2) 1 142 = true := by decide +kernel
theorem zd111_142 : zD 111 142 .iaload 1 143 = true := by decide +kernel
theorem zd111_143 : zD 111 143 .iastore 1 144 = true := by decide +kernel
theorem zd111_144 : zDi 111 144 147 2 (Int32.ofNat 1) = true := by decide +kernel
theorem zd111_147 : zDj 111 147 126 = true := by decide +kernel
theorem zd111_150 : zDc 111 150 151 (Int32.ofNat 1) = true := by decide +kernel
theorem zd111_151 : zD 111 151 (.istore_n 2) 1 152 = true := by decide +kernel
theorem zd111_152 : zDc 111 152 153 (Int32.ofNat 5) = true := by decide +kernel
theorem zd111_153 : zD 111 153 (.iload_n 1) 1 154 = true := by decide +kernel
theorem zd111_154 : zD 111 154 .iadd 1 155 = true := by decide +kernel
theorem zd111_155 : zD 111 155 (.istore_n 3) 1 156 = true := by decide +kernel
theorem zd111_156 : zD 111 156 (.iload_n 3) 1 157 = true := by decide +kernel
theorem zd111_157 : zD 111 157 (.aload_n 0) 1 158 = true := by decide +kernel
theorem zd111_158 : zDg 111 158 161 7 17 (.int) = true := by decide +kernel
theorem zd111_161 : zDm 111 161 .ge 278 164 = true := by decide +kernel
theorem zd111_164 : zD 111 164 (.iload_n 2) 1 165 = true := by decide +kernel
theorem zd111_165 : zDf 111 165 .eq 278 168 = true := by decide +kernel
theorem zd111_168 : zD 111 168 (.aload_n 0) 1 169 = true := by decide +kernel
theorem zd111_169 : zDg 111 169 172 7 18 (.array .int) = true := by decide +kernel
theorem zd111_172 : zD 111 172 (.iload_n 3) 1 173 = true := by decide +kernel
theorem zd111_173 : zD 111 173 .iaload 1 174 = true := by decide +kernel
theorem zd111_174 : zDc 111 174 175 (Int32.ofNat 2) = true := by decide +kernel
theorem zd111_175 : zDm 111 175 .ge 182 178 = true := by decide +kernel
theorem zd111_178 : zDc 111 178 179 (Int32.ofNat 1) = true := by decide +kernel
theorem zd111_179 : zDj 111 179 183 = true := by decide +kernel
theorem zd111_182 : zDc 111 182 183 (Int32.ofNat 0) = true := by decide +kernel
theorem zd111_183 : zD 111 183 (.istore_n 2) 1 184 = true := by decide +kernel
theorem zd111_184 : zD 111 184 (.aload_n 0) 1 185 = true := by decide +kernel
theorem zd111_185 : zDc 111 185 186 (Int32.ofNat 1) = true := by decide +kernel
theorem zd111_186 : zDk 111 186 189 91 0 = true := by decide +kernel
theorem zd111_189 : zD 111 189 (.aload_n 0) 1 190 = true := by decide +kernel
theorem zd111_190 : zDg 111 190 193 7 18 (.array .int) = true := by decide +kernel
theorem zd111_193 : zD 111 193 (.iload_n 3) 1 194 = true := by decide +kernel
theorem zd111_194 : zD 111 194 .iaload 1 195 = true := by decide +kernel
theorem zd111_195 : zDf 111 195 .ne 209 198 = true := by decide +kernel
theorem zd111_198 : zD 111 198 (.aload_n 0) 1 199 = true := by decide +kernel
theorem zd111_199 : zD 111 199 (.aload_n 0) 1 200 = true := by decide +kernel
theorem zd111_200 : zDg 111 200 203 7 18 (.array .int) = true := by decide +kernel
theorem zd111_203 : zD 111 203 (.iload_n 3) 1 204 = true := by decide +kernel
theorem zd111_204 : zDc 111 204 205 (Int32.ofNat 1) = true := by decide +kernel
theorem zd111_205 : zD 111 205 .iadd 1 206 = true := by decide +kernel
theorem zd111_206 : zDk 111 206 209 97 0 = true := by decide +kernel
theorem zd111_209 : zD 111 209 (.aload_n 0) 1 210 = true := by decide +kernel
theorem zd111_210 : zD 111 210 (.aload_n 0) 1 211 = true := by decide +kernel
theorem zd111_211 : zDg 111 211 214 7 16 (.array .int) = true := by decide +kernel
theorem zd111_214 : zDc 111 214 215 (Int32.ofNat 0) = true := by decide +kernel
theorem zd111_215 : zDk 111 215 218 97 0 = true := by decide +kernel
theorem zd111_218 : zD 111 218 (.aload_n 0) 1 219 = true := by decide +kernel
theorem zd111_219 : zDg 111 219 222 7 18 (.array .int) = true := by decide +kernel
theorem zd111_222 : zD 111 222 (.iload_n 3) 1 223 = true := by decide +kernel
theorem zd111_223 : zD 111 223 .iaload 1 224 = true := by decide +kernel
theorem zd111_224 : zDf 111 224 .eq 238 227 = true := by decide +kernel
theorem zd111_227 : zD 111 227 (.aload_n 0) 1 228 = true := by decide +kernel
theorem zd111_228 : zD 111 228 (.aload_n 0) 1 229 = true := by decide +kernel
theorem zd111_229 : zDg 111 229 232 7 18 (.array .int) = true := by decide +kernel
theorem zd111_232 : zD 111 232 (.iload_n 3) 1 233 = true := by decide +kernel
theorem zd111_233 : zDc 111 233 234 (Int32.ofNat 1) = true := by decide +kernel
theorem zd111_234 : zD 111 234 .iadd 1 235 = true := by decide +kernel
theorem zd111_235 : zDk 111 235 238 97 0 = true := by decide +kernel
theorem zd111_238 : zD 111 238 (.aload_n 0) 1 239 = true := by decide +kernel
theorem zd111_239 : zDk 111 239 242 92 0 = true := by decide +kernel
theorem zd111_242 : zDc 111 242 243 (Int32.ofNat 0) = true := by decide +kernel
theorem zd111_243 : zD 111 243 (.istore 4) 2 245 = true := by decide +kernel
theorem zd111_245 : zD 111 245 (.iload 4) 2 247 = true := by decide +kernel
theorem zd111_247 : zDc 111 247 249 (Int32.ofNat 32) = true := by decide +kernel
theorem zd111_249 : zDm 111 249 .ge 272 252 = true := by decide +kernel
theorem zd111_252 : zD 111 252 (.aload_n 0) 1 253 = true := by decide +kernel
theorem zd111_253 : zDg 111 253 256 7 16 (.array .int) = true := by decide +kernel
theorem zd111_256 : zD 111 256 (.iload 4) 2 258 = true := by decide +kernel
theorem zd111_258 : zD 111 258 (.aload_n 0) 1 259 = true := by decide +kernel
theorem zd111_259 : zDg 111 259 262 7 7 (.array .int) = true := by decide +kernel
theorem zd111_262 : zD 111 262 (.iload 4) 2 264 = true := by decide +kernel
theorem zd111_264 : zD 111 264 .iaload 1 265 = true := by decide +kernel
theorem zd111_265 : zD 111 265 .iastore 1 266 = true := by decide +kernel
theorem zd111_266 : zDi 111 266 269 4 (Int32.ofNat 1) = true := by decide +kernel
theorem zd111_269 : zDj 111 269 245 = true := by decide +kernel
theorem zd111_272 : zDi 111 272 275 3 (Int32.ofNat 33) = true := by decide +kernel
theorem zd111_275 : zDj 111 275 156 = true := by decide +kernel
theorem zd111_278 : zDc 111 278 279 (Int32.ofNat 0) = true := by decide +kernel
theorem zd111_279 : zD 111 279 (.istore_n 3) 1 280 = true := by decide +kernel
theorem zd111_280 : zD 111 280 (.iload_n 3) 1 281 = true := by decide +kernel
theorem zd111_281 : zDc 111 281 283 (Int32.ofNat 32) = true := by decide +kernel
theorem zd111_283 : zDm 111 283 .ge 327 286 = true := by decide +kernel
theorem zd111_286 : zD 111 286 (.iload_n 2) 1 287 = true := by decide +kernel
theorem zd111_287 : zDf 111 287 .eq 319 290 = true := by decide +kernel
theorem zd111_290 : zD 111 290 (.aload_n 0) 1 291 = true := by decide +kernel
theorem zd111_291 : zDg 111 291 294 7 16 (.array .int) = true := by decide +kernel
theorem zd111_294 : zD 111 294 (.iload_n 3) 1 295 = true := by decide +kernel
theorem zd111_295 : zD 111 295 .iaload 1 296 = true := by decide +kernel
theorem zd111_296 : zD 111 296 (.aload_n 0) 1 297 = true := by decide +kernel
theorem zd111_297 : zDg 111 297 300 7 14 (.array .int) = true := by decide +kernel
theorem zd111_300 : zDc 111 300 302 (Int32.ofNat 32) = true := by decide +kernel
theorem zd111_302 : zD 111 302 (.aload_n 0) 1 303 = true := by decide +kernel
theorem zd111_303 : zDg 111 303 306 7 18 (.array .int) = true := by decide +kernel
theorem zd111_306 : zDc 111 306 307 (Int32.ofNat 0) = true := by decide +kernel
theorem zd111_307 : zD 111 307 .iaload 1 308 = true := by decide +kernel
theorem zd111_308 : zD 111 308 .imul 1 309 = true := by decide +kernel
theorem zd111_309 : zD 111 309 (.iload_n 3) 1 310 = true := by decide +kernel
theorem zd111_310 : zD 111 310 .iadd 1 311 = true := by decide +kernel
theorem zd111_311 : zD 111 311 .iaload 1 312 = true := by decide +kernel
theorem zd111_312 : zDm 111 312 .ne 319 315 = true := by decide +kernel
theorem zd111_315 : zDc 111 315 316 (Int32.ofNat 1) = true := by decide +kernel
theorem zd111_316 : zDj 111 316 320 = true := by decide +kernel
theorem zd111_319 : zDc 111 319 320 (Int32.ofNat 0) = true := by decide +kernel
theorem zd111_320 : zD 111 320 (.istore_n 2) 1 321 = true := by decide +kernel
theorem zd111_321 : zDi 111 321 324 3 (Int32.ofNat 1) = true := by decide +kernel
theorem zd111_324 : zDj 111 324 280 = true := by decide +kernel
theorem zd111_327 : zD 111 327 (.iload_n 2) 1 328 = true := by decide +kernel
theorem zd111_328 : zD 111 328 .ireturn 1 329 = true := by decide +kernel
theorem zd112_0 : zD 112 0 (.aload_n 0) 1 1 = true := by decide +kernel
theorem zd112_1 : zD 112 1 (.aload_n 0) 1 2 = true := by decide +kernel
theorem zd112_2 : zD 112 2 (.iload_n 1) 1 3 = true := by decide +kernel
theorem zd112_3 : zDk 112 3 6 100 0 = true := by decide +kernel
theorem zd112_6 : zDf 112 6 .ne 13 9 = true := by decide +kernel
theorem zd112_9 : zDc 112 9 10 (Int32.ofNat 1) = true := by decide +kernel
theorem zd112_10 : zDj 112 10 37 = true := by decide +kernel
theorem zd112_13 : zD 112 13 (.iload_n 2) 1 14 = true := by decide +kernel
theorem zd112_14 : zDf 112 14 .lt 36 17 = true := by decide +kernel
theorem zd112_17 : zD 112 17 (.iload_n 2) 1 18 = true := by decide +kernel
theorem zd112_18 : zDc 112 18 20 (Int32.ofNat 16) = true := by decide +kernel
theorem zd112_20 : zDm 112 20 .ge 36 23 = true := by decide +kernel
theorem zd112_23 : zD 112 23 (.iload_n 3) 1 24 = true := by decide +kernel
theorem zd112_24 : zDf 112 24 .lt 36 27 = true := by decide +kernel
theorem zd112_27 : zD 112 27 (.iload_n 3) 1 28 = true := by decide +kernel
theorem zd112_28 : zDc 112 28 29 (Int32.ofNat 4) = true := by decide +kernel
theorem zd112_29 : zDm 112 29 .ge 36 32 = true := by decide +kernel
theorem zd112_32 : zDc 112 32 33 (Int32.ofNat 0) = true := by decide +kernel
theorem zd112_33 : zDj 112 33 37 = true := by decide +kernel
theorem zd112_36 : zDc 112 36 37 (Int32.ofNat 2) = true := by decide +kernel
theorem zd112_37 : zDp 112 37 40 7 0 (.int) = true := by decide +kernel
theorem zd112_40 : zD 112 40 (.aload_n 0) 1 41 = true := by decide +kernel
theorem zd112_41 : zDg 112 41 44 7 0 (.int) = true := by decide +kernel
theorem zd112_44 : zDf 112 44 .eq 49 47 = true := by decide +kernel
theorem zd112_47 : zDc 112 47 48 (Int32.ofNat 0) = true := by decide +kernel
theorem zd112_48 : zD 112 48 .ireturn 1 49 = true := by decide +kernel
theorem zd112_49 : zD 112 49 (.aload_n 0) 1 50 = true := by decide +kernel
theorem zd112_50 : zDg 112 50 53 7 19 (.array .int) = true := by decide +kernel
theorem zd112_53 : zDc 112 53 55 (Int32.ofNat 16) = true := by decide +kernel
theorem zd112_55 : zD 112 55 (.iload_n 1) 1 56 = true := by decide +kernel
theorem zd112_56 : zD 112 56 .imul 1 57 = true := by decide +kernel
theorem zd112_57 : zD 112 57 (.iload_n 2) 1 58 = true := by decide +kernel
theorem zd112_58 : zD 112 58 .iadd 1 59 = true := by decide +kernel
theorem zd112_59 : zDc 112 59 60 (Int32.ofNat 1) = true := by decide +kernel
theorem zd112_60 : zD 112 60 (.iload_n 3) 1 61 = true := by decide +kernel
theorem zd112_61 : zD 112 61 .iadd 1 62 = true := by decide +kernel
theorem zd112_62 : zD 112 62 .iastore 1 63 = true := by decide +kernel
theorem zd112_63 : zD 112 63 (.aload_n 0) 1 64 = true := by decide +kernel
theorem zd112_64 : zD 112 64 (.iload_n 1) 1 65 = true := by decide +kernel
theorem zd112_65 : zDc 112 65 66 (Int32.ofNat 0) = true := by decide +kernel
theorem zd112_66 : zD 112 66 (.iload_n 2) 1 67 = true := by decide +kernel
theorem zd112_67 : zD 112 67 (.iload_n 3) 1 68 = true := by decide +kernel
theorem zd112_68 : zDk 112 68 71 113 0 = true := by decide +kernel
theorem zd112_71 : zD 112 71 (.aload_n 0) 1 72 = true := by decide +kernel
theorem zd112_72 : zD 112 72 (.iload_n 1) 1 73 = true := by decide +kernel
theorem zd112_73 : zDk 112 73 76 114 0 = true := by decide +kernel
theorem zd112_76 : zDf 112 76 .eq 83 79 = true := by decide +kernel
theorem zd112_79 : zDc 112 79 80 (Int32.ofNat 1) = true := by decide +kernel
theorem zd112_80 : zDj 112 80 84 = true := by decide +kernel
theorem zd112_83 : zDc 112 83 84 (Int32.ofNat 0) = true := by decide +kernel
theorem zd112_84 : zD 112 84 .ireturn 1 85 = true := by decide +kernel
theorem zd113_0 : zD 113 0 (.aload_n 0) 1 1 = true := by decide +kernel
theorem zd113_1 : zDg 113 1 4 7 24 (.int) = true := by decide +kernel
theorem zd113_4 : zDc 113 4 6 (Int32.ofNat 100) = true := by decide +kernel
theorem zd113_6 : zDm 113 6 .ne 10 9 = true := by decide +kernel
theorem zd113_9 : zD 113 9 .return_ 1 10 = true := by decide +kernel
theorem zd113_10 : zD 113 10 (.aload_n 0) 1 11 = true := by decide +kernel
theorem zd113_11 : zDg 113 11 14 7 25 (.array .int) = true := by decide +kernel
theorem zd113_14 : zD 113 14 (.aload_n 0) 1 15 = true := by decide +kernel
theorem zd113_15 : zDg 113 15 18 7 24 (.int) = true := by decide +kernel
theorem zd113_18 : zD 113 18 (.iload_n 1) 1 19 = true := by decide +kernel
theorem zd113_19 : zD 113 19 .iastore 1 20 = true := by decide +kernel
theorem zd113_20 : zD 113 20 (.aload_n 0) 1 21 = true := by decide +kernel
theorem zd113_21 : zDg 113 21 24 7 26 (.array .int) = true := by decide +kernel
theorem zd113_24 : zD 113 24 (.aload_n 0) 1 25 = true := by decide +kernel
theorem zd113_25 : zDg 113 25 28 7 24 (.int) = true := by decide +kernel
theorem zd113_28 : zD 113 28 (.iload_n 2) 1 29 = true := by decide +kernel
theorem zd113_29 : zD 113 29 .iastore 1 30 = true := by decide +kernel
theorem zd113_30 : zD 113 30 (.aload_n 0) 1 31 = true := by decide +kernel
theorem zd113_31 : zDg 113 31 34 7 27 (.array .int) = true := by decide +kernel
theorem zd113_34 : zD 113 34 (.aload_n 0) 1 35 = true := by decide +kernel
theorem zd113_35 : zDg 113 35 38 7 24 (.int) = true := by decide +kernel
theorem zd113_38 : zD 113 38 (.iload_n 3) 1 39 = true := by decide +kernel
theorem zd113_39 : zD 113 39 .iastore 1 40 = true := by decide +kernel
theorem zd113_40 : zD 113 40 (.aload_n 0) 1 41 = true := by decide +kernel
theorem zd113_41 : zDg 113 41 44 7 28 (.array .int) = true := by decide +kernel
theorem zd113_44 : zD 113 44 (.aload_n 0) 1 45 = true := by decide +kernel
theorem zd113_45 : zDg 113 45 48 7 24 (.int) = true := by decide +kernel
theorem zd113_48 : zD 113 48 (.iload 4) 2 50 = true := by decide +kernel
theorem zd113_50 : zD 113 50 .iastore 1 51 = true := by decide +kernel
theorem zd113_51 : zD 113 51 (.aload_n 0) 1 52 = true := by decide +kernel
theorem zd113_52 : zD 113 52 .dup 1 53 = true := by decide +kernel
theorem zd113_53 : zDg 113 53 56 7 24 (.int) = true := by decide +kernel
theorem zd113_56 : zDc 113 56 57 (Int32.ofNat 1) = true := by decide +kernel
theorem zd113_57 : zD 113 57 .iadd 1 58 = true := by decide +kernel
theorem zd113_58 : zDp 113 58 61 7 24 (.int) = true := by decide +kernel
theorem zd113_61 : zD 113 61 .return_ 1 62 = true := by decide +kernel
theorem zd114_0 : zDc 114 0 1 (Int32.ofNat 0) = true := by decide +kernel
theorem zd114_1 : zD 114 1 (.istore_n 2) 1 2 = true := by decide +kernel
theorem zd114_2 : zDc 114 2 3 (Int32.ofNat 0) = true := by decide +kernel
theorem zd114_3 : zD 114 3 (.istore_n 3) 1 4 = true := by decide +kernel
theorem zd114_4 : zD 114 4 (.iload_n 3) 1 5 = true := by decide +kernel
theorem zd114_5 : zDc 114 5 7 (Int32.ofNat 16) = true := by decide +kernel
theorem zd114_7 : zDm 114 7 .ge 50 10 = true := by decide +kernel
theorem zd114_10 : zD 114 10 (.aload_n 0) 1 11 = true := by decide +kernel
theorem zd114_11 : zDg 114 11 14 7 19 (.array .int) = true := by decide +kernel
theorem zd114_14 : zDc 114 14 16 (Int32.ofNat 16) = true := by decide +kernel
theorem zd114_16 : zD 114 16 (.iload_n 1) 1 17 = true := by decide +kernel
theorem zd114_17 : zD 114 17 .imul 1 18 = true := by decide +kernel
theorem zd114_18 : zD 114 18 (.iload_n 3) 1 19 = true := by decide +kernel
theorem zd114_19 : zD 114 19 .iadd 1 20 = true := by decide +kernel
theorem zd114_20 : zD 114 20 .iaload 1 21 = true := by decide +kernel
theorem zd114_21 : zDf 114 21 .le 42 24 = true := by decide +kernel
theorem zd114_24 : zD 114 24 (.iload_n 2) 1 25 = true := by decide +kernel
theorem zd114_25 : zDc 114 25 26 (Int32.ofNat 1) = true := by decide +kernel
theorem zd114_26 : zD 114 26 (.aload_n 0) 1 27 = true := by decide +kernel
theorem zd114_27 : zDg 114 27 30 7 19 (.array .int) = true := by decide +kernel
theorem zd114_30 : zDc 114 30 32 (Int32.ofNat 16) = true := by decide +kernel
theorem zd114_32 : zD 114 32 (.iload_n 1) 1 33 = true := by decide +kernel
theorem zd114_33 : zD 114 33 .imul 1 34 = true := by decide +kernel
theorem zd114_34 : zD 114 34 (.iload_n 3) 1 35 = true := by decide +kernel
theorem zd114_35 : zD 114 35 .iadd 1 36 = true := by decide +kernel
theorem zd114_36 : zD 114 36 .iaload 1 37 = true := by decide +kernel
theorem zd114_37 : zD 114 37 .ishl 1 38 = true := by decide +kernel
theorem zd114_38 : zD 114 38 .ior 1 39 = true := by decide +kernel
theorem zd114_39 : zDj 114 39 43 = true := by decide +kernel
theorem zd114_42 : zD 114 42 (.iload_n 2) 1 43 = true := by decide +kernel
theorem zd114_43 : zD 114 43 (.istore_n 2) 1 44 = true := by decide +kernel
theorem zd114_44 : zDi 114 44 47 3 (Int32.ofNat 1) = true := by decide +kernel
theorem zd114_47 : zDj 114 47 4 = true := by decide +kernel
theorem zd114_50 : zD 114 50 (.iload_n 2) 1 51 = true := by decide +kernel
theorem zd114_51 : zD 114 51 (.iload_n 2) 1 52 = true := by decide +kernel
theorem zd114_52 : zDc 114 52 53 (Int32.ofNat 1) = true := by decide +kernel
theorem zd114_53 : zD 114 53 .isub 1 54 = true := by decide +kernel
theorem zd114_54 : zD 114 54 .iand 1 55 = true := by decide +kernel
theorem zd114_55 : zDf 114 55 .eq 62 58 = true := by decide +kernel
theorem zd114_58 : zDc 114 58 59 (Int32.ofNat 1) = true := by decide +kernel
theorem zd114_59 : zDj 114 59 63 = true := by decide +kernel
theorem zd114_62 : zDc 114 62 63 (Int32.ofNat 0) = true := by decide +kernel
theorem zd114_63 : zD 114 63 .ireturn 1 64 = true := by decide +kernel
theorem zd115_0 : zD 115 0 (.aload_n 0) 1 1 = true := by decide +kernel
theorem zd115_1 : zD 115 1 (.aload_n 0) 1 2 = true := by decide +kernel
theorem zd115_2 : zD 115 2 (.iload_n 1) 1 3 = true := by decide +kernel
theorem zd115_3 : zDk 115 3 6 100 0 = true := by decide +kernel
theorem zd115_6 : zDf 115 6 .eq 13 9 = true := by decide +kernel
theorem zd115_9 : zDc 115 9 10 (Int32.ofNat 0) = true := by decide +kernel
theorem zd115_10 : zDj 115 10 14 = true := by decide +kernel
theorem zd115_13 : zDc 115 13 14 (Int32.ofNat 1) = true := by decide +kernel
theorem zd115_14 : zDp 115 14 17 7 0 (.int) = true := by decide +kernel
theorem zd115_17 : zD 115 17 (.aload_n 0) 1 18 = true := by decide +kernel
theorem zd115_18 : zDg 115 18 21 7 0 (.int) = true := by decide +kernel
theorem zd115_21 : zDf 115 21 .eq 26 24 = true := by decide +kernel
theorem zd115_24 : zDc 115 24 25 (Int32.ofNat 0) = true := by decide +kernel
theorem zd115_25 : zD 115 25 .ireturn 1 26 = true := by decide +kernel
theorem zd115_26 : zD 115 26 (.aload_n 0) 1 27 = true := by decide +kernel
theorem zd115_27 : zDg 115 27 30 7 20 (.array .boolean) = true := by decide +kernel
theorem zd115_30 : zD 115 30 (.iload_n 1) 1 31 = true := by decide +kernel
theorem zd115_31 : zD 115 31 .baload 1 32 = true := by decide +kernel
theorem zd115_32 : zDf 115 32 .eq 37 35 = true := by decide +kernel
theorem zd115_35 : zDc 115 35 36 (-1) = true := by decide +kernel
theorem zd115_36 : zD 115 36 .ireturn 1 37 = true := by decide +kernel
theorem zd115_37 : zD 115 37 (.aload_n 0) 1 38 = true := by decide +kernel
theorem zd115_38 : zDg 115 38 41 7 20 (.array .boolean) = true := by decide +kernel
theorem zd115_41 : zD 115 41 (.iload_n 1) 1 42 = true := by decide +kernel
theorem zd115_42 : zDc 115 42 43 (Int32.ofNat 1) = true := by decide +kernel
theorem zd115_43 : zD 115 43 .bastore 1 44 = true := by decide +kernel
theorem zd115_44 : zD 115 44 (.aload_n 0) 1 45 = true := by decide +kernel
theorem zd115_45 : zD 115 45 .dup 1 46 = true := by decide +kernel
theorem zd115_46 : zDg 115 46 49 7 21 (.int) = true := by decide +kernel
theorem zd115_49 : zDc 115 49 50 (Int32.ofNat 1) = true := by decide +kernel
theorem zd115_50 : zD 115 50 .iadd 1 51 = true := by decide +kernel
theorem zd115_51 : zDp 115 51 54 7 21 (.int) = true := by decide +kernel
theorem zd115_54 : zD 115 54 (.aload_n 0) 1 55 = true := by decide +kernel
theorem zd115_55 : zD 115 55 (.iload_n 1) 1 56 = true := by decide +kernel
theorem zd115_56 : zDc 115 56 57 (Int32.ofNat 2) = true := by decide +kernel
theorem zd115_57 : zDc 115 57 58 (-1) = true := by decide +kernel
theorem zd115_58 : zDc 115 58 59 (-1) = true := by decide +kernel
theorem zd115_59 : zDk 115 59 62 113 0 = true := by decide +kernel
theorem zd115_62 : zD 115 62 (.aload_n 0) 1 63 = true := by decide +kernel
theorem zd115_63 : zDg 115 63 66 7 21 (.int) = true := by decide +kernel
theorem zd115_66 : zD 115 66 .ireturn 1 67 = true := by decide +kernel
theorem zd116_0 : zD 116 0 (.aload_n 0) 1 1 = true := by decide +kernel
theorem zd116_1 : zD 116 1 (.aload_n 0) 1 2 = true := by decide +kernel
theorem zd116_2 : zD 116 2 (.iload_n 1) 1 3 = true := by decide +kernel
theorem zd116_3 : zDk 116 3 6 100 0 = true := by decide +kernel
theorem zd116_6 : zDf 116 6 .eq 13 9 = true := by decide +kernel
theorem zd116_9 : zDc 116 9 10 (Int32.ofNat 0) = true := by decide +kernel
theorem zd116_10 : zDj 116 10 14 = true := by decide +kernel
theorem zd116_13 : zDc 116 13 14 (Int32.ofNat 1) = true := by decide +kernel
theorem zd116_14 : zDp 116 14 17 7 0 (.int) = true := by decide +kernel
theorem zd116_17 : zD 116 17 (.aload_n 0) 1 18 = true := by decide +kernel
theorem zd116_18 : zDg 116 18 21 7 0 (.int) = true := by decide +kernel
theorem zd116_21 : zDf 116 21 .eq 26 24 = true := by decide +kernel
theorem zd116_24 : zDc 116 24 25 (Int32.ofNat 0) = true := by decide +kernel
theorem zd116_25 : zD 116 25 .ireturn 1 26 = true := by decide +kernel
theorem zd116_26 : zD 116 26 (.aload_n 0) 1 27 = true := by decide +kernel
theorem zd116_27 : zDg 116 27 30 7 20 (.array .boolean) = true := by decide +kernel
theorem zd116_30 : zD 116 30 (.iload_n 1) 1 31 = true := by decide +kernel
theorem zd116_31 : zD 116 31 .baload 1 32 = true := by decide +kernel
theorem zd116_32 : zDf 116 32 .ne 52 35 = true := by decide +kernel
theorem zd116_35 : zD 116 35 (.aload_n 0) 1 36 = true := by decide +kernel
theorem zd116_36 : zD 116 36 (.iload_n 1) 1 37 = true := by decide +kernel
theorem zd116_37 : zDk 116 37 40 114 0 = true := by decide +kernel
theorem zd116_40 : zDf 116 40 .eq 52 43 = true := by decide +kernel
theorem zd116_43 : zD 116 43 (.aload_n 0) 1 44 = true := by decide +kernel
theorem zd116_44 : zDg 116 44 47 7 22 (.int) = true := by decide +kernel
theorem zd116_47 : zDc 116 47 49 (Int32.ofNat 60) = true := by decide +kernel
theorem zd116_49 : zDm 116 49 .ne 54 52 = true := by decide +kernel
theorem zd116_52 : zDc 116 52 53 (-1) = true := by decide +kernel
theorem zd116_53 : zD 116 53 .ireturn 1 54 = true := by decide +kernel
theorem zd116_54 : zD 116 54 (.aload_n 0) 1 55 = true := by decide +kernel
theorem zd116_55 : zDg 116 55 58 7 23 (.array .int) = true := by decide +kernel
theorem zd116_58 : zD 116 58 (.aload_n 0) 1 59 = true := by decide +kernel
theorem zd116_59 : zDg 116 59 62 7 22 (.int) = true := by decide +kernel
theorem zd116_62 : zD 116 62 (.iload_n 1) 1 63 = true := by decide +kernel
theorem zd116_63 : zD 116 63 .iastore 1 64 = true := by decide +kernel
theorem zd116_64 : zD 116 64 (.aload_n 0) 1 65 = true := by decide +kernel
theorem zd116_65 : zD 116 65 (.iload_n 1) 1 66 = true := by decide +kernel
theorem zd116_66 : zDc 116 66 67 (Int32.ofNat 1) = true := by decide +kernel
theorem zd116_67 : zD 116 67 (.aload_n 0) 1 68 = true := by decide +kernel
theorem zd116_68 : zDg 116 68 71 7 22 (.int) = true := by decide +kernel
theorem zd116_71 : zDc 116 71 72 (-1) = true := by decide +kernel
theorem zd116_72 : zDk 116 72 75 113 0 = true := by decide +kernel
theorem zd116_75 : zD 116 75 (.aload_n 0) 1 76 = true := by decide +kernel
theorem zd116_76 : zD 116 76 .dup 1 77 = true := by decide +kernel
theorem zd116_77 : zDg 116 77 80 7 22 (.int) = true := by decide +kernel
theorem zd116_80 : zDc 116 80 81 (Int32.ofNat 1) = true := by decide +kernel
theorem zd116_81 : zD 116 81 .iadd 1 82 = true := by decide +kernel
theorem zd116_82 : zDp 116 82 85 7 22 (.int) = true := by decide +kernel
theorem zd116_85 : zD 116 85 (.aload_n 0) 1 86 = true := by decide +kernel
theorem zd116_86 : zDg 116 86 89 7 22 (.int) = true := by decide +kernel
theorem zd116_89 : zDc 116 89 90 (Int32.ofNat 1) = true := by decide +kernel
theorem zd116_90 : zD 116 90 .isub 1 91 = true := by decide +kernel
theorem zd116_91 : zD 116 91 .ireturn 1 92 = true := by decide +kernel
theorem zd117_0 : zD 117 0 (.aload_n 0) 1 1 = true := by decide +kernel
theorem zd117_1 : zD 117 1 (.iload_n 1) 1 2 = true := by decide +kernel
theorem zd117_2 : zDf 117 2 .lt 26 5 = true := by decide +kernel
theorem zd117_5 : zD 117 5 (.iload_n 1) 1 6 = true := by decide +kernel
theorem zd117_6 : zD 117 6 (.aload_n 0) 1 7 = true := by decide +kernel
theorem zd117_7 : zDg 117 7 10 7 22 (.int) = true := by decide +kernel
theorem zd117_10 : zDm 117 10 .ge 26 13 = true := by decide +kernel
theorem zd117_13 : zD 117 13 (.iload_n 3) 1 14 = true := by decide +kernel
theorem zd117_14 : zDf 117 14 .lt 26 17 = true := by decide +kernel
theorem zd117_17 : zD 117 17 (.iload_n 3) 1 18 = true := by decide +kernel
theorem zd117_18 : zDc 117 18 19 (Int32.ofNat 3) = true := by decide +kernel
theorem zd117_19 : zDm 117 19 .ge 26 22 = true := by decide +kernel
theorem zd117_22 : zDc 117 22 23 (Int32.ofNat 0) = true := by decide +kernel
theorem zd117_23 : zDj 117 23 27 = true := by decide +kernel
theorem zd117_26 : zDc 117 26 27 (Int32.ofNat 1) = true := by decide +kernel
theorem zd117_27 : zDp 117 27 30 7 0 (.int) = true := by decide +kernel
theorem zd117_30 : zD 117 30 (.aload_n 0) 1 31 = true := by decide +kernel
theorem zd117_31 : zDg 117 31 34 7 0 (.int) = true := by decide +kernel
theorem zd117_34 : zDf 117 34 .eq 39 37 = true := by decide +kernel
theorem zd117_37 : zDc 117 37 38 (Int32.ofNat 0) = true := by decide +kernel
theorem zd117_38 : zD 117 38 .ireturn 1 39 = true := by decide +kernel
theorem zd117_39 : zD 117 39 (.iload_n 2) 1 40 = true := by decide +kernel
theorem zd117_40 : zD 117 40 (.istore 4) 2 42 = true := by decide +kernel
theorem zd117_42 : zDc 117 42 43 (Int32.ofNat 0) = true := by decide +kernel
theorem zd117_43 : zD 117 43 (.istore 5) 2 45 = true := by decide +kernel
theorem zd117_45 : zD 117 45 (.iload 5) 2 47 = true := by decide +kernel
theorem zd117_47 : zD 117 47 (.aload_n 0) 1 48 = true := by decide +kernel
theorem zd117_48 : zDg 117 48 51 7 24 (.int) = true := by decide +kernel
theorem zd117_51 : zDm 117 51 .ge 128 54 = true := by decide +kernel
theorem zd117_54 : zD 117 54 (.iload_n 2) 1 55 = true := by decide +kernel
theorem zd117_55 : zDf 117 55 .lt 128 58 = true := by decide +kernel
theorem zd117_58 : zD 117 58 (.aload_n 0) 1 59 = true := by decide +kernel
theorem zd117_59 : zDg 117 59 62 7 25 (.array .int) = true := by decide +kernel
theorem zd117_62 : zD 117 62 (.iload 5) 2 64 = true := by decide +kernel
theorem zd117_64 : zD 117 64 .iaload 1 65 = true := by decide +kernel
theorem zd117_65 : zD 117 65 (.aload_n 0) 1 66 = true := by decide +kernel
theorem zd117_66 : zDg 117 66 69 7 23 (.array .int) = true := by decide +kernel
theorem zd117_69 : zD 117 69 (.iload_n 1) 1 70 = true := by decide +kernel
theorem zd117_70 : zD 117 70 .iaload 1 71 = true := by decide +kernel
theorem zd117_71 : zDm 117 71 .eq 77 74 = true := by decide +kernel
theorem zd117_74 : zDj 117 74 122 = true := by decide +kernel
theorem zd117_77 : zD 117 77 (.iload 4) 2 79 = true := by decide +kernel
theorem zd117_79 : zDf 117 79 .ne 119 82 = true := by decide +kernel
theorem zd117_82 : zD 117 82 (.iload_n 3) 1 83 = true := by decide +kernel
theorem zd117_83 : zDf 117 83 .ne 96 86 = true := by decide +kernel
theorem zd117_86 : zD 117 86 (.aload_n 0) 1 87 = true := by decide +kernel
theorem zd117_87 : zDg 117 87 90 7 26 (.array .int) = true := by decide +kernel
theorem zd117_90 : zD 117 90 (.iload 5) 2 92 = true := by decide +kernel
theorem zd117_92 : zD 117 92 .iaload 1 93 = true := by decide +kernel
theorem zd117_93 : zDj 117 93 118 = true := by decide +kernel
theorem zd117_96 : zD 117 96 (.iload_n 3) 1 97 = true := by decide +kernel
theorem zd117_97 : zDc 117 97 98 (Int32.ofNat 1) = true := by decide +kernel
theorem zd117_98 : zDm 117 98 .ne 111 101 = true := by decide +kernel
theorem zd117_101 : zD 117 101 (.aload_n 0) 1 102 = true := by decide +kernel
theorem zd117_102 : zDg 117 102 105 7 27 (.array .int) = true := by decide +kernel
theorem zd117_105 : zD 117 105 (.iload 5) 2 107 = true := by decide +kernel
theorem zd117_107 : zD 117 107 .iaload 1 108 = true := by decide +kernel
theorem zd117_108 : zDj 117 108 118 = true := by decide +kernel
theorem zd117_111 : zD 117 111 (.aload_n 0) 1 112 = true := by decide +kernel
theorem zd117_112 : zDg 117 112 115 7 28 (.array .int) = true := by decide +kernel
theorem zd117_115 : zD 117 115 (.iload 5) 2 117 = true := by decide +kernel
theorem zd117_117 : zD 117 117 .iaload 1 118 = true := by decide +kernel
theorem zd117_118 : zD 117 118 .ireturn 1 119 = true := by decide +kernel
theorem zd117_119 : zDi 117 119 122 4 (-(Int32.ofNat 1)) = true := by decide +kernel
theorem zd117_122 : zDi 117 122 125 5 (Int32.ofNat 1) = true := by decide +kernel
theorem zd117_125 : zDj 117 125 45 = true := by decide +kernel
theorem zd117_128 : zDc 117 128 129 (-1) = true := by decide +kernel
theorem zd117_129 : zD 117 129 .ireturn 1 130 = true := by decide +kernel
theorem zd118_0 : zD 118 0 (.aload_n 0) 1 1 = true := by decide +kernel
theorem zd118_1 : zD 118 1 (.iload_n 1) 1 2 = true := by decide +kernel
theorem zd118_2 : zDf 118 2 .lt 26 5 = true := by decide +kernel
theorem zd118_5 : zD 118 5 (.iload_n 1) 1 6 = true := by decide +kernel
theorem zd118_6 : zD 118 6 (.iload_n 2) 1 7 = true := by decide +kernel
theorem zd118_7 : zDm 118 7 .gt 26 10 = true := by decide +kernel
theorem zd118_10 : zD 118 10 (.iload_n 2) 1 11 = true := by decide +kernel
theorem zd118_11 : zD 118 11 (.aload_n 0) 1 12 = true := by decide +kernel
theorem zd118_12 : zDg 118 12 15 7 8 (.int) = true := by decide +kernel
theorem zd118_15 : zDm 118 15 .gt 26 18 = true := by decide +kernel
theorem zd118_18 : zD 118 18 (.iload_n 3) 1 19 = true := by decide +kernel
theorem zd118_19 : zDf 118 19 .lt 26 22 = true := by decide +kernel
theorem zd118_22 : zDc 118 22 23 (Int32.ofNat 0) = true := by decide +kernel
theorem zd118_23 : zDj 118 23 27 = true := by decide +kernel
theorem zd118_26 : zDc 118 26 27 (Int32.ofNat 1) = true := by decide +kernel
theorem zd118_27 : zDp 118 27 30 7 0 (.int) = true := by decide +kernel
theorem zd118_30 : zD 118 30 (.aload_n 0) 1 31 = true := by decide +kernel
theorem zd118_31 : zDg 118 31 34 7 0 (.int) = true := by decide +kernel
theorem zd118_34 : zDf 118 34 .eq 39 37 = true := by decide +kernel
theorem zd118_37 : zDc 118 37 38 (Int32.ofNat 0) = true := by decide +kernel
theorem zd118_38 : zD 118 38 .ireturn 1 39 = true := by decide +kernel
theorem zd118_39 : zD 118 39 (.aload_n 0) 1 40 = true := by decide +kernel
theorem zd118_40 : zD 118 40 (.iload_n 3) 1 41 = true := by decide +kernel
theorem zd118_41 : zDk 118 41 44 104 0 = true := by decide +kernel
theorem zd118_44 : zD 118 44 (.aload_n 0) 1 45 = true := by decide +kernel
theorem zd118_45 : zD 118 45 (.iload_n 1) 1 46 = true := by decide +kernel
theorem zd118_46 : zDk 118 46 49 119 0 = true := by decide +kernel
theorem zd118_49 : zDc 118 49 50 (Int32.ofNat 0) = true := by decide +kernel
theorem zd118_50 : zD 118 50 (.istore 4) 2 52 = true := by decide +kernel
theorem zd118_52 : zD 118 52 (.iload 4) 2 54 = true := by decide +kernel
theorem zd118_54 : zDc 118 54 56 (Int32.ofNat 32) = true := by decide +kernel
theorem zd118_56 : zDm 118 56 .ge 76 59 = true := by decide +kernel
theorem zd118_59 : zD 118 59 (.aload_n 0) 1 60 = true := by decide +kernel
theorem zd118_60 : zD 118 60 (.aload_n 0) 1 61 = true := by decide +kernel
theorem zd118_61 : zDg 118 61 64 7 7 (.array .int) = true := by decide +kernel
theorem zd118_64 : zD 118 64 (.iload 4) 2 66 = true := by decide +kernel
theorem zd118_66 : zD 118 66 .iaload 1 67 = true := by decide +kernel
theorem zd118_67 : zDk 118 67 70 106 0 = true := by decide +kernel
theorem zd118_70 : zDi 118 70 73 4 (Int32.ofNat 1) = true := by decide +kernel
theorem zd118_73 : zDj 118 73 52 = true := by decide +kernel
theorem zd118_76 : zDc 118 76 78 (Int32.ofNat 32) = true := by decide +kernel
theorem zd118_78 : zD 118 78 (.iload_n 1) 1 79 = true := by decide +kernel
theorem zd118_79 : zD 118 79 .imul 1 80 = true := by decide +kernel
theorem zd118_80 : zD 118 80 (.istore 4) 2 82 = true := by decide +kernel
theorem zd118_82 : zD 118 82 (.iload 4) 2 84 = true := by decide +kernel
theorem zd118_84 : zDc 118 84 86 (Int32.ofNat 32) = true := by decide +kernel
theorem zd118_86 : zD 118 86 (.iload_n 2) 1 87 = true := by decide +kernel
theorem zd118_87 : zD 118 87 .imul 1 88 = true := by decide +kernel
theorem zd118_88 : zDm 118 88 .ge 108 91 = true := by decide +kernel
theorem zd118_91 : zD 118 91 (.aload_n 0) 1 92 = true := by decide +kernel
theorem zd118_92 : zD 118 92 (.aload_n 0) 1 93 = true := by decide +kernel
theorem zd118_93 : zDg 118 93 96 7 14 (.array .int) = true := by decide +kernel
theorem zd118_96 : zD 118 96 (.iload 4) 2 98 = true := by decide +kernel
theorem zd118_98 : zD 118 98 .iaload 1 99 = true := by decide +kernel
theorem zd118_99 : zDk 118 99 102 106 0 = true := by decide +kernel
theorem zd118_102 : zDi 118 102 105 4 (Int32.ofNat 1) = true := by decide +kernel
theorem zd118_105 : zDj 118 105 82 = true := by decide +kernel
theorem zd118_108 : zD 118 108 (.aload_n 0) 1 109 = true := by decide +kernel
theorem zd118_109 : zD 118 109 (.iload_n 2) 1 110 = true := by decide +kernel
theorem zd118_110 : zDk 118 110 113 119 0 = true := by decide +kernel
theorem zd118_113 : zDc 118 113 114 (Int32.ofNat 0) = true := by decide +kernel
theorem zd118_114 : zD 118 114 (.istore 4) 2 116 = true := by decide +kernel
theorem zd118_116 : zD 118 116 (.iload 4) 2 118 = true := by decide +kernel
theorem zd118_118 : zDc 118 118 120 (Int32.ofNat 32) = true := by decide +kernel
theorem zd118_120 : zDm 118 120 .ge 140 123 = true := by decide +kernel
theorem zd118_123 : zD 118 123 (.aload_n 0) 1 124 = true := by decide +kernel
theorem zd118_124 : zD 118 124 (.aload_n 0) 1 125 = true := by decide +kernel
theorem zd118_125 : zDg 118 125 128 7 7 (.array .int) = true := by decide +kernel
theorem zd118_128 : zD 118 128 (.iload 4) 2 130 = true := by decide +kernel
theorem zd118_130 : zD 118 130 .iaload 1 131 = true := by decide +kernel
theorem zd118_131 : zDk 118 131 134 106 0 = true := by decide +kernel
theorem zd118_134 : zDi 118 134 137 4 (Int32.ofNat 1) = true := by decide +kernel
theorem zd118_137 : zDj 118 137 116 = true := by decide +kernel
theorem zd118_140 : zD 118 140 (.aload_n 0) 1 141 = true := by decide +kernel
theorem zd118_141 : zDg 118 141 144 7 31 (.int) = true := by decide +kernel
theorem zd118_144 : zD 118 144 .ireturn 1 145 = true := by decide +kernel
theorem zd119_0 : zD 119 0 (.aload_n 0) 1 1 = true := by decide +kernel
theorem zd119_1 : zDk 119 1 4 92 0 = true := by decide +kernel
theorem zd119_4 : zDc 119 4 5 (Int32.ofNat 0) = true := by decide +kernel
theorem zd119_5 : zD 119 5 (.istore_n 2) 1 6 = true := by decide +kernel
theorem zd119_6 : zD 119 6 (.iload_n 2) 1 7 = true := by decide +kernel
theorem zd119_7 : zD 119 7 (.iload_n 1) 1 8 = true := by decide +kernel
theorem zd119_8 : zDm 119 8 .ge 42 11 = true := by decide +kernel
theorem zd119_11 : zD 119 11 (.aload_n 0) 1 12 = true := by decide +kernel
theorem zd119_12 : zD 119 12 (.aload_n 0) 1 13 = true := by decide +kernel
theorem zd119_13 : zDg 119 13 16 7 7 (.array .int) = true := by decide +kernel
theorem zd119_16 : zDc 119 16 17 (Int32.ofNat 0) = true := by decide +kernel
theorem zd119_17 : zDk 119 17 20 97 0 = true := by decide +kernel
theorem zd119_20 : zD 119 20 (.aload_n 0) 1 21 = true := by decide +kernel
theorem zd119_21 : zD 119 21 (.aload_n 0) 1 22 = true := by decide +kernel
theorem zd119_22 : zDg 119 22 25 7 14 (.array .int) = true := by decide +kernel
theorem zd119_25 : zDc 119 25 27 (Int32.ofNat 32) = true := by decide +kernel
theorem zd119_27 : zD 119 27 (.iload_n 2) 1 28 = true := by decide +kernel
theorem zd119_28 : zD 119 28 .imul 1 29 = true := by decide +kernel
theorem zd119_29 : zDk 119 29 32 97 0 = true := by decide +kernel
theorem zd119_32 : zD 119 32 (.aload_n 0) 1 33 = true := by decide +kernel
theorem zd119_33 : zDk 119 33 36 92 0 = true := by decide +kernel
theorem zd119_36 : zDi 119 36 39 2 (Int32.ofNat 1) = true := by decide +kernel
theorem zd119_39 : zDj 119 39 6 = true := by decide +kernel
theorem zd119_42 : zD 119 42 .return_ 1 43 = true := by decide +kernel
theorem zd120_0 : zD 120 0 (.aload_n 0) 1 1 = true := by decide +kernel
theorem zd120_1 : zD 120 1 (.aload_n 0) 1 2 = true := by decide +kernel
theorem zd120_2 : zD 120 2 (.iload_n 1) 1 3 = true := by decide +kernel
theorem zd120_3 : zD 120 3 (.iload_n 2) 1 4 = true := by decide +kernel
theorem zd120_4 : zDk 120 4 7 102 0 = true := by decide +kernel
theorem zd120_7 : zDf 120 7 .eq 14 10 = true := by decide +kernel
theorem zd120_10 : zDc 120 10 11 (Int32.ofNat 0) = true := by decide +kernel
theorem zd120_11 : zDj 120 11 15 = true := by decide +kernel
theorem zd120_14 : zDc 120 14 15 (Int32.ofNat 1) = true := by decide +kernel
theorem zd120_15 : zDp 120 15 18 7 0 (.int) = true := by decide +kernel
theorem zd120_18 : zD 120 18 (.aload_n 0) 1 19 = true := by decide +kernel
theorem zd120_19 : zDg 120 19 22 7 0 (.int) = true := by decide +kernel
theorem zd120_22 : zDf 120 22 .eq 27 25 = true := by decide +kernel
theorem zd120_25 : zDc 120 25 26 (Int32.ofNat 0) = true := by decide +kernel
theorem zd120_26 : zD 120 26 .ireturn 1 27 = true := by decide +kernel
theorem zd120_27 : zDc 120 27 29 (Int32.ofNat 8) = true := by decide +kernel
theorem zd120_29 : zD 120 29 (.iload_n 1) 1 30 = true := by decide +kernel
theorem zd120_30 : zD 120 30 .imul 1 31 = true := by decide +kernel
theorem zd120_31 : zD 120 31 (.iload_n 2) 1 32 = true := by decide +kernel
theorem zd120_32 : zD 120 32 .iadd 1 33 = true := by decide +kernel
theorem zd120_33 : zD 120 33 (.istore_n 3) 1 34 = true := by decide +kernel
theorem zd120_34 : zD 120 34 (.iload_n 1) 1 35 = true := by decide +kernel
theorem zd120_35 : zDf 120 35 .ne 42 38 = true := by decide +kernel
theorem zd120_38 : zDc 120 38 39 (-1) = true := by decide +kernel
theorem zd120_39 : zDj 120 39 55 = true := by decide +kernel
theorem zd120_42 : zD 120 42 (.aload_n 0) 1 43 = true := by decide +kernel
theorem zd120_43 : zD 120 43 (.iload_n 1) 1 44 = true := by decide +kernel
theorem zd120_44 : zDc 120 44 45 (Int32.ofNat 1) = true := by decide +kernel
theorem zd120_45 : zD 120 45 .isub 1 46 = true := by decide +kernel
theorem zd120_46 : zD 120 46 (.aload_n 0) 1 47 = true := by decide +kernel
theorem zd120_47 : zDg 120 47 50 7 10 (.array .int) = true := by decide +kernel
theorem zd120_50 : zD 120 50 (.iload_n 3) 1 51 = true := by decide +kernel
theorem zd120_51 : zD 120 51 .iaload 1 52 = true := by decide +kernel
theorem zd120_52 : zDk 120 52 55 85 0 = true := by decide +kernel
theorem zd120_55 : zD 120 55 (.istore 4) 2 57 = true := by decide +kernel
theorem zd120_57 : zD 120 57 (.iload 4) 2 59 = true := by decide +kernel
theorem zd120_59 : zDc 120 59 60 (-1) = true := by decide +kernel
theorem zd120_60 : zDm 120 60 .ne 65 63 = true := by decide +kernel
theorem zd120_63 : zDc 120 63 64 (Int32.ofNat 2) = true := by decide +kernel
theorem zd120_64 : zD 120 64 .ireturn 1 65 = true := by decide +kernel
theorem zd120_65 : zDc 120 65 67 (Int32.ofNat 8) = true := by decide +kernel
theorem zd120_67 : zD 120 67 (.iload_n 1) 1 68 = true := by decide +kernel
theorem zd120_68 : zDc 120 68 69 (Int32.ofNat 1) = true := by decide +kernel
theorem zd120_69 : zD 120 69 .isub 1 70 = true := by decide +kernel
theorem zd120_70 : zD 120 70 .imul 1 71 = true := by decide +kernel
theorem zd120_71 : zD 120 71 (.iload 4) 2 73 = true := by decide +kernel
theorem zd120_73 : zD 120 73 .iadd 1 74 = true := by decide +kernel
theorem zd120_74 : zD 120 74 (.istore 5) 2 76 = true := by decide +kernel
theorem zd120_76 : zD 120 76 (.aload_n 0) 1 77 = true := by decide +kernel
theorem zd120_77 : zDg 120 77 80 7 11 (.array .int) = true := by decide +kernel
theorem zd120_80 : zD 120 80 (.iload_n 3) 1 81 = true := by decide +kernel
theorem zd120_81 : zD 120 81 .iaload 1 82 = true := by decide +kernel
theorem zd120_82 : zD 120 82 (.aload_n 0) 1 83 = true := by decide +kernel
theorem zd120_83 : zDg 120 83 86 7 11 (.array .int) = true := by decide +kernel
theorem zd120_86 : zD 120 86 (.iload 5) 2 88 = true := by decide +kernel
theorem zd120_88 : zD 120 88 .iaload 1 89 = true := by decide +kernel
theorem zd120_89 : zDm 120 89 .ne 96 92 = true := by decide +kernel
theorem zd120_92 : zDc 120 92 93 (Int32.ofNat 1) = true := by decide +kernel
theorem zd120_93 : zDj 120 93 97 = true := by decide +kernel
theorem zd120_96 : zDc 120 96 97 (Int32.ofNat 0) = true := by decide +kernel
theorem zd120_97 : zD 120 97 (.istore 6) 2 99 = true := by decide +kernel
theorem zd120_99 : zDc 120 99 100 (Int32.ofNat 0) = true := by decide +kernel
theorem zd120_100 : zD 120 100 (.istore 7) 2 102 = true := by decide +kernel
theorem zd120_102 : zD 120 102 (.iload 7) 2 104 = true := by decide +kernel
theorem zd120_104 : zD 120 104 (.aload_n 0) 1 105 = true := by decide +kernel
theorem zd120_105 : zDg 120 105 108 7 11 (.array .int) = true := by decide +kernel
theorem zd120_108 : zD 120 108 (.iload_n 3) 1 109 = true := by decide +kernel
theorem zd120_109 : zD 120 109 .iaload 1 110 = true := by decide +kernel
theorem zd120_110 : zDm 120 110 .ge 159 113 = true := by decide +kernel
theorem zd120_113 : zD 120 113 (.iload 6) 2 115 = true := by decide +kernel
theorem zd120_115 : zDf 120 115 .eq 159 118 = true := by decide +kernel
theorem zd120_118 : zD 120 118 (.aload_n 0) 1 119 = true := by decide +kernel
theorem zd120_119 : zDg 120 119 122 7 12 (.array .int) = true := by decide +kernel
theorem zd120_122 : zDc 120 122 124 (Int32.ofNat 64) = true := by decide +kernel
theorem zd120_124 : zD 120 124 (.iload_n 3) 1 125 = true := by decide +kernel
theorem zd120_125 : zD 120 125 .imul 1 126 = true := by decide +kernel
theorem zd120_126 : zD 120 126 (.iload 7) 2 128 = true := by decide +kernel
theorem zd120_128 : zD 120 128 .iadd 1 129 = true := by decide +kernel
theorem zd120_129 : zD 120 129 .iaload 1 130 = true := by decide +kernel
theorem zd120_130 : zD 120 130 (.aload_n 0) 1 131 = true := by decide +kernel
theorem zd120_131 : zDg 120 131 134 7 12 (.array .int) = true := by decide +kernel
theorem zd120_134 : zDc 120 134 136 (Int32.ofNat 64) = true := by decide +kernel
theorem zd120_136 : zD 120 136 (.iload 5) 2 138 = true := by decide +kernel
theorem zd120_138 : zD 120 138 .imul 1 139 = true := by decide +kernel
theorem zd120_139 : zD 120 139 (.iload 7) 2 141 = true := by decide +kernel
theorem zd120_141 : zD 120 141 .iadd 1 142 = true := by decide +kernel
theorem zd120_142 : zD 120 142 .iaload 1 143 = true := by decide +kernel
theorem zd120_143 : zDm 120 143 .ne 150 146 = true := by decide +kernel
theorem zd120_146 : zDc 120 146 147 (Int32.ofNat 1) = true := by decide +kernel
theorem zd120_147 : zDj 120 147 151 = true := by decide +kernel
theorem zd120_150 : zDc 120 150 151 (Int32.ofNat 0) = true := by decide +kernel
theorem zd120_151 : zD 120 151 (.istore 6) 2 153 = true := by decide +kernel
theorem zd120_153 : zDi 120 153 156 7 (Int32.ofNat 1) = true := by decide +kernel
theorem zd120_156 : zDj 120 156 102 = true := by decide +kernel
theorem zd120_159 : zD 120 159 (.iload 6) 2 161 = true := by decide +kernel
theorem zd120_161 : zDf 120 161 .eq 168 164 = true := by decide +kernel
theorem zd120_164 : zDc 120 164 165 (Int32.ofNat 0) = true := by decide +kernel
theorem zd120_165 : zDj 120 165 169 = true := by decide +kernel
theorem zd120_168 : zDc 120 168 169 (Int32.ofNat 1) = true := by decide +kernel
theorem zd120_169 : zD 120 169 .ireturn 1 170 = true := by decide +kernel
end
section
/-! The instructions of the law -/
theorem zd38_0 : zD 38 0 (.aload_n 2) 1 1 = true := by decide +kernel
theorem zd38_1 : zDc 38 1 2 (Int32.ofNat 0) = true := by decide +kernel
theorem zd38_2 : zD 38 2 (.aload_n 0) 1 3 = true := by decide +kernel
theorem zd38_3 : zD 38 3 (.iload_n 1) 1 4 = true := by decide +kernel
theorem zd38_4 : zDk 38 4 7 39 0 = true := by decide +kernel
theorem zd38_7 : zD 38 7 .i2l 1 8 = true := by decide +kernel
theorem zd38_8 : zD 38 8 .lastore 1 9 = true := by decide +kernel
theorem zd38_9 : zDj 38 9 15 = true := by decide +kernel
theorem zd38_12 : zD 38 12 (.astore_n 3) 1 13 = true := by decide +kernel
theorem zd38_13 : zDc 38 13 14 (Int32.ofNat 1) = true := by decide +kernel
theorem zd38_14 : zD 38 14 .ireturn 1 15 = true := by decide +kernel
theorem zd38_15 : zDc 38 15 16 (Int32.ofNat 0) = true := by decide +kernel
theorem zd38_16 : zD 38 16 .ireturn 1 17 = true := by decide +kernel
theorem zd42_0 : zD 42 0 (.aload_n 3) 1 1 = true := by decide +kernel
theorem zd42_1 : zDc 42 1 2 (Int32.ofNat 0) = true := by decide +kernel
theorem zd42_2 : zD 42 2 (.aload_n 0) 1 3 = true := by decide +kernel
theorem zd42_3 : zD 42 3 (.iload_n 1) 1 4 = true := by decide +kernel
theorem zd42_4 : zD 42 4 (.iload_n 2) 1 5 = true := by decide +kernel
theorem zd42_5 : zDk 42 5 8 43 0 = true := by decide +kernel
theorem zd42_8 : zDf 42 8 .eq 15 11 = true := by decide +kernel
theorem zd42_11 : zDC 42 11 12 (1) = true := by decide +kernel
theorem zd42_12 : zDj 42 12 16 = true := by decide +kernel
theorem zd42_15 : zDC 42 15 16 (0) = true := by decide +kernel
theorem zd42_16 : zD 42 16 .lastore 1 17 = true := by decide +kernel
theorem zd42_17 : zDj 42 17 28 = true := by decide +kernel
theorem zd42_20 : zD 42 20 (.astore 4) 2 22 = true := by decide +kernel
theorem zd42_22 : zDc 42 22 23 (Int32.ofNat 1) = true := by decide +kernel
theorem zd42_23 : zD 42 23 .ireturn 1 24 = true := by decide +kernel
theorem zd42_24 : zD 42 24 (.astore 4) 2 26 = true := by decide +kernel
theorem zd42_26 : zDc 42 26 27 (Int32.ofNat 2) = true := by decide +kernel
theorem zd42_27 : zD 42 27 .ireturn 1 28 = true := by decide +kernel
theorem zd42_28 : zDc 42 28 29 (Int32.ofNat 0) = true := by decide +kernel
theorem zd42_29 : zD 42 29 .ireturn 1 30 = true := by decide +kernel
theorem zd46_0 : zD 46 0 (.aload_n 3) 1 1 = true := by decide +kernel
theorem zd46_1 : zDc 46 1 2 (Int32.ofNat 0) = true := by decide +kernel
theorem zd46_2 : zD 46 2 (.aload_n 0) 1 3 = true := by decide +kernel
theorem zd46_3 : zD 46 3 (.iload_n 1) 1 4 = true := by decide +kernel
theorem zd46_4 : zD 46 4 (.iload_n 2) 1 5 = true := by decide +kernel
theorem zd46_5 : zDk 46 5 8 47 0 = true := by decide +kernel
theorem zd46_8 : zD 46 8 .i2l 1 9 = true := by decide +kernel
theorem zd46_9 : zD 46 9 .lastore 1 10 = true := by decide +kernel
theorem zd46_10 : zDj 46 10 17 = true := by decide +kernel
theorem zd46_13 : zD 46 13 (.astore 4) 2 15 = true := by decide +kernel
theorem zd46_15 : zDc 46 15 16 (Int32.ofNat 1) = true := by decide +kernel
theorem zd46_16 : zD 46 16 .ireturn 1 17 = true := by decide +kernel
theorem zd46_17 : zDc 46 17 18 (Int32.ofNat 0) = true := by decide +kernel
theorem zd46_18 : zD 46 18 .ireturn 1 19 = true := by decide +kernel
theorem zd50_0 : zD 50 0 (.aload 4) 2 2 = true := by decide +kernel
theorem zd50_2 : zDc 50 2 3 (Int32.ofNat 0) = true := by decide +kernel
theorem zd50_3 : zD 50 3 (.aload_n 0) 1 4 = true := by decide +kernel
theorem zd50_4 : zD 50 4 (.iload_n 1) 1 5 = true := by decide +kernel
theorem zd50_5 : zD 50 5 (.iload_n 2) 1 6 = true := by decide +kernel
theorem zd50_6 : zD 50 6 (.iload_n 3) 1 7 = true := by decide +kernel
theorem zd50_7 : zDk 50 7 10 51 0 = true := by decide +kernel
theorem zd50_10 : zD 50 10 .i2l 1 11 = true := by decide +kernel
theorem zd50_11 : zD 50 11 .lastore 1 12 = true := by decide +kernel
theorem zd50_12 : zDj 50 12 19 = true := by decide +kernel
theorem zd50_15 : zD 50 15 (.astore 5) 2 17 = true := by decide +kernel
theorem zd50_17 : zDc 50 17 18 (Int32.ofNat 1) = true := by decide +kernel
theorem zd50_18 : zD 50 18 .ireturn 1 19 = true := by decide +kernel
theorem zd50_19 : zDc 50 19 20 (Int32.ofNat 0) = true := by decide +kernel
theorem zd50_20 : zD 50 20 .ireturn 1 21 = true := by decide +kernel
theorem zd58_0 : zD 58 0 (.aload 4) 2 2 = true := by decide +kernel
theorem zd58_2 : zDc 58 2 3 (Int32.ofNat 0) = true := by decide +kernel
theorem zd58_3 : zD 58 3 (.aload_n 0) 1 4 = true := by decide +kernel
theorem zd58_4 : zD 58 4 (.iload_n 1) 1 5 = true := by decide +kernel
theorem zd58_5 : zD 58 5 (.iload_n 2) 1 6 = true := by decide +kernel
theorem zd58_6 : zD 58 6 (.iload_n 3) 1 7 = true := by decide +kernel
theorem zd58_7 : zDk 58 7 10 59 0 = true := by decide +kernel
theorem zd58_10 : zD 58 10 .i2l 1 11 = true := by decide +kernel
theorem zd58_11 : zD 58 11 .lastore 1 12 = true := by decide +kernel
theorem zd58_12 : zDj 58 12 23 = true := by decide +kernel
theorem zd58_15 : zD 58 15 (.astore 5) 2 17 = true := by decide +kernel
theorem zd58_17 : zDc 58 17 18 (Int32.ofNat 1) = true := by decide +kernel
theorem zd58_18 : zD 58 18 .ireturn 1 19 = true := by decide +kernel
theorem zd58_19 : zD 58 19 (.astore 5) 2 21 = true := by decide +kernel
theorem zd58_21 : zDc 58 21 22 (Int32.ofNat 2) = true := by decide +kernel
theorem zd58_22 : zD 58 22 .ireturn 1 23 = true := by decide +kernel
theorem zd58_23 : zDc 58 23 24 (Int32.ofNat 0) = true := by decide +kernel
theorem zd58_24 : zD 58 24 .ireturn 1 25 = true := by decide +kernel
theorem zd62_0 : zD 62 0 (.aload_n 2) 1 1 = true := by decide +kernel
theorem zd62_1 : zDc 62 1 2 (Int32.ofNat 0) = true := by decide +kernel
theorem zd62_2 : zD 62 2 (.aload_n 0) 1 3 = true := by decide +kernel
theorem zd62_3 : zD 62 3 (.iload_n 1) 1 4 = true := by decide +kernel
theorem zd62_4 : zDk 62 4 7 63 0 = true := by decide +kernel
theorem zd62_7 : zD 62 7 .i2l 1 8 = true := by decide +kernel
theorem zd62_8 : zD 62 8 .lastore 1 9 = true := by decide +kernel
theorem zd62_9 : zDj 62 9 15 = true := by decide +kernel
theorem zd62_12 : zD 62 12 (.astore_n 3) 1 13 = true := by decide +kernel
theorem zd62_13 : zDc 62 13 14 (Int32.ofNat 1) = true := by decide +kernel
theorem zd62_14 : zD 62 14 .ireturn 1 15 = true := by decide +kernel
theorem zd62_15 : zDc 62 15 16 (Int32.ofNat 0) = true := by decide +kernel
theorem zd62_16 : zD 62 16 .ireturn 1 17 = true := by decide +kernel
theorem zd64_0 : zD 64 0 (.aload_n 2) 1 1 = true := by decide +kernel
theorem zd64_1 : zDc 64 1 2 (Int32.ofNat 0) = true := by decide +kernel
theorem zd64_2 : zD 64 2 (.aload_n 0) 1 3 = true := by decide +kernel
theorem zd64_3 : zD 64 3 (.iload_n 1) 1 4 = true := by decide +kernel
theorem zd64_4 : zDk 64 4 7 65 0 = true := by decide +kernel
theorem zd64_7 : zD 64 7 .i2l 1 8 = true := by decide +kernel
theorem zd64_8 : zD 64 8 .lastore 1 9 = true := by decide +kernel
theorem zd64_9 : zDj 64 9 15 = true := by decide +kernel
theorem zd64_12 : zD 64 12 (.astore_n 3) 1 13 = true := by decide +kernel
theorem zd64_13 : zDc 64 13 14 (Int32.ofNat 1) = true := by decide +kernel
theorem zd64_14 : zD 64 14 .ireturn 1 15 = true := by decide +kernel
theorem zd64_15 : zDc 64 15 16 (Int32.ofNat 0) = true := by decide +kernel
theorem zd64_16 : zD 64 16 .ireturn 1 17 = true := by decide +kernel
theorem zd66_0 : zD 66 0 (.aload 4) 2 2 = true := by decide +kernel
theorem zd66_2 : zDc 66 2 3 (Int32.ofNat 0) = true := by decide +kernel
theorem zd66_3 : zD 66 3 (.aload_n 0) 1 4 = true := by decide +kernel
theorem zd66_4 : zD 66 4 (.iload_n 1) 1 5 = true := by decide +kernel
theorem zd66_5 : zD 66 5 (.iload_n 2) 1 6 = true := by decide +kernel
theorem zd66_6 : zD 66 6 (.iload_n 3) 1 7 = true := by decide +kernel
theorem zd66_7 : zDk 66 7 10 67 0 = true := by decide +kernel
theorem zd66_10 : zD 66 10 .i2l 1 11 = true := by decide +kernel
theorem zd66_11 : zD 66 11 .lastore 1 12 = true := by decide +kernel
theorem zd66_12 : zDj 66 12 19 = true := by decide +kernel
theorem zd66_15 : zD 66 15 (.astore 5) 2 17 = true := by decide +kernel
theorem zd66_17 : zDc 66 17 18 (Int32.ofNat 1) = true := by decide +kernel
theorem zd66_18 : zD 66 18 .ireturn 1 19 = true := by decide +kernel
theorem zd66_19 : zDc 66 19 20 (Int32.ofNat 0) = true := by decide +kernel
theorem zd66_20 : zD 66 20 .ireturn 1 21 = true := by decide +kernel
theorem zd70_0 : zD 70 0 (.aload 4) 2 2 = true := by decide +kernel
theorem zd70_2 : zDc 70 2 3 (Int32.ofNat 0) = true := by decide +kernel
theorem zd70_3 : zD 70 3 (.aload_n 0) 1 4 = true := by decide +kernel
theorem zd70_4 : zD 70 4 (.iload_n 1) 1 5 = true := by decide +kernel
theorem zd70_5 : zD 70 5 (.iload_n 2) 1 6 = true := by decide +kernel
theorem zd70_6 : zD 70 6 (.iload_n 3) 1 7 = true := by decide +kernel
theorem zd70_7 : zDk 70 7 10 71 0 = true := by decide +kernel
theorem zd70_10 : zD 70 10 .i2l 1 11 = true := by decide +kernel
theorem zd70_11 : zD 70 11 .lastore 1 12 = true := by decide +kernel
theorem zd70_12 : zDj 70 12 19 = true := by decide +kernel
theorem zd70_15 : zD 70 15 (.astore 5) 2 17 = true := by decide +kernel
theorem zd70_17 : zDc 70 17 18 (Int32.ofNat 1) = true := by decide +kernel
theorem zd70_18 : zD 70 18 .ireturn 1 19 = true := by decide +kernel
theorem zd70_19 : zDc 70 19 20 (Int32.ofNat 0) = true := by decide +kernel
theorem zd70_20 : zD 70 20 .ireturn 1 21 = true := by decide +kernel
theorem zd72_0 : zD 72 0 (.aload 4) 2 2 = true := by decide +kernel
theorem zd72_2 : zDc 72 2 3 (Int32.ofNat 0) = true := by decide +kernel
theorem zd72_3 : zD 72 3 (.aload_n 0) 1 4 = true := by decide +kernel
theorem zd72_4 : zD 72 4 (.iload_n 1) 1 5 = true := by decide +kernel
theorem zd72_5 : zD 72 5 (.iload_n 2) 1 6 = true := by decide +kernel
theorem zd72_6 : zD 72 6 (.iload_n 3) 1 7 = true := by decide +kernel
theorem zd72_7 : zDk 72 7 10 73 0 = true := by decide +kernel
theorem zd72_10 : zD 72 10 .i2l 1 11 = true := by decide +kernel
theorem zd72_11 : zD 72 11 .lastore 1 12 = true := by decide +kernel
theorem zd72_12 : zDj 72 12 19 = true := by decide +kernel
theorem zd72_15 : zD 72 15 (.astore 5) 2 17 = true := by decide +kernel
theorem zd72_17 : zDc 72 17 18 (Int32.ofNat 1) = true := by decide +kernel
theorem zd72_18 : zD 72 18 .ireturn 1 19 = true := by decide +kernel
theorem zd72_19 : zDc 72 19 20 (Int32.ofNat 0) = true := by decide +kernel
theorem zd72_20 : zD 72 20 .ireturn 1 21 = true := by decide +kernel
theorem zd74_0 : zD 74 0 (.aload_n 3) 1 1 = true := by decide +kernel
theorem zd74_1 : zDc 74 1 2 (Int32.ofNat 0) = true := by decide +kernel
theorem zd74_2 : zD 74 2 (.aload_n 0) 1 3 = true := by decide +kernel
theorem zd74_3 : zD 74 3 (.iload_n 1) 1 4 = true := by decide +kernel
theorem zd74_4 : zD 74 4 (.iload_n 2) 1 5 = true := by decide +kernel
theorem zd74_5 : zDk 74 5 8 75 0 = true := by decide +kernel
theorem zd74_8 : zDf 74 8 .eq 15 11 = true := by decide +kernel
theorem zd74_11 : zDC 74 11 12 (1) = true := by decide +kernel
theorem zd74_12 : zDj 74 12 16 = true := by decide +kernel
theorem zd74_15 : zDC 74 15 16 (0) = true := by decide +kernel
theorem zd74_16 : zD 74 16 .lastore 1 17 = true := by decide +kernel
theorem zd74_17 : zDj 74 17 24 = true := by decide +kernel
theorem zd74_20 : zD 74 20 (.astore 4) 2 22 = true := by decide +kernel
theorem zd74_22 : zDc 74 22 23 (Int32.ofNat 1) = true := by decide +kernel
theorem zd74_23 : zD 74 23 .ireturn 1 24 = true := by decide +kernel
theorem zd74_24 : zDc 74 24 25 (Int32.ofNat 0) = true := by decide +kernel
theorem zd74_25 : zD 74 25 .ireturn 1 26 = true := by decide +kernel
theorem zd77_0 : zD 77 0 (.aload_n 3) 1 1 = true := by decide +kernel
theorem zd77_1 : zDc 77 1 2 (Int32.ofNat 0) = true := by decide +kernel
theorem zd77_2 : zD 77 2 (.aload_n 0) 1 3 = true := by decide +kernel
theorem zd77_3 : zD 77 3 (.iload_n 1) 1 4 = true := by decide +kernel
theorem zd77_4 : zD 77 4 (.iload_n 2) 1 5 = true := by decide +kernel
theorem zd77_5 : zDk 77 5 8 78 0 = true := by decide +kernel
theorem zd77_8 : zD 77 8 .i2l 1 9 = true := by decide +kernel
theorem zd77_9 : zD 77 9 .lastore 1 10 = true := by decide +kernel
theorem zd77_10 : zDj 77 10 17 = true := by decide +kernel
theorem zd77_13 : zD 77 13 (.astore 4) 2 15 = true := by decide +kernel
theorem zd77_15 : zDc 77 15 16 (Int32.ofNat 1) = true := by decide +kernel
theorem zd77_16 : zD 77 16 .ireturn 1 17 = true := by decide +kernel
theorem zd77_17 : zDc 77 17 18 (Int32.ofNat 0) = true := by decide +kernel
theorem zd77_18 : zD 77 18 .ireturn 1 19 = true := by decide +kernel
theorem zd0_0 : zDw 0 0 3 0 = true := by decide +kernel
theorem zd0_3 : zD 0 3 .dup 1 4 = true := by decide +kernel
theorem zd0_4 : zDk 0 4 7 1 1 = true := by decide +kernel
theorem zd0_7 : zD 0 7 (.astore_n 1) 1 8 = true := by decide +kernel
theorem zd0_8 : zDw 0 8 11 7 = true := by decide +kernel
theorem zd0_11 : zD 0 11 .dup 1 12 = true := by decide +kernel
theorem zd0_12 : zDk 0 12 15 80 1 = true := by decide +kernel
theorem zd0_15 : zD 0 15 (.astore_n 2) 1 16 = true := by decide +kernel
theorem zd0_16 : zDc 0 16 17 (Int32.ofNat 1) = true := by decide +kernel
theorem zd0_17 : zD 0 17 (.newarray .long) 2 19 = true := by decide +kernel
theorem zd0_19 : zD 0 19 (.astore_n 3) 1 20 = true := by decide +kernel
theorem zd0_20 : zDc 0 20 21 (Int32.ofNat 0) = true := by decide +kernel
theorem zd0_21 : zD 0 21 (.istore 4) 2 23 = true := by decide +kernel
theorem zd0_23 : zD 0 23 (.iload 4) 2 25 = true := by decide +kernel
theorem zd0_25 : zD 0 25 (.aload_n 0) 1 26 = true := by decide +kernel
theorem zd0_26 : zD 0 26 .arraylength 1 27 = true := by decide +kernel
theorem zd0_27 : zDc 0 27 28 (Int32.ofNat 4) = true := by decide +kernel
theorem zd0_28 : zD 0 28 .isub 1 29 = true := by decide +kernel
theorem zd0_29 : zDm 0 29 .gt 1055 32 = true := by decide +kernel
theorem zd0_32 : zD 0 32 (.aload_n 0) 1 33 = true := by decide +kernel
theorem zd0_33 : zD 0 33 (.iload 4) 2 35 = true := by decide +kernel
theorem zd0_35 : zD 0 35 .iaload 1 36 = true := by decide +kernel
theorem zd0_36 : zDc 0 36 38 (Int32.ofNat 31) = true := by decide +kernel
theorem zd0_38 : zD 0 38 .iand 1 39 = true := by decide +kernel
theorem zd0_120 : zD 0 120 (.aload_n 1) 1 121 = true := by decide +kernel
theorem zd0_121 : zD 0 121 (.aload_n 0) 1 122 = true := by decide +kernel
theorem zd0_122 : zD 0 122 (.iload 4) 2 124 = true := by decide +kernel
theorem zd0_124 : zDc 0 124 125 (Int32.ofNat 1) = true := by decide +kernel
theorem zd0_125 : zD 0 125 .iadd 1 126 = true := by decide +kernel
theorem zd0_126 : zD 0 126 .iaload 1 127 = true := by decide +kernel
theorem zd0_127 : zD 0 127 (.aload_n 3) 1 128 = true := by decide +kernel
theorem zd0_128 : zDk 0 128 131 38 2 = true := by decide +kernel
theorem zd0_131 : zD 0 131 (.istore 5) 2 133 = true := by decide +kernel
theorem zd0_133 : zD 0 133 (.aload_n 2) 1 134 = true := by decide +kernel
theorem zd0_134 : zD 0 134 (.aload_n 0) 1 135 = true := by decide +kernel
theorem zd0_135 : zD 0 135 (.iload 4) 2 137 = true := by decide +kernel
theorem zd0_137 : zDc 0 137 138 (Int32.ofNat 1) = true := by decide +kernel
theorem zd0_138 : zD 0 138 .iadd 1 139 = true := by decide +kernel
theorem zd0_139 : zD 0 139 .iaload 1 140 = true := by decide +kernel
theorem zd0_140 : zDk 0 140 143 84 0 = true := by decide +kernel
theorem zd0_143 : zD 0 143 (.istore 6) 2 145 = true := by decide +kernel
theorem zd0_145 : zD 0 145 (.aload_n 2) 1 146 = true := by decide +kernel
theorem zd0_146 : zDk 0 146 149 83 0 = true := by decide +kernel
theorem zd0_149 : zD 0 149 (.iload 5) 2 151 = true := by decide +kernel
theorem zd0_151 : zDm 0 151 .eq 156 154 = true := by decide +kernel
theorem zd0_154 : zDc 0 154 155 (Int32.ofNat 0) = true := by decide +kernel
theorem zd0_155 : zD 0 155 .ireturn 1 156 = true := by decide +kernel
theorem zd0_156 : zD 0 156 (.iload 5) 2 158 = true := by decide +kernel
theorem zd0_158 : zDf 0 158 .ne 173 161 = true := by decide +kernel
theorem zd0_161 : zD 0 161 (.aload_n 3) 1 162 = true := by decide +kernel
theorem zd0_162 : zDc 0 162 163 (Int32.ofNat 0) = true := by decide +kernel
theorem zd0_163 : zD 0 163 .laload 1 164 = true := by decide +kernel
theorem zd0_164 : zD 0 164 (.iload 6) 2 166 = true := by decide +kernel
theorem zd0_166 : zD 0 166 .i2l 1 167 = true := by decide +kernel
theorem zd0_167 : zD 0 167 .lcmp 1 168 = true := by decide +kernel
theorem zd0_168 : zDf 0 168 .eq 173 171 = true := by decide +kernel
theorem zd0_171 : zDc 0 171 172 (Int32.ofNat 0) = true := by decide +kernel
theorem zd0_172 : zD 0 172 .ireturn 1 173 = true := by decide +kernel
theorem zd0_173 : zDj 0 173 1049 = true := by decide +kernel
theorem zd0_176 : zD 0 176 (.aload_n 1) 1 177 = true := by decide +kernel
theorem zd0_177 : zD 0 177 (.aload_n 0) 1 178 = true := by decide +kernel
theorem zd0_178 : zD 0 178 (.iload 4) 2 180 = true := by decide +kernel
theorem zd0_180 : zDc 0 180 181 (Int32.ofNat 1) = true := by decide +kernel
theorem zd0_181 : zD 0 181 .iadd 1 182 = true := by decide +kernel
theorem zd0_182 : zD 0 182 .iaload 1 183 = true := by decide +kernel
theorem zd0_183 : zD 0 183 (.aload_n 0) 1 184 = true := by decide +kernel
theorem zd0_184 : zD 0 184 (.iload 4) 2 186 = true := by decide +kernel
theorem zd0_186 : zDc 0 186 187 (Int32.ofNat 2) = true := by decide +kernel
theorem zd0_187 : zD 0 187 .iadd 1 188 = true := by decide +kernel
theorem zd0_188 : zD 0 188 .iaload 1 189 = true := by decide +kernel
theorem zd0_189 : zD 0 189 (.aload_n 3) 1 190 = true := by decide +kernel
theorem zd0_190 : zDk 0 190 193 42 2 = true := by decide +kernel
theorem zd0_193 : zD 0 193 (.istore 5) 2 195 = true := by decide +kernel
theorem zd0_195 : zD 0 195 (.aload_n 2) 1 196 = true := by decide +kernel
theorem zd0_196 : zD 0 196 (.aload_n 0) 1 197 = true := by decide +kernel
theorem zd0_197 : zD 0 197 (.iload 4) 2 199 = true := by decide +kernel
theorem zd0_199 : zDc 0 199 200 (Int32.ofNat 1) = true := by decide +kernel
theorem zd0_200 : zD 0 200 .iadd 1 201 = true := by decide +kernel
theorem zd0_201 : zD 0 201 .iaload 1 202 = true := by decide +kernel
theorem zd0_202 : zD 0 202 (.aload_n 0) 1 203 = true := by decide +kernel
theorem zd0_203 : zD 0 203 (.iload 4) 2 205 = true := by decide +kernel
theorem zd0_205 : zDc 0 205 206 (Int32.ofNat 2) = true := by decide +kernel
theorem zd0_206 : zD 0 206 .iadd 1 207 = true := by decide +kernel
theorem zd0_207 : zD 0 207 .iaload 1 208 = true := by decide +kernel
theorem zd0_208 : zDk 0 208 211 86 0 = true := by decide +kernel
theorem zd0_211 : zD 0 211 (.istore 6) 2 213 = true := by decide +kernel
theorem zd0_213 : zD 0 213 (.aload_n 2) 1 214 = true := by decide +kernel
theorem zd0_214 : zDk 0 214 217 83 0 = true := by decide +kernel
theorem zd0_217 : zD 0 217 (.iload 5) 2 219 = true := by decide +kernel
theorem zd0_219 : zDm 0 219 .eq 224 222 = true := by decide +kernel
theorem zd0_222 : zDc 0 222 223 (Int32.ofNat 0) = true := by decide +kernel
theorem zd0_223 : zD 0 223 .ireturn 1 224 = true := by decide +kernel
theorem zd0_224 : zD 0 224 (.iload 5) 2 226 = true := by decide +kernel
theorem zd0_226 : zDf 0 226 .ne 248 229 = true := by decide +kernel
theorem zd0_229 : zD 0 229 (.aload_n 3) 1 230 = true := by decide +kernel
theorem zd0_230 : zDc 0 230 231 (Int32.ofNat 0) = true := by decide +kernel
theorem zd0_231 : zD 0 231 .laload 1 232 = true := by decide +kernel
theorem zd0_232 : zD 0 232 (.iload 6) 2 234 = true := by decide +kernel
theorem zd0_234 : zDf 0 234 .eq 241 237 = true := by decide +kernel
theorem zd0_237 : zDC 0 237 238 (1) = true := by decide +kernel
theorem zd0_238 : zDj 0 238 242 = true := by decide +kernel
theorem zd0_241 : zDC 0 241 242 (0) = true := by decide +kernel
theorem zd0_242 : zD 0 242 .lcmp 1 243 = true := by decide +kernel
theorem zd0_243 : zDf 0 243 .eq 248 246 = true := by decide +kernel
theorem zd0_246 : zDc 0 246 247 (Int32.ofNat 0) = true := by decide +kernel
theorem zd0_247 : zD 0 247 .ireturn 1 248 = true := by decide +kernel
theorem zd0_248 : zDj 0 248 1049 = true := by decide +kernel
theorem zd0_251 : zD 0 251 (.aload_n 1) 1 252 = true := by decide +kernel
theorem zd0_252 : zDk 0 252 255 14 0 = true := by decide +kernel
theorem zd0_255 : zD 0 255 (.aload_n 2) 1 256 = true := by decide +kernel
theorem zd0_256 : zDk 0 256 259 88 0 = true := by decide +kernel
theorem zd0_259 : zDm 0 259 .eq 1049 262 = true := by decide +kernel
theorem zd0_262 : zDc 0 262 263 (Int32.ofNat 0) = true := by decide +kernel
theorem zd0_263 : zD 0 263 .ireturn 1 264 = true := by decide +kernel
theorem zd0_264 : zD 0 264 (.aload_n 1) 1 265 = true := by decide +kernel
theorem zd0_265 : zD 0 265 (.aload_n 0) 1 266 = true := by decide +kernel
theorem zd0_266 : zD 0 266 (.iload 4) 2 268 = true := by decide +kernel
theorem zd0_268 : zDc 0 268 269 (Int32.ofNat 1) = true := by decide +kernel
theorem zd0_269 : zD 0 269 .iadd 1 270 = true := by decide +kernel
theorem zd0_270 : zD 0 270 .iaload 1 271 = true := by decide +kernel
theorem zd0_271 : zD 0 271 (.aload_n 0) 1 272 = true := by decide +kernel
theorem zd0_272 : zD 0 272 (.iload 4) 2 274 = true := by decide +kernel
theorem zd0_274 : zDc 0 274 275 (Int32.ofNat 2) = true := by decide +kernel
theorem zd0_275 : zD 0 275 .iadd 1 276 = true := by decide +kernel
theorem zd0_276 : zD 0 276 .iaload 1 277 = true := by decide +kernel
theorem zd0_277 : zD 0 277 (.aload_n 3) 1 278 = true := by decide +kernel
theorem zd0_278 : zDk 0 278 281 46 2 = true := by decide +kernel
theorem zd0_281 : zD 0 281 (.istore 5) 2 283 = true := by decide +kernel
theorem zd0_283 : zD 0 283 (.aload_n 2) 1 284 = true := by decide +kernel
theorem zd0_284 : zD 0 284 (.aload_n 0) 1 285 = true := by decide +kernel
theorem zd0_285 : zD 0 285 (.iload 4) 2 287 = true := by decide +kernel
theorem zd0_287 : zDc 0 287 288 (Int32.ofNat 1) = true := by decide +kernel
theorem zd0_288 : zD 0 288 .iadd 1 289 = true := by decide +kernel
theorem zd0_289 : zD 0 289 .iaload 1 290 = true := by decide +kernel
theorem zd0_290 : zD 0 290 (.aload_n 0) 1 291 = true := by decide +kernel
theorem zd0_291 : zD 0 291 (.iload 4) 2 293 = true := by decide +kernel
theorem zd0_293 : zDc 0 293 294 (Int32.ofNat 2) = true := by decide +kernel
theorem zd0_294 : zD 0 294 .iadd 1 295 = true := by decide +kernel
theorem zd0_295 : zD 0 295 .iaload 1 296 = true := by decide +kernel
theorem zd0_296 : zDk 0 296 299 99 0 = true := by decide +kernel
theorem zd0_299 : zD 0 299 (.istore 6) 2 301 = true := by decide +kernel
theorem zd0_301 : zD 0 301 (.aload_n 2) 1 302 = true := by decide +kernel
theorem zd0_302 : zDk 0 302 305 83 0 = true := by decide +kernel
theorem zd0_305 : zD 0 305 (.iload 5) 2 307 = true := by decide +kernel
theorem zd0_307 : zDm 0 307 .eq 312 310 = true := by decide +kernel
theorem zd0_310 : zDc 0 310 311 (Int32.ofNat 0) = true := by decide +kernel
theorem zd0_311 : zD 0 311 .ireturn 1 312 = true := by decide +kernel
theorem zd0_312 : zD 0 312 (.iload 5) 2 314 = true := by decide +kernel
theorem zd0_314 : zDf 0 314 .ne 329 317 = true := by decide +kernel
theorem zd0_317 : zD 0 317 (.aload_n 3) 1 318 = true := by decide +kernel
theorem zd0_318 : zDc 0 318 319 (Int32.ofNat 0) = true := by decide +kernel
theorem zd0_319 : zD 0 319 .laload 1 320 = true := by decide +kernel
theorem zd0_320 : zD 0 320 (.iload 6) 2 322 = true := by decide +kernel
theorem zd0_322 : zD 0 322 .i2l 1 323 = true := by decide +kernel
theorem zd0_323 : zD 0 323 .lcmp 1 324 = true := by decide +kernel
theorem zd0_324 : zDf 0 324 .eq 329 327 = true := by decide +kernel
theorem zd0_327 : zDc 0 327 328 (Int32.ofNat 0) = true := by decide +kernel
theorem zd0_328 : zD 0 328 .ireturn 1 329 = true := by decide +kernel
theorem zd0_329 : zDj 0 329 1049 = true := by decide +kernel
theorem zd0_332 : zD 0 332 (.aload_n 1) 1 333 = true := by decide +kernel
theorem zd0_333 : zD 0 333 (.aload_n 0) 1 334 = true := by decide +kernel
theorem zd0_334 : zD 0 334 (.iload 4) 2 336 = true := by decide +kernel
theorem zd0_336 : zDc 0 336 337 (Int32.ofNat 1) = true := by decide +kernel
theorem zd0_337 : zD 0 337 .iadd 1 338 = true := by decide +kernel
theorem zd0_338 : zD 0 338 .iaload 1 339 = true := by decide +kernel
theorem zd0_339 : zD 0 339 (.aload_n 0) 1 340 = true := by decide +kernel
theorem zd0_340 : zD 0 340 (.iload 4) 2 342 = true := by decide +kernel
theorem zd0_342 : zDc 0 342 343 (Int32.ofNat 2) = true := by decide +kernel
theorem zd0_343 : zD 0 343 .iadd 1 344 = true := by decide +kernel
theorem zd0_344 : zD 0 344 .iaload 1 345 = true := by decide +kernel
theorem zd0_345 : zD 0 345 (.aload_n 0) 1 346 = true := by decide +kernel
theorem zd0_346 : zD 0 346 (.iload 4) 2 348 = true := by decide +kernel
theorem zd0_348 : zDc 0 348 349 (Int32.ofNat 3) = true := by decide +kernel
theorem zd0_349 : zD 0 349 .iadd 1 350 = true := by decide +kernel
theorem zd0_350 : zD 0 350 .iaload 1 351 = true := by decide +kernel
theorem zd0_351 : zD 0 351 (.aload_n 3) 1 352 = true := by decide +kernel
theorem zd0_352 : zDk 0 352 355 50 2 = true := by decide +kernel
theorem zd0_355 : zD 0 355 (.istore 5) 2 357 = true := by decide +kernel
theorem zd0_357 : zD 0 357 (.aload_n 2) 1 358 = true := by decide +kernel
theorem zd0_358 : zD 0 358 (.aload_n 0) 1 359 = true := by decide +kernel
theorem zd0_359 : zD 0 359 (.iload 4) 2 361 = true := by decide +kernel
theorem zd0_361 : zDc 0 361 362 (Int32.ofNat 1) = true := by decide +kernel
theorem zd0_362 : zD 0 362 .iadd 1 363 = true := by decide +kernel
theorem zd0_363 : zD 0 363 .iaload 1 364 = true := by decide +kernel
theorem zd0_364 : zD 0 364 (.aload_n 0) 1 365 = true := by decide +kernel
theorem zd0_365 : zD 0 365 (.iload 4) 2 367 = true := by decide +kernel
theorem zd0_367 : zDc 0 367 368 (Int32.ofNat 2) = true := by decide +kernel
theorem zd0_368 : zD 0 368 .iadd 1 369 = true := by decide +kernel
theorem zd0_369 : zD 0 369 .iaload 1 370 = true := by decide +kernel
theorem zd0_370 : zD 0 370 (.aload_n 0) 1 371 = true := by decide +kernel
theorem zd0_371 : zD 0 371 (.iload 4) 2 373 = true := by decide +kernel
theorem zd0_373 : zDc 0 373 374 (Int32.ofNat 3) = true := by decide +kernel
theorem zd0_374 : zD 0 374 .iadd 1 375 = true := by decide +kernel
theorem zd0_375 : zD 0 375 .iaload 1 376 = true := by decide +kernel
theorem zd0_376 : zDk 0 376 379 103 0 = true := by decide +kernel
theorem zd0_379 : zD 0 379 (.istore 6) 2 381 = true := by decide +kernel
theorem zd0_381 : zD 0 381 (.aload_n 2) 1 382 = true := by decide +kernel
theorem zd0_382 : zDk 0 382 385 83 0 = true := by decide +kernel
theorem zd0_385 : zD 0 385 (.iload 5) 2 387 = true := by decide +kernel
theorem zd0_387 : zDm 0 387 .eq 392 390 = true := by decide +kernel
theorem zd0_390 : zDc 0 390 391 (Int32.ofNat 0) = true := by decide +kernel
theorem zd0_391 : zD 0 391 .ireturn 1 392 = true := by decide +kernel
theorem zd0_392 : zD 0 392 (.iload 5) 2 394 = true := by decide +kernel
theorem zd0_394 : zDf 0 394 .ne 409 397 = true := by decide +kernel
theorem zd0_397 : zD 0 397 (.aload_n 3) 1 398 = true := by decide +kernel
theorem zd0_398 : zDc 0 398 399 (Int32.ofNat 0) = true := by decide +kernel
theorem zd0_399 : zD 0 399 .laload 1 400 = true := by decide +kernel
theorem zd0_400 : zD 0 400 (.iload 6) 2 402 = true := by decide +kernel
theorem zd0_402 : zD 0 402 .i2l 1 403 = true := by decide +kernel
theorem zd0_403 : zD 0 403 .lcmp 1 404 = true := by decide +kernel
theorem zd0_404 : zDf 0 404 .eq 409 407 = true := by decide +kernel
theorem zd0_407 : zDc 0 407 408 (Int32.ofNat 0) = true := by decide +kernel
theorem zd0_408 : zD 0 408 .ireturn 1 409 = true := by decide +kernel
theorem zd0_409 : zDj 0 409 1049 = true := by decide +kernel
theorem zd0_412 : zD 0 412 (.aload_n 1) 1 413 = true := by decide +kernel
theorem zd0_413 : zD 0 413 (.aload_n 0) 1 414 = true := by decide +kernel
theorem zd0_414 : zD 0 414 (.iload 4) 2 416 = true := by decide +kernel
theorem zd0_416 : zDc 0 416 417 (Int32.ofNat 1) = true := by decide +kernel
theorem zd0_417 : zD 0 417 .iadd 1 418 = true := by decide +kernel
theorem zd0_418 : zD 0 418 .iaload 1 419 = true := by decide +kernel
theorem zd0_419 : zDk 0 419 422 23 0 = true := by decide +kernel
theorem zd0_422 : zD 0 422 (.aload_n 2) 1 423 = true := by decide +kernel
theorem zd0_423 : zD 0 423 (.aload_n 0) 1 424 = true := by decide +kernel
theorem zd0_424 : zD 0 424 (.iload 4) 2 426 = true := by decide +kernel
theorem zd0_426 : zDc 0 426 427 (Int32.ofNat 1) = true := by decide +kernel
theorem zd0_427 : zD 0 427 .iadd 1 428 = true := by decide +kernel
theorem zd0_428 : zD 0 428 .iaload 1 429 = true := by decide +kernel
theorem zd0_429 : zDk 0 429 432 107 0 = true := by decide +kernel
theorem zd0_432 : zDm 0 432 .eq 1049 435 = true := by decide +kernel
theorem zd0_435 : zDc 0 435 436 (Int32.ofNat 0) = true := by decide +kernel
theorem zd0_436 : zD 0 436 .ireturn 1 437 = true := by decide +kernel
theorem zd0_437 : zD 0 437 (.aload_n 1) 1 438 = true := by decide +kernel
theorem zd0_438 : zDk 0 438 441 26 0 = true := by decide +kernel
theorem zd0_441 : zD 0 441 (.aload_n 2) 1 442 = true := by decide +kernel
theorem zd0_442 : zDk 0 442 445 110 0 = true := by decide +kernel
theorem zd0_445 : zDm 0 445 .eq 1049 448 = true := by decide +kernel
theorem zd0_448 : zDc 0 448 449 (Int32.ofNat 0) = true := by decide +kernel
theorem zd0_449 : zD 0 449 .ireturn 1 450 = true := by decide +kernel
theorem zd0_450 : zD 0 450 (.aload_n 1) 1 451 = true := by decide +kernel
theorem zd0_451 : zD 0 451 (.aload_n 0) 1 452 = true := by decide +kernel
theorem zd0_452 : zD 0 452 (.iload 4) 2 454 = true := by decide +kernel
theorem zd0_454 : zDc 0 454 455 (Int32.ofNat 1) = true := by decide +kernel
theorem zd0_455 : zD 0 455 .iadd 1 456 = true := by decide +kernel
theorem zd0_456 : zD 0 456 .iaload 1 457 = true := by decide +kernel
theorem zd0_457 : zD 0 457 (.aload_n 0) 1 458 = true := by decide +kernel
theorem zd0_458 : zD 0 458 (.iload 4) 2 460 = true := by decide +kernel
theorem zd0_460 : zDc 0 460 461 (Int32.ofNat 2) = true := by decide +kernel
theorem zd0_461 : zD 0 461 .iadd 1 462 = true := by decide +kernel
theorem zd0_462 : zD 0 462 .iaload 1 463 = true := by decide +kernel
theorem zd0_463 : zD 0 463 (.aload_n 0) 1 464 = true := by decide +kernel
theorem zd0_464 : zD 0 464 (.iload 4) 2 466 = true := by decide +kernel
theorem zd0_466 : zDc 0 466 467 (Int32.ofNat 3) = true := by decide +kernel
theorem zd0_467 : zD 0 467 .iadd 1 468 = true := by decide +kernel
theorem zd0_468 : zD 0 468 .iaload 1 469 = true := by decide +kernel
theorem zd0_469 : zD 0 469 (.aload_n 3) 1 470 = true := by decide +kernel
theorem zd0_470 : zDk 0 470 473 58 2 = true := by decide +kernel
theorem zd0_473 : zD 0 473 (.istore 5) 2 475 = true := by decide +kernel
theorem zd0_475 : zD 0 475 (.aload_n 2) 1 476 = true := by decide +kernel
theorem zd0_476 : zD 0 476 (.aload_n 0) 1 477 = true := by decide +kernel
theorem zd0_477 : zD 0 477 (.iload 4) 2 479 = true := by decide +kernel
theorem zd0_479 : zDc 0 479 480 (Int32.ofNat 1) = true := by decide +kernel
theorem zd0_480 : zD 0 480 .iadd 1 481 = true := by decide +kernel
theorem zd0_481 : zD 0 481 .iaload 1 482 = true := by decide +kernel
theorem zd0_482 : zD 0 482 (.aload_n 0) 1 483 = true := by decide +kernel
theorem zd0_483 : zD 0 483 (.iload 4) 2 485 = true := by decide +kernel
theorem zd0_485 : zDc 0 485 486 (Int32.ofNat 2) = true := by decide +kernel
theorem zd0_486 : zD 0 486 .iadd 1 487 = true := by decide +kernel
theorem zd0_487 : zD 0 487 .iaload 1 488 = true := by decide +kernel
theorem zd0_488 : zD 0 488 (.aload_n 0) 1 489 = true := by decide +kernel
theorem zd0_489 : zD 0 489 (.iload 4) 2 491 = true := by decide +kernel
theorem zd0_491 : zDc 0 491 492 (Int32.ofNat 3) = true := by decide +kernel
theorem zd0_492 : zD 0 492 .iadd 1 493 = true := by decide +kernel
theorem zd0_493 : zD 0 493 .iaload 1 494 = true := by decide +kernel
theorem zd0_494 : zDk 0 494 497 112 0 = true := by decide +kernel
theorem zd0_497 : zD 0 497 (.istore 6) 2 499 = true := by decide +kernel
theorem zd0_499 : zD 0 499 (.aload_n 2) 1 500 = true := by decide +kernel
theorem zd0_500 : zDk 0 500 503 83 0 = true := by decide +kernel
theorem zd0_503 : zD 0 503 (.iload 5) 2 505 = true := by decide +kernel
theorem zd0_505 : zDm 0 505 .eq 510 508 = true := by decide +kernel
theorem zd0_508 : zDc 0 508 509 (Int32.ofNat 0) = true := by decide +kernel
theorem zd0_509 : zD 0 509 .ireturn 1 510 = true := by decide +kernel
theorem zd0_510 : zD 0 510 (.iload 5) 2 512 = true := by decide +kernel
theorem zd0_512 : zDf 0 512 .ne 527 515 = true := by decide +kernel
theorem zd0_515 : zD 0 515 (.aload_n 3) 1 516 = true := by decide +kernel
theorem zd0_516 : zDc 0 516 517 (Int32.ofNat 0) = true := by decide +kernel
theorem zd0_517 : zD 0 517 .laload 1 518 = true := by decide +kernel
theorem zd0_518 : zD 0 518 (.iload 6) 2 520 = true := by decide +kernel
theorem zd0_520 : zD 0 520 .i2l 1 521 = true := by decide +kernel
theorem zd0_521 : zD 0 521 .lcmp 1 522 = true := by decide +kernel
theorem zd0_522 : zDf 0 522 .eq 527 525 = true := by decide +kernel
theorem zd0_525 : zDc 0 525 526 (Int32.ofNat 0) = true := by decide +kernel
theorem zd0_526 : zD 0 526 .ireturn 1 527 = true := by decide +kernel
theorem zd0_527 : zDj 0 527 1049 = true := by decide +kernel
theorem zd0_530 : zD 0 530 (.aload_n 1) 1 531 = true := by decide +kernel
theorem zd0_531 : zD 0 531 (.aload_n 0) 1 532 = true := by decide +kernel
theorem zd0_532 : zD 0 532 (.iload 4) 2 534 = true := by decide +kernel
theorem zd0_534 : zDc 0 534 535 (Int32.ofNat 1) = true := by decide +kernel
theorem zd0_535 : zD 0 535 .iadd 1 536 = true := by decide +kernel
theorem zd0_536 : zD 0 536 .iaload 1 537 = true := by decide +kernel
theorem zd0_537 : zD 0 537 (.aload_n 3) 1 538 = true := by decide +kernel
theorem zd0_538 : zDk 0 538 541 62 2 = true := by decide +kernel
theorem zd0_541 : zD 0 541 (.istore 5) 2 543 = true := by decide +kernel
theorem zd0_543 : zD 0 543 (.aload_n 2) 1 544 = true := by decide +kernel
theorem zd0_544 : zD 0 544 (.aload_n 0) 1 545 = true := by decide +kernel
theorem zd0_545 : zD 0 545 (.iload 4) 2 547 = true := by decide +kernel
theorem zd0_547 : zDc 0 547 548 (Int32.ofNat 1) = true := by decide +kernel
theorem zd0_548 : zD 0 548 .iadd 1 549 = true := by decide +kernel
theorem zd0_549 : zD 0 549 .iaload 1 550 = true := by decide +kernel
theorem zd0_550 : zDk 0 550 553 115 0 = true := by decide +kernel
theorem zd0_553 : zD 0 553 (.istore 6) 2 555 = true := by decide +kernel
theorem zd0_555 : zD 0 555 (.aload_n 2) 1 556 = true := by decide +kernel
theorem zd0_556 : zDk 0 556 559 83 0 = true := by decide +kernel
theorem zd0_559 : zD 0 559 (.iload 5) 2 561 = true := by decide +kernel
theorem zd0_561 : zDm 0 561 .eq 566 564 = true := by decide +kernel
theorem zd0_564 : zDc 0 564 565 (Int32.ofNat 0) = true := by decide +kernel
theorem zd0_565 : zD 0 565 .ireturn 1 566 = true := by decide +kernel
theorem zd0_566 : zD 0 566 (.iload 5) 2 568 = true := by decide +kernel
theorem zd0_568 : zDf 0 568 .ne 583 571 = true := by decide +kernel
theorem zd0_571 : zD 0 571 (.aload_n 3) 1 572 = true := by decide +kernel
theorem zd0_572 : zDc 0 572 573 (Int32.ofNat 0) = true := by decide +kernel
theorem zd0_573 : zD 0 573 .laload 1 574 = true := by decide +kernel
theorem zd0_574 : zD 0 574 (.iload 6) 2 576 = true := by decide +kernel
theorem zd0_576 : zD 0 576 .i2l 1 577 = true := by decide +kernel
theorem zd0_577 : zD 0 577 .lcmp 1 578 = true := by decide +kernel
theorem zd0_578 : zDf 0 578 .eq 583 581 = true := by decide +kernel
theorem zd0_581 : zDc 0 581 582 (Int32.ofNat 0) = true := by decide +kernel
theorem zd0_582 : zD 0 582 .ireturn 1 583 = true := by decide +kernel
theorem zd0_583 : zDj 0 583 1049 = true := by decide +kernel
theorem zd0_586 : zD 0 586 (.aload_n 1) 1 587 = true := by decide +kernel
theorem zd0_587 : zD 0 587 (.aload_n 0) 1 588 = true := by decide +kernel
theorem zd0_588 : zD 0 588 (.iload 4) 2 590 = true := by decide +kernel
theorem zd0_590 : zDc 0 590 591 (Int32.ofNat 1) = true := by decide +kernel
theorem zd0_591 : zD 0 591 .iadd 1 592 = true := by decide +kernel
theorem zd0_592 : zD 0 592 .iaload 1 593 = true := by decide +kernel
theorem zd0_593 : zD 0 593 (.aload_n 3) 1 594 = true := by decide +kernel
theorem zd0_594 : zDk 0 594 597 64 2 = true := by decide +kernel
theorem zd0_597 : zD 0 597 (.istore 5) 2 599 = true := by decide +kernel
theorem zd0_599 : zD 0 599 (.aload_n 2) 1 600 = true := by decide +kernel
theorem zd0_600 : zD 0 600 (.aload_n 0) 1 601 = true := by decide +kernel
theorem zd0_601 : zD 0 601 (.iload 4) 2 603 = true := by decide +kernel
theorem zd0_603 : zDc 0 603 604 (Int32.ofNat 1) = true := by decide +kernel
theorem zd0_604 : zD 0 604 .iadd 1 605 = true := by decide +kernel
theorem zd0_605 : zD 0 605 .iaload 1 606 = true := by decide +kernel
theorem zd0_606 : zDk 0 606 609 116 0 = true := by decide +kernel
theorem zd0_609 : zD 0 609 (.istore 6) 2 611 = true := by decide +kernel
theorem zd0_611 : zD 0 611 (.aload_n 2) 1 612 = true := by decide +kernel
theorem zd0_612 : zDk 0 612 615 83 0 = true := by decide +kernel
theorem zd0_615 : zD 0 615 (.iload 5) 2 617 = true := by decide +kernel
theorem zd0_617 : zDm 0 617 .eq 622 620 = true := by decide +kernel
theorem zd0_620 : zDc 0 620 621 (Int32.ofNat 0) = true := by decide +kernel
theorem zd0_621 : zD 0 621 .ireturn 1 622 = true := by decide +kernel
theorem zd0_622 : zD 0 622 (.iload 5) 2 624 = true := by decide +kernel
theorem zd0_624 : zDf 0 624 .ne 639 627 = true := by decide +kernel
theorem zd0_627 : zD 0 627 (.aload_n 3) 1 628 = true := by decide +kernel
theorem zd0_628 : zDc 0 628 629 (Int32.ofNat 0) = true := by decide +kernel
theorem zd0_629 : zD 0 629 .laload 1 630 = true := by decide +kernel
theorem zd0_630 : zD 0 630 (.iload 6) 2 632 = true := by decide +kernel
theorem zd0_632 : zD 0 632 .i2l 1 633 = true := by decide +kernel
theorem zd0_633 : zD 0 633 .lcmp 1 634 = true := by decide +kernel
theorem zd0_634 : zDf 0 634 .eq 639 637 = true := by decide +kernel
theorem zd0_637 : zDc 0 637 638 (Int32.ofNat 0) = true := by decide +kernel
theorem zd0_638 : zD 0 638 .ireturn 1 639 = true := by decide +kernel
theorem zd0_639 : zDj 0 639 1049 = true := by decide +kernel
theorem zd0_642 : zD 0 642 (.aload_n 1) 1 643 = true := by decide +kernel
theorem zd0_643 : zD 0 643 (.aload_n 0) 1 644 = true := by decide +kernel
theorem zd0_644 : zD 0 644 (.iload 4) 2 646 = true := by decide +kernel
theorem zd0_646 : zDc 0 646 647 (Int32.ofNat 1) = true := by decide +kernel
theorem zd0_647 : zD 0 647 .iadd 1 648 = true := by decide +kernel
theorem zd0_648 : zD 0 648 .iaload 1 649 = true := by decide +kernel
theorem zd0_649 : zD 0 649 (.aload_n 0) 1 650 = true := by decide +kernel
theorem zd0_650 : zD 0 650 (.iload 4) 2 652 = true := by decide +kernel
theorem zd0_652 : zDc 0 652 653 (Int32.ofNat 2) = true := by decide +kernel
theorem zd0_653 : zD 0 653 .iadd 1 654 = true := by decide +kernel
theorem zd0_654 : zD 0 654 .iaload 1 655 = true := by decide +kernel
theorem zd0_655 : zD 0 655 (.aload_n 0) 1 656 = true := by decide +kernel
theorem zd0_656 : zD 0 656 (.iload 4) 2 658 = true := by decide +kernel
theorem zd0_658 : zDc 0 658 659 (Int32.ofNat 3) = true := by decide +kernel
theorem zd0_659 : zD 0 659 .iadd 1 660 = true := by decide +kernel
theorem zd0_660 : zD 0 660 .iaload 1 661 = true := by decide +kernel
theorem zd0_661 : zD 0 661 (.aload_n 3) 1 662 = true := by decide +kernel
theorem zd0_662 : zDk 0 662 665 66 2 = true := by decide +kernel
theorem zd0_665 : zD 0 665 (.istore 5) 2 667 = true := by decide +kernel
theorem zd0_667 : zD 0 667 (.aload_n 2) 1 668 = true := by decide +kernel
theorem zd0_668 : zD 0 668 (.aload_n 0) 1 669 = true := by decide +kernel
theorem zd0_669 : zD 0 669 (.iload 4) 2 671 = true := by decide +kernel
theorem zd0_671 : zDc 0 671 672 (Int32.ofNat 1) = true := by decide +kernel
theorem zd0_672 : zD 0 672 .iadd 1 673 = true := by decide +kernel
theorem zd0_673 : zD 0 673 .iaload 1 674 = true := by decide +kernel
theorem zd0_674 : zD 0 674 (.aload_n 0) 1 675 = true := by decide +kernel
theorem zd0_675 : zD 0 675 (.iload 4) 2 677 = true := by decide +kernel
theorem zd0_677 : zDc 0 677 678 (Int32.ofNat 2) = true := by decide +kernel
theorem zd0_678 : zD 0 678 .iadd 1 679 = true := by decide +kernel
theorem zd0_679 : zD 0 679 .iaload 1 680 = true := by decide +kernel
theorem zd0_680 : zD 0 680 (.aload_n 0) 1 681 = true := by decide +kernel
theorem zd0_681 : zD 0 681 (.iload 4) 2 683 = true := by decide +kernel
theorem zd0_683 : zDc 0 683 684 (Int32.ofNat 3) = true := by decide +kernel
theorem zd0_684 : zD 0 684 .iadd 1 685 = true := by decide +kernel
theorem zd0_685 : zD 0 685 .iaload 1 686 = true := by decide +kernel
theorem zd0_686 : zDk 0 686 689 117 0 = true := by decide +kernel
theorem zd0_689 : zD 0 689 (.istore 6) 2 691 = true := by decide +kernel
theorem zd0_691 : zD 0 691 (.aload_n 2) 1 692 = true := by decide +kernel
theorem zd0_692 : zDk 0 692 695 83 0 = true := by decide +kernel
theorem zd0_695 : zD 0 695 (.iload 5) 2 697 = true := by decide +kernel
theorem zd0_697 : zDm 0 697 .eq 702 700 = true := by decide +kernel
theorem zd0_700 : zDc 0 700 701 (Int32.ofNat 0) = true := by decide +kernel
theorem zd0_701 : zD 0 701 .ireturn 1 702 = true := by decide +kernel
theorem zd0_702 : zD 0 702 (.iload 5) 2 704 = true := by decide +kernel
theorem zd0_704 : zDf 0 704 .ne 719 707 = true := by decide +kernel
theorem zd0_707 : zD 0 707 (.aload_n 3) 1 708 = true := by decide +kernel
theorem zd0_708 : zDc 0 708 709 (Int32.ofNat 0) = true := by decide +kernel
theorem zd0_709 : zD 0 709 .laload 1 710 = true := by decide +kernel
theorem zd0_710 : zD 0 710 (.iload 6) 2 712 = true := by decide +kernel
theorem zd0_712 : zD 0 712 .i2l 1 713 = true := by decide +kernel
theorem zd0_713 : zD 0 713 .lcmp 1 714 = true := by decide +kernel
theorem zd0_714 : zDf 0 714 .eq 719 717 = true := by decide +kernel
theorem zd0_717 : zDc 0 717 718 (Int32.ofNat 0) = true := by decide +kernel
theorem zd0_718 : zD 0 718 .ireturn 1 719 = true := by decide +kernel
theorem zd0_719 : zDj 0 719 1049 = true := by decide +kernel
theorem zd0_722 : zD 0 722 (.aload_n 1) 1 723 = true := by decide +kernel
theorem zd0_723 : zD 0 723 (.aload_n 0) 1 724 = true := by decide +kernel
theorem zd0_724 : zD 0 724 (.iload 4) 2 726 = true := by decide +kernel
theorem zd0_726 : zDc 0 726 727 (Int32.ofNat 1) = true := by decide +kernel
theorem zd0_727 : zD 0 727 .iadd 1 728 = true := by decide +kernel
theorem zd0_728 : zD 0 728 .iaload 1 729 = true := by decide +kernel
theorem zd0_729 : zD 0 729 (.aload_n 0) 1 730 = true := by decide +kernel
theorem zd0_730 : zD 0 730 (.iload 4) 2 732 = true := by decide +kernel
theorem zd0_732 : zDc 0 732 733 (Int32.ofNat 2) = true := by decide +kernel
theorem zd0_733 : zD 0 733 .iadd 1 734 = true := by decide +kernel
theorem zd0_734 : zD 0 734 .iaload 1 735 = true := by decide +kernel
theorem zd0_735 : zD 0 735 (.aload_n 0) 1 736 = true := by decide +kernel
theorem zd0_736 : zD 0 736 (.iload 4) 2 738 = true := by decide +kernel
theorem zd0_738 : zDc 0 738 739 (Int32.ofNat 3) = true := by decide +kernel
theorem zd0_739 : zD 0 739 .iadd 1 740 = true := by decide +kernel
theorem zd0_740 : zD 0 740 .iaload 1 741 = true := by decide +kernel
theorem zd0_741 : zD 0 741 (.aload_n 3) 1 742 = true := by decide +kernel
theorem zd0_742 : zDk 0 742 745 70 2 = true := by decide +kernel
theorem zd0_745 : zD 0 745 (.istore 5) 2 747 = true := by decide +kernel
theorem zd0_747 : zD 0 747 (.aload_n 2) 1 748 = true := by decide +kernel
theorem zd0_748 : zD 0 748 (.aload_n 0) 1 749 = true := by decide +kernel
theorem zd0_749 : zD 0 749 (.iload 4) 2 751 = true := by decide +kernel
theorem zd0_751 : zDc 0 751 752 (Int32.ofNat 1) = true := by decide +kernel
theorem zd0_752 : zD 0 752 .iadd 1 753 = true := by decide +kernel
theorem zd0_753 : zD 0 753 .iaload 1 754 = true := by decide +kernel
theorem zd0_754 : zD 0 754 (.aload_n 0) 1 755 = true := by decide +kernel
theorem zd0_755 : zD 0 755 (.iload 4) 2 757 = true := by decide +kernel
theorem zd0_757 : zDc 0 757 758 (Int32.ofNat 2) = true := by decide +kernel
theorem zd0_758 : zD 0 758 .iadd 1 759 = true := by decide +kernel
theorem zd0_759 : zD 0 759 .iaload 1 760 = true := by decide +kernel
theorem zd0_760 : zD 0 760 (.aload_n 0) 1 761 = true := by decide +kernel
theorem zd0_761 : zD 0 761 (.iload 4) 2 763 = true := by decide +kernel
theorem zd0_763 : zDc 0 763 764 (Int32.ofNat 3) = true := by decide +kernel
theorem zd0_764 : zD 0 764 .iadd 1 765 = true := by decide +kernel
theorem zd0_765 : zD 0 765 .iaload 1 766 = true := by decide +kernel
theorem zd0_766 : zDk 0 766 769 101 0 = true := by decide +kernel
theorem zd0_769 : zD 0 769 (.istore 6) 2 771 = true := by decide +kernel
theorem zd0_771 : zD 0 771 (.aload_n 2) 1 772 = true := by decide +kernel
theorem zd0_772 : zDk 0 772 775 83 0 = true := by decide +kernel
theorem zd0_775 : zD 0 775 (.iload 5) 2 777 = true := by decide +kernel
theorem zd0_777 : zDm 0 777 .eq 782 780 = true := by decide +kernel
theorem zd0_780 : zDc 0 780 781 (Int32.ofNat 0) = true := by decide +kernel
theorem zd0_781 : zD 0 781 .ireturn 1 782 = true := by decide +kernel
theorem zd0_782 : zD 0 782 (.iload 5) 2 784 = true := by decide +kernel
theorem zd0_784 : zDf 0 784 .ne 799 787 = true := by decide +kernel
theorem zd0_787 : zD 0 787 (.aload_n 3) 1 788 = true := by decide +kernel
theorem zd0_788 : zDc 0 788 789 (Int32.ofNat 0) = true := by decide +kernel
theorem zd0_789 : zD 0 789 .laload 1 790 = true := by decide +kernel
theorem zd0_790 : zD 0 790 (.iload 6) 2 792 = true := by decide +kernel
theorem zd0_792 : zD 0 792 .i2l 1 793 = true := by decide +kernel
theorem zd0_793 : zD 0 793 .lcmp 1 794 = true := by decide +kernel
theorem zd0_794 : zDf 0 794 .eq 799 797 = true := by decide +kernel
theorem zd0_797 : zDc 0 797 798 (Int32.ofNat 0) = true := by decide +kernel
theorem zd0_798 : zD 0 798 .ireturn 1 799 = true := by decide +kernel
theorem zd0_799 : zDj 0 799 1049 = true := by decide +kernel
theorem zd0_802 : zD 0 802 (.aload_n 1) 1 803 = true := by decide +kernel
theorem zd0_803 : zD 0 803 (.aload_n 0) 1 804 = true := by decide +kernel
theorem zd0_804 : zD 0 804 (.iload 4) 2 806 = true := by decide +kernel
theorem zd0_806 : zDc 0 806 807 (Int32.ofNat 1) = true := by decide +kernel
theorem zd0_807 : zD 0 807 .iadd 1 808 = true := by decide +kernel
theorem zd0_808 : zD 0 808 .iaload 1 809 = true := by decide +kernel
theorem zd0_809 : zD 0 809 (.aload_n 0) 1 810 = true := by decide +kernel
theorem zd0_810 : zD 0 810 (.iload 4) 2 812 = true := by decide +kernel
theorem zd0_812 : zDc 0 812 813 (Int32.ofNat 2) = true := by decide +kernel
theorem zd0_813 : zD 0 813 .iadd 1 814 = true := by decide +kernel
theorem zd0_814 : zD 0 814 .iaload 1 815 = true := by decide +kernel
theorem zd0_815 : zD 0 815 (.aload_n 0) 1 816 = true := by decide +kernel
theorem zd0_816 : zD 0 816 (.iload 4) 2 818 = true := by decide +kernel
theorem zd0_818 : zDc 0 818 819 (Int32.ofNat 3) = true := by decide +kernel
theorem zd0_819 : zD 0 819 .iadd 1 820 = true := by decide +kernel
theorem zd0_820 : zD 0 820 .iaload 1 821 = true := by decide +kernel
theorem zd0_821 : zD 0 821 (.aload_n 3) 1 822 = true := by decide +kernel
theorem zd0_822 : zDk 0 822 825 72 2 = true := by decide +kernel
theorem zd0_825 : zD 0 825 (.istore 5) 2 827 = true := by decide +kernel
theorem zd0_827 : zD 0 827 (.aload_n 2) 1 828 = true := by decide +kernel
theorem zd0_828 : zD 0 828 (.aload_n 0) 1 829 = true := by decide +kernel
theorem zd0_829 : zD 0 829 (.iload 4) 2 831 = true := by decide +kernel
theorem zd0_831 : zDc 0 831 832 (Int32.ofNat 1) = true := by decide +kernel
theorem zd0_832 : zD 0 832 .iadd 1 833 = true := by decide +kernel
theorem zd0_833 : zD 0 833 .iaload 1 834 = true := by decide +kernel
theorem zd0_834 : zD 0 834 (.aload_n 0) 1 835 = true := by decide +kernel
theorem zd0_835 : zD 0 835 (.iload 4) 2 837 = true := by decide +kernel
theorem zd0_837 : zDc 0 837 838 (Int32.ofNat 2) = true := by decide +kernel
theorem zd0_838 : zD 0 838 .iadd 1 839 = true := by decide +kernel
theorem zd0_839 : zD 0 839 .iaload 1 840 = true := by decide +kernel
theorem zd0_840 : zD 0 840 (.aload_n 0) 1 841 = true := by decide +kernel
theorem zd0_841 : zD 0 841 (.iload 4) 2 843 = true := by decide +kernel
theorem zd0_843 : zDc 0 843 844 (Int32.ofNat 3) = true := by decide +kernel
theorem zd0_844 : zD 0 844 .iadd 1 845 = true := by decide +kernel
theorem zd0_845 : zD 0 845 .iaload 1 846 = true := by decide +kernel
theorem zd0_846 : zDk 0 846 849 118 0 = true := by decide +kernel
theorem zd0_849 : zD 0 849 (.istore 6) 2 851 = true := by decide +kernel
theorem zd0_851 : zD 0 851 (.aload_n 2) 1 852 = true := by decide +kernel
theorem zd0_852 : zDk 0 852 855 83 0 = true := by decide +kernel
theorem zd0_855 : zD 0 855 (.iload 5) 2 857 = true := by decide +kernel
theorem zd0_857 : zDm 0 857 .eq 862 860 = true := by decide +kernel
theorem zd0_860 : zDc 0 860 861 (Int32.ofNat 0) = true := by decide +kernel
theorem zd0_861 : zD 0 861 .ireturn 1 862 = true := by decide +kernel
theorem zd0_862 : zD 0 862 (.iload 5) 2 864 = true := by decide +kernel
theorem zd0_864 : zDf 0 864 .ne 879 867 = true := by decide +kernel
theorem zd0_867 : zD 0 867 (.aload_n 3) 1 868 = true := by decide +kernel
theorem zd0_868 : zDc 0 868 869 (Int32.ofNat 0) = true := by decide +kernel
theorem zd0_869 : zD 0 869 .laload 1 870 = true := by decide +kernel
theorem zd0_870 : zD 0 870 (.iload 6) 2 872 = true := by decide +kernel
theorem zd0_872 : zD 0 872 .i2l 1 873 = true := by decide +kernel
theorem zd0_873 : zD 0 873 .lcmp 1 874 = true := by decide +kernel
theorem zd0_874 : zDf 0 874 .eq 879 877 = true := by decide +kernel
theorem zd0_877 : zDc 0 877 878 (Int32.ofNat 0) = true := by decide +kernel
theorem zd0_878 : zD 0 878 .ireturn 1 879 = true := by decide +kernel
theorem zd0_879 : zDj 0 879 1049 = true := by decide +kernel
theorem zd0_882 : zD 0 882 (.aload_n 1) 1 883 = true := by decide +kernel
theorem zd0_883 : zD 0 883 (.aload_n 0) 1 884 = true := by decide +kernel
theorem zd0_884 : zD 0 884 (.iload 4) 2 886 = true := by decide +kernel
theorem zd0_886 : zDc 0 886 887 (Int32.ofNat 1) = true := by decide +kernel
theorem zd0_887 : zD 0 887 .iadd 1 888 = true := by decide +kernel
theorem zd0_888 : zD 0 888 .iaload 1 889 = true := by decide +kernel
theorem zd0_889 : zD 0 889 (.aload_n 0) 1 890 = true := by decide +kernel
theorem zd0_890 : zD 0 890 (.iload 4) 2 892 = true := by decide +kernel
theorem zd0_892 : zDc 0 892 893 (Int32.ofNat 2) = true := by decide +kernel
theorem zd0_893 : zD 0 893 .iadd 1 894 = true := by decide +kernel
theorem zd0_894 : zD 0 894 .iaload 1 895 = true := by decide +kernel
theorem zd0_895 : zD 0 895 (.aload_n 3) 1 896 = true := by decide +kernel
theorem zd0_896 : zDk 0 896 899 74 2 = true := by decide +kernel
theorem zd0_899 : zD 0 899 (.istore 5) 2 901 = true := by decide +kernel
theorem zd0_901 : zD 0 901 (.aload_n 2) 1 902 = true := by decide +kernel
theorem zd0_902 : zD 0 902 (.aload_n 0) 1 903 = true := by decide +kernel
theorem zd0_903 : zD 0 903 (.iload 4) 2 905 = true := by decide +kernel
theorem zd0_905 : zDc 0 905 906 (Int32.ofNat 1) = true := by decide +kernel
theorem zd0_906 : zD 0 906 .iadd 1 907 = true := by decide +kernel
theorem zd0_907 : zD 0 907 .iaload 1 908 = true := by decide +kernel
theorem zd0_908 : zD 0 908 (.aload_n 0) 1 909 = true := by decide +kernel
theorem zd0_909 : zD 0 909 (.iload 4) 2 911 = true := by decide +kernel
theorem zd0_911 : zDc 0 911 912 (Int32.ofNat 2) = true := by decide +kernel
theorem zd0_912 : zD 0 912 .iadd 1 913 = true := by decide +kernel
theorem zd0_913 : zD 0 913 .iaload 1 914 = true := by decide +kernel
theorem zd0_914 : zDk 0 914 917 109 0 = true := by decide +kernel
theorem zd0_917 : zD 0 917 (.istore 6) 2 919 = true := by decide +kernel
theorem zd0_919 : zD 0 919 (.aload_n 2) 1 920 = true := by decide +kernel
theorem zd0_920 : zDk 0 920 923 83 0 = true := by decide +kernel
theorem zd0_923 : zD 0 923 (.iload 5) 2 925 = true := by decide +kernel
theorem zd0_925 : zDm 0 925 .eq 930 928 = true := by decide +kernel
theorem zd0_928 : zDc 0 928 929 (Int32.ofNat 0) = true := by decide +kernel
theorem zd0_929 : zD 0 929 .ireturn 1 930 = true := by decide +kernel
theorem zd0_930 : zD 0 930 (.iload 5) 2 932 = true := by decide +kernel
theorem zd0_932 : zDf 0 932 .ne 954 935 = true := by decide +kernel
theorem zd0_935 : zD 0 935 (.aload_n 3) 1 936 = true := by decide +kernel
theorem zd0_936 : zDc 0 936 937 (Int32.ofNat 0) = true := by decide +kernel
theorem zd0_937 : zD 0 937 .laload 1 938 = true := by decide +kernel
theorem zd0_938 : zD 0 938 (.iload 6) 2 940 = true := by decide +kernel
theorem zd0_940 : zDf 0 940 .eq 947 943 = true := by decide +kernel
theorem zd0_943 : zDC 0 943 944 (1) = true := by decide +kernel
theorem zd0_944 : zDj 0 944 948 = true := by decide +kernel
theorem zd0_947 : zDC 0 947 948 (0) = true := by decide +kernel
theorem zd0_948 : zD 0 948 .lcmp 1 949 = true := by decide +kernel
theorem zd0_949 : zDf 0 949 .eq 954 952 = true := by decide +kernel
theorem zd0_952 : zDc 0 952 953 (Int32.ofNat 0) = true := by decide +kernel
theorem zd0_953 : zD 0 953 .ireturn 1 954 = true := by decide +kernel
theorem zd0_954 : zDj 0 954 1049 = true := by decide +kernel
theorem zd0_957 : zD 0 957 (.aload_n 1) 1 958 = true := by decide +kernel
theorem zd0_958 : zD 0 958 (.aload_n 0) 1 959 = true := by decide +kernel
theorem zd0_959 : zD 0 959 (.iload 4) 2 961 = true := by decide +kernel
theorem zd0_961 : zDc 0 961 962 (Int32.ofNat 1) = true := by decide +kernel
theorem zd0_962 : zD 0 962 .iadd 1 963 = true := by decide +kernel
theorem zd0_963 : zD 0 963 .iaload 1 964 = true := by decide +kernel
theorem zd0_964 : zD 0 964 (.aload_n 0) 1 965 = true := by decide +kernel
theorem zd0_965 : zD 0 965 (.iload 4) 2 967 = true := by decide +kernel
theorem zd0_967 : zDc 0 967 968 (Int32.ofNat 2) = true := by decide +kernel
theorem zd0_968 : zD 0 968 .iadd 1 969 = true := by decide +kernel
theorem zd0_969 : zD 0 969 .iaload 1 970 = true := by decide +kernel
theorem zd0_970 : zD 0 970 (.aload_n 3) 1 971 = true := by decide +kernel
theorem zd0_971 : zDk 0 971 974 77 2 = true := by decide +kernel
theorem zd0_974 : zD 0 974 (.istore 5) 2 976 = true := by decide +kernel
theorem zd0_976 : zD 0 976 (.aload_n 2) 1 977 = true := by decide +kernel
theorem zd0_977 : zD 0 977 (.aload_n 0) 1 978 = true := by decide +kernel
theorem zd0_978 : zD 0 978 (.iload 4) 2 980 = true := by decide +kernel
theorem zd0_980 : zDc 0 980 981 (Int32.ofNat 1) = true := by decide +kernel
theorem zd0_981 : zD 0 981 .iadd 1 982 = true := by decide +kernel
theorem zd0_982 : zD 0 982 .iaload 1 983 = true := by decide +kernel
theorem zd0_983 : zD 0 983 (.aload_n 0) 1 984 = true := by decide +kernel
theorem zd0_984 : zD 0 984 (.iload 4) 2 986 = true := by decide +kernel
theorem zd0_986 : zDc 0 986 987 (Int32.ofNat 2) = true := by decide +kernel
theorem zd0_987 : zD 0 987 .iadd 1 988 = true := by decide +kernel
theorem zd0_988 : zD 0 988 .iaload 1 989 = true := by decide +kernel
theorem zd0_989 : zDk 0 989 992 120 0 = true := by decide +kernel
theorem zd0_992 : zD 0 992 (.istore 6) 2 994 = true := by decide +kernel
theorem zd0_994 : zD 0 994 (.aload_n 2) 1 995 = true := by decide +kernel
theorem zd0_995 : zDk 0 995 998 83 0 = true := by decide +kernel
theorem zd0_998 : zD 0 998 (.iload 5) 2 1000 = true := by decide +kernel
theorem zd0_1000 : zDm 0 1000 .eq 1005 1003 = true := by decide +kernel
theorem zd0_1003 : zDc 0 1003 1004 (Int32.ofNat 0) = true := by decide +kernel
theorem zd0_1004 : zD 0 1004 .ireturn 1 1005 = true := by decide +kernel
theorem zd0_1005 : zD 0 1005 (.iload 5) 2 1007 = true := by decide +kernel
theorem zd0_1007 : zDf 0 1007 .ne 1022 1010 = true := by decide +kernel
theorem zd0_1010 : zD 0 1010 (.aload_n 3) 1 1011 = true := by decide +kernel
theorem zd0_1011 : zDc 0 1011 1012 (Int32.ofNat 0) = true := by decide +kernel
theorem zd0_1012 : zD 0 1012 .laload 1 1013 = true := by decide +kernel
theorem zd0_1013 : zD 0 1013 (.iload 6) 2 1015 = true := by decide +kernel
theorem zd0_1015 : zD 0 1015 .i2l 1 1016 = true := by decide +kernel
theorem zd0_1016 : zD 0 1016 .lcmp 1 1017 = true := by decide +kernel
theorem zd0_1017 : zDf 0 1017 .eq 1022 1020 = true := by decide +kernel
theorem zd0_1020 : zDc 0 1020 1021 (Int32.ofNat 0) = true := by decide +kernel
theorem zd0_1021 : zD 0 1021 .ireturn 1 1022 = true := by decide +kernel
theorem zd0_1022 : zDj 0 1022 1049 = true := by decide +kernel
theorem zd0_1025 : zD 0 1025 (.aload_n 1) 1 1026 = true := by decide +kernel
theorem zd0_1026 : zDk 0 1026 1029 35 0 = true := by decide +kernel
theorem zd0_1029 : zD 0 1029 (.aload_n 2) 1 1030 = true := by decide +kernel
theorem zd0_1030 : zDk 0 1030 1033 98 0 = true := by decide +kernel
theorem zd0_1033 : zDm 0 1033 .eq 1049 1036 = true := by decide +kernel
theorem zd0_1036 : zDc 0 1036 1037 (Int32.ofNat 0) = true := by decide +kernel
theorem zd0_1037 : zD 0 1037 .ireturn 1 1038 = true := by decide +kernel
theorem zd0_1038 : zD 0 1038 (.aload_n 1) 1 1039 = true := by decide +kernel
theorem zd0_1039 : zDk 0 1039 1042 36 0 = true := by decide +kernel
theorem zd0_1042 : zD 0 1042 (.aload_n 2) 1 1043 = true := by decide +kernel
theorem zd0_1043 : zDk 0 1043 1046 108 0 = true := by decide +kernel
theorem zd0_1046 : zDj 0 1046 1049 = true := by decide +kernel
theorem zd0_1049 : zDi 0 1049 1052 4 (Int32.ofNat 4) = true := by decide +kernel
theorem zd0_1052 : zDj 0 1052 23 = true := by decide +kernel
theorem zd0_1055 : zDc 0 1055 1056 (Int32.ofNat 1) = true := by decide +kernel
theorem zd0_1056 : zD 0 1056 .ireturn 1 1057 = true := by decide +kernel
end
section
/-! SHA-256, as both sides do it: the words spread, the rounds, a block -/
def zush (x y : Int32) : Int32 := (x.toUInt32 >>> (y.toUInt32 &&& Int32.toUInt32 31)).toInt32
def zshl (x y : Int32) : Int32 := x <<< (y &&& 31)
def zturn (x y : Int32) : Int32 := zush x y ||| zshl x (Int32.ofNat 32 - y)
def zs0 (x : Int32) : Int32 := zturn x (Int32.ofNat 7) ^^^ zturn x (Int32.ofNat 18) ^^^ zush x (Int32.ofNat 3)
def zs1 (x : Int32) : Int32 := zturn x (Int32.ofNat 17) ^^^ zturn x (Int32.ofNat 19) ^^^ zush x (Int32.ofNat 10)
def zex (w : Nat → Int32) (k : Nat) : Int32 := w (k - 16) + zs0 (w (k - 15)) + w (k - 7) + zs1 (w (k - 2))
/-- a place of a row is set; a row of the table is -/
def zup {α : Type} (f : Nat → α) (k : Nat) (v : α) : Nat → α := fun j => if j = k then v else f j
def zrw {α : Type} (I : Nat → Nat → α) (a : Nat) (f : Nat → α) : Nat → Nat → α := fun b => if b = a then f else I b
theorem zu_rw {α : Type} (I : Nat → Nat → α) (a k : Nat) (v : α) : zu I a k v = zrw I a (zup (I a) k v) := by
  funext b j
  unfold zu zrw zup
  by_cases hb : b = a
  · subst hb
    rw [if_pos rfl]
    by_cases hj : j = k
    · rw [if_pos ⟨rfl, hj⟩, if_pos hj]
    · rw [if_neg (fun h => hj h.2), if_neg hj]
  · rw [if_neg (fun h => hb h.1), if_neg hb]
theorem zrw_at {α : Type} (I : Nat → Nat → α) (a : Nat) (f : Nat → α) : zrw I a f a = f := if_pos rfl
theorem zrw_ne {α : Type} (I : Nat → Nat → α) {a b : Nat} (f : Nat → α) (h : b ≠ a) : zrw I a f b = I b := if_neg h
theorem zrw_rw {α : Type} (I : Nat → Nat → α) (a : Nat) (f g : Nat → α) : zrw (zrw I a f) a g = zrw I a g := by
  funext b
  unfold zrw
  by_cases hb : b = a
  · rw [if_pos hb, if_pos hb]
  · rw [if_neg hb, if_neg hb, if_neg hb]
theorem zrw_id {α : Type} (I : Nat → Nat → α) (a : Nat) : zrw I a (I a) = I := by
  funext b
  unfold zrw
  by_cases hb : b = a
  · rw [if_pos hb, hb]
  · rw [if_neg hb]
theorem zup_at {α : Type} (f : Nat → α) (k : Nat) (v : α) : zup f k v k = v := if_pos rfl
theorem zup_ne {α : Type} (f : Nat → α) {k j : Nat} (v : α) (h : j ≠ k) : zup f k v j = f j := if_neg h
def zsch (w : Nat → Int32) : Nat → Nat → Int32
  | 0 => w
  | n + 1 => zup (zsch w n) (16 + n) (zex (zsch w n) (16 + n))
def zhi (e : Int32) : Int32 := zturn e (Int32.ofNat 6) ^^^ zturn e (Int32.ofNat 11) ^^^ zturn e (Int32.ofNat 25)
def zlw (a : Int32) : Int32 := zturn a (Int32.ofNat 2) ^^^ zturn a (Int32.ofNat 13) ^^^ zturn a (Int32.ofNat 22)
def zch (e f g : Int32) : Int32 := e &&& f ^^^ (e ^^^ (-1)) &&& g
def zmj (a b c : Int32) : Int32 := a &&& b ^^^ a &&& c ^^^ b &&& c
def zfs (v : Nat → Int32) (k w : Int32) : Int32 := v 7 + zhi (v 4) + zch (v 4) (v 5) (v 6) + k + w
/-- a round -/
def zrd (v : Nat → Int32) (k w : Int32) : Nat → Int32
  | 0 => zfs v k w + zlw (v 0) + zmj (v 0) (v 1) (v 2)
  | 4 => v 3 + zfs v k w
  | j + 1 => v j
def zrds (v K w : Nat → Int32) : Nat → Nat → Int32
  | 0 => v
  | n + 1 => zrd (zrds v K w n) (K n) (w n)
/-- a block into the state -/
def zcomp (s K w : Nat → Int32) : Nat → Int32 := fun j => if j < 8 then s j + zrds s K w 64 j else s j
theorem zn_63 (x : Nat) : x &&& 63 = x % 64 := Nat.and_two_pow_sub_one_eq_mod x 6
theorem zn_3 (x : Nat) : x &&& 3 = x % 4 := Nat.and_two_pow_sub_one_eq_mod x 2
theorem zn_s2 (x : Nat) : x >>> 2 = x / 4 := Nat.shiftRight_eq_div_pow x 2
section ZSHA
variable {L N U : Nat} {I : zI} {J : zJ} {R : zR}
theorem zc_turn (L : Nat) (x y : Int32) (h : zHp) : zRet L 10 [.int x, .int y] h (some (.int (zturn x y))) h := by
  show zW L 10 0 [some (.int x), some (.int y)] [] h _
  refine zx_il0 zd10_0 ?_
  refine zx_il1 zd10_1 ?_
  refine zx_ushr zd10_2 ?_
  refine zx_il0 zd10_3 ?_
  refine zx_c zd10_4 ?_
  refine zx_il1 zd10_6 ?_
  first | ((with_reducible refine zx_subN zd10_7 ?h7 ?_); (case h7 => omega)) | refine zx_sub zd10_7 ?_
  refine zx_shl zd10_8 ?_
  refine zx_or zd10_9 ?_
  refine zx_iret zd10_10 (Or.inl rfl) ?_
  exact ⟨rfl, rfl⟩
theorem zc_spread0 (h1 : R 4 1 = some 6) (hN : 6 < N) : ∀ (m n : Nat) (l2 l3 l4 l5 : Option Value), n + m = 48 →
    zW L 9 3 [some (.ref 4), some (.int (Int32.ofNat (16 + n))), l2, l3, l4, l5] [] (N, U, zrw I 6 (zsch (I 6) n), J, R) (fun o k => o = .inl none ∧ k = (N, U, zrw I 6 (zsch (I 6) 48), J, R)) := by
  intro m
  induction m with
  | zero =>
    intro n l2 l3 l4 l5 hn
    obtain rfl : n = 48 := by omega
    refine zx_il1 zd9_3 ?_
    refine zx_al0 zd9_4 ?_
    (refine' zx_gfA zd9_5 ?k13 ?r13 ?_); (case k13 => first | exact zkk rfl (by omega) | exact zkk (zK_B0 (by omega)) (by omega) | exact zkk ((zK_B (by omega) (by decide)).trans rfl) (by omega) | exact zkk (zK_row (by omega) (by omega)) (by omega) | exact zkk (zK_file (by omega) (by omega)) (by omega) | exact zkk (zK_byte (by omega) (by omega)) (by omega) | exact zkk (zK_list (by omega)) (by omega) | assumption); (case r13 => first | exact hR _ _ _ rfl | assumption)
    (refine' zx_alen zd9_8 ?k14 ?_); (case k14 => first | exact zkk rfl (by omega) | exact zkk (zK_B0 (by omega)) (by omega) | exact zkk ((zK_B (by omega) (by decide)).trans rfl) (by omega) | exact zkk (zK_row (by omega) (by omega)) (by omega) | exact zkk (zK_file (by omega) (by omega)) (by omega) | exact zkk (zK_byte (by omega) (by omega)) (by omega) | exact zkk (zK_list (by omega)) (by omega) | assumption)
    first | ((with_reducible refine zx_icmpgeN zd9_9 ?s15 (fun hc => ?_) (fun hc => ?_)); (case s15 => omega)) | refine zx_icmpge zd9_9 (fun hc => ?_) (fun hc => ?_)
    · refine zx_vret zd9_107 rfl ?_
      exact ⟨rfl, rfl⟩
    · omega
  | succ m ih =>
    intro n l2 l3 l4 l5 hn
    refine zx_il1 zd9_3 ?_
    refine zx_al0 zd9_4 ?_
    (refine' zx_gfA zd9_5 ?k19 ?r19 ?_); (case k19 => first | exact zkk rfl (by omega) | exact zkk (zK_B0 (by omega)) (by omega) | exact zkk ((zK_B (by omega) (by decide)).trans rfl) (by omega) | exact zkk (zK_row (by omega) (by omega)) (by omega) | exact zkk (zK_file (by omega) (by omega)) (by omega) | exact zkk (zK_byte (by omega) (by omega)) (by omega) | exact zkk (zK_list (by omega)) (by omega) | assumption); (case r19 => first | exact hR _ _ _ rfl | assumption)
    (refine' zx_alen zd9_8 ?k20 ?_); (case k20 => first | exact zkk rfl (by omega) | exact zkk (zK_B0 (by omega)) (by omega) | exact zkk ((zK_B (by omega) (by decide)).trans rfl) (by omega) | exact zkk (zK_row (by omega) (by omega)) (by omega) | exact zkk (zK_file (by omega) (by omega)) (by omega) | exact zkk (zK_byte (by omega) (by omega)) (by omega) | exact zkk (zK_list (by omega)) (by omega) | assumption)
    first | ((with_reducible refine zx_icmpgeN zd9_9 ?s21 (fun hc => ?_) (fun hc => ?_)); (case s21 => omega)) | refine zx_icmpge zd9_9 (fun hc => ?_) (fun hc => ?_)
    · omega
    · refine zx_al0 zd9_12 ?_
      (refine' zx_gfA zd9_13 ?k23 ?r23 ?_); (case k23 => first | exact zkk rfl (by omega) | exact zkk (zK_B0 (by omega)) (by omega) | exact zkk ((zK_B (by omega) (by decide)).trans rfl) (by omega) | exact zkk (zK_row (by omega) (by omega)) (by omega) | exact zkk (zK_file (by omega) (by omega)) (by omega) | exact zkk (zK_byte (by omega) (by omega)) (by omega) | exact zkk (zK_list (by omega)) (by omega) | assumption); (case r23 => first | exact hR _ _ _ rfl | assumption)
      refine zx_il1 zd9_16 ?_
      refine zx_c zd9_17 ?_
      first | ((with_reducible refine zx_subN zd9_19 ?h26 ?_); (case h26 => omega)) | refine zx_sub zd9_19 ?_
      (with_reducible refine' zx_ialdN zd9_20 ?k27 ?j27 ?_); (case k27 => first | exact zkk rfl (by omega) | exact zkk (zK_B0 (by omega)) (by omega) | exact zkk ((zK_B (by omega) (by decide)).trans rfl) (by omega) | exact zkk (zK_row (by omega) (by omega)) (by omega) | exact zkk (zK_file (by omega) (by omega)) (by omega) | exact zkk (zK_byte (by omega) (by omega)) (by omega) | exact zkk (zK_list (by omega)) (by omega) | assumption); (case j27 => omega)
      refine zx_is2 zd9_21 rfl ?_
      refine zx_al0 zd9_22 ?_
      (refine' zx_gfA zd9_23 ?k30 ?r30 ?_); (case k30 => first | exact zkk rfl (by omega) | exact zkk (zK_B0 (by omega)) (by omega) | exact zkk ((zK_B (by omega) (by decide)).trans rfl) (by omega) | exact zkk (zK_row (by omega) (by omega)) (by omega) | exact zkk (zK_file (by omega) (by omega)) (by omega) | exact zkk (zK_byte (by omega) (by omega)) (by omega) | exact zkk (zK_list (by omega)) (by omega) | assumption); (case r30 => first | exact hR _ _ _ rfl | assumption)
      refine zx_il1 zd9_26 ?_
      refine zx_c zd9_27 ?_
      first | ((with_reducible refine zx_subN zd9_28 ?h33 ?_); (case h33 => omega)) | refine zx_sub zd9_28 ?_
      (with_reducible refine' zx_ialdN zd9_29 ?k34 ?j34 ?_); (case k34 => first | exact zkk rfl (by omega) | exact zkk (zK_B0 (by omega)) (by omega) | exact zkk ((zK_B (by omega) (by decide)).trans rfl) (by omega) | exact zkk (zK_row (by omega) (by omega)) (by omega) | exact zkk (zK_file (by omega) (by omega)) (by omega) | exact zkk (zK_byte (by omega) (by omega)) (by omega) | exact zkk (zK_list (by omega)) (by omega) | assumption); (case j34 => omega)
      refine zx_is3 zd9_30 rfl ?_
      refine zx_il2 zd9_31 ?_
      refine zx_c zd9_32 ?_
      refine zx_cs2I zd9_34 (zc_turn _ _ _ _) ?_
      refine zx_il2 zd9_37 ?_
      refine zx_c zd9_38 ?_
      refine zx_cs2I zd9_40 (zc_turn _ _ _ _) ?_
      first | with_reducible refine zx_xorN zd9_43 ?_ | refine zx_xor zd9_43 ?_
      refine zx_il2 zd9_44 ?_
      refine zx_c zd9_45 ?_
      refine zx_ushr zd9_46 ?_
      first | with_reducible refine zx_xorN zd9_47 ?_ | refine zx_xor zd9_47 ?_
      refine zx_is4 zd9_48 rfl ?_
      refine zx_il3 zd9_50 ?_
      refine zx_c zd9_51 ?_
      refine zx_cs2I zd9_53 (zc_turn _ _ _ _) ?_
      refine zx_il3 zd9_56 ?_
      refine zx_c zd9_57 ?_
      refine zx_cs2I zd9_59 (zc_turn _ _ _ _) ?_
      first | with_reducible refine zx_xorN zd9_62 ?_ | refine zx_xor zd9_62 ?_
      refine zx_il3 zd9_63 ?_
      refine zx_c zd9_64 ?_
      refine zx_ushr zd9_66 ?_
      first | with_reducible refine zx_xorN zd9_67 ?_ | refine zx_xor zd9_67 ?_
      refine zx_is5 zd9_68 rfl ?_
      refine zx_al0 zd9_70 ?_
      (refine' zx_gfA zd9_71 ?k61 ?r61 ?_); (case k61 => first | exact zkk rfl (by omega) | exact zkk (zK_B0 (by omega)) (by omega) | exact zkk ((zK_B (by omega) (by decide)).trans rfl) (by omega) | exact zkk (zK_row (by omega) (by omega)) (by omega) | exact zkk (zK_file (by omega) (by omega)) (by omega) | exact zkk (zK_byte (by omega) (by omega)) (by omega) | exact zkk (zK_list (by omega)) (by omega) | assumption); (case r61 => first | exact hR _ _ _ rfl | assumption)
      refine zx_il1 zd9_74 ?_
      refine zx_al0 zd9_75 ?_
      (refine' zx_gfA zd9_76 ?k64 ?r64 ?_); (case k64 => first | exact zkk rfl (by omega) | exact zkk (zK_B0 (by omega)) (by omega) | exact zkk ((zK_B (by omega) (by decide)).trans rfl) (by omega) | exact zkk (zK_row (by omega) (by omega)) (by omega) | exact zkk (zK_file (by omega) (by omega)) (by omega) | exact zkk (zK_byte (by omega) (by omega)) (by omega) | exact zkk (zK_list (by omega)) (by omega) | assumption); (case r64 => first | exact hR _ _ _ rfl | assumption)
      refine zx_il1 zd9_79 ?_
      refine zx_c zd9_80 ?_
      first | ((with_reducible refine zx_subN zd9_82 ?h67 ?_); (case h67 => omega)) | refine zx_sub zd9_82 ?_
      (with_reducible refine' zx_ialdN zd9_83 ?k68 ?j68 ?_); (case k68 => first | exact zkk rfl (by omega) | exact zkk (zK_B0 (by omega)) (by omega) | exact zkk ((zK_B (by omega) (by decide)).trans rfl) (by omega) | exact zkk (zK_row (by omega) (by omega)) (by omega) | exact zkk (zK_file (by omega) (by omega)) (by omega) | exact zkk (zK_byte (by omega) (by omega)) (by omega) | exact zkk (zK_list (by omega)) (by omega) | assumption); (case j68 => omega)
      refine zx_il4 zd9_84 ?_
      first | with_reducible refine zx_addN zd9_86 ?_ | refine zx_add zd9_86 ?_
      refine zx_al0 zd9_87 ?_
      (refine' zx_gfA zd9_88 ?k72 ?r72 ?_); (case k72 => first | exact zkk rfl (by omega) | exact zkk (zK_B0 (by omega)) (by omega) | exact zkk ((zK_B (by omega) (by decide)).trans rfl) (by omega) | exact zkk (zK_row (by omega) (by omega)) (by omega) | exact zkk (zK_file (by omega) (by omega)) (by omega) | exact zkk (zK_byte (by omega) (by omega)) (by omega) | exact zkk (zK_list (by omega)) (by omega) | assumption); (case r72 => first | exact hR _ _ _ rfl | assumption)
      refine zx_il1 zd9_91 ?_
      refine zx_c zd9_92 ?_
      first | ((with_reducible refine zx_subN zd9_94 ?h75 ?_); (case h75 => omega)) | refine zx_sub zd9_94 ?_
      (with_reducible refine' zx_ialdN zd9_95 ?k76 ?j76 ?_); (case k76 => first | exact zkk rfl (by omega) | exact zkk (zK_B0 (by omega)) (by omega) | exact zkk ((zK_B (by omega) (by decide)).trans rfl) (by omega) | exact zkk (zK_row (by omega) (by omega)) (by omega) | exact zkk (zK_file (by omega) (by omega)) (by omega) | exact zkk (zK_byte (by omega) (by omega)) (by omega) | exact zkk (zK_list (by omega)) (by omega) | assumption); (case j76 => omega)
      first | with_reducible refine zx_addN zd9_96 ?_ | refine zx_add zd9_96 ?_
      refine zx_il5 zd9_97 ?_
      first | with_reducible refine zx_addN zd9_99 ?_ | refine zx_add zd9_99 ?_
      (with_reducible refine' zx_iastN zd9_100 ?k80 ?j80 ?a80 ?_); (case k80 => first | exact zkk rfl (by omega) | exact zkk (zK_B0 (by omega)) (by omega) | exact zkk ((zK_B (by omega) (by decide)).trans rfl) (by omega) | exact zkk (zK_row (by omega) (by omega)) (by omega) | exact zkk (zK_file (by omega) (by omega)) (by omega) | exact zkk (zK_byte (by omega) (by omega)) (by omega) | exact zkk (zK_list (by omega)) (by omega) | assumption); (case j80 => omega); (case a80 => omega)
      first | with_reducible refine zx_iin1 zd9_101 ?_ | refine zx_ii1 zd9_101 ?_
      refine zx_goto zd9_104 ?_
      have e : zu (zrw I 6 (zsch (I 6) n)) 6 (16 + n) (zrw I 6 (zsch (I 6) n) 6 (16 + n - 16) + (zturn (zrw I 6 (zsch (I 6) n) 6 (16 + n - 15)) (Int32.ofNat 7) ^^^ zturn (zrw I 6 (zsch (I 6) n) 6 (16 + n - 15)) (Int32.ofNat 18) ^^^ zush (zrw I 6 (zsch (I 6) n) 6 (16 + n - 15)) (Int32.ofNat 3)) + zrw I 6 (zsch (I 6) n) 6 (16 + n - 7) + (zturn (zrw I 6 (zsch (I 6) n) 6 (16 + n - 2)) (Int32.ofNat 17) ^^^ zturn (zrw I 6 (zsch (I 6) n) 6 (16 + n - 2)) (Int32.ofNat 19) ^^^ zush (zrw I 6 (zsch (I 6) n) 6 (16 + n - 2)) (Int32.ofNat 10))) = zrw I 6 (zsch (I 6) (n + 1)) := by
        rw [zu_rw, zrw_rw, zrw_at]; rfl
      exact e ▸ ih (n + 1) _ _ _ _ (by omega)
theorem zc_spread (h1 : R 4 1 = some 6) (hN : 6 < N) : zRet L 9 [.ref 4] (N, U, I, J, R) none (N, U, zrw I 6 (zsch (I 6) 48), J, R) := by
  show zW L 9 0 [some (.ref 4), none, none, none, none, none] [] _ _
  refine zx_c zd9_0 ?_
  refine zx_is1 zd9_2 rfl ?_
  have k := zc_spread0 (L := L) (U := U) (I := I) (J := J) h1 hN 48 0 none none none none rfl
  have e : zrw I 6 (zsch (I 6) 0) = I := zrw_id I 6
  rw [e] at k
  exact k
theorem zc_mix0 (h0 : R 4 0 = some 5) (h1 : R 4 1 = some 6) (hN : 6 < N) : ∀ (m n : Nat) (l1 l2 l3 l4 l5 : Option Value), n + m = 64 →
    zW L 11 66 [some (.ref 4), some (.int (zrds (I 5) (I 2) (I 6) n 0)), some (.int (zrds (I 5) (I 2) (I 6) n 1)), some (.int (zrds (I 5) (I 2) (I 6) n 2)), some (.int (zrds (I 5) (I 2) (I 6) n 3)), some (.int (zrds (I 5) (I 2) (I 6) n 4)), some (.int (zrds (I 5) (I 2) (I 6) n 5)), some (.int (zrds (I 5) (I 2) (I 6) n 6)), some (.int (zrds (I 5) (I 2) (I 6) n 7)), some (.int (Int32.ofNat n)), l1, l2, l3, l4, l5] [] (N, U, I, J, R) (fun o k => o = .inl none ∧ k = (N, U, zrw I 5 (zcomp (I 5) (I 2) (I 6)), J, R)) := by
  intro m
  induction m with
  | zero =>
    intro n l1 l2 l3 l4 l5 hn
    obtain rfl : n = 64 := by omega
    refine zx_il9 zd11_66 ?_
    refine zx_gs zd11_68 ?_
    (refine' zx_alen zd11_71 ?k87 ?_); (case k87 => first | exact zkk rfl (by omega) | exact zkk (zK_B0 (by omega)) (by omega) | exact zkk ((zK_B (by omega) (by decide)).trans rfl) (by omega) | exact zkk (zK_row (by omega) (by omega)) (by omega) | exact zkk (zK_file (by omega) (by omega)) (by omega) | exact zkk (zK_byte (by omega) (by omega)) (by omega) | exact zkk (zK_list (by omega)) (by omega) | assumption)
    first | ((with_reducible refine zx_icmpgeN zd11_72 ?s88 (fun hc => ?_) (fun hc => ?_)); (case s88 => omega)) | refine zx_icmpge zd11_72 (fun hc => ?_) (fun hc => ?_)
    · refine zx_al0 zd11_215 ?_
      (refine' zx_gfA zd11_216 ?k90 ?r90 ?_); (case k90 => first | exact zkk rfl (by omega) | exact zkk (zK_B0 (by omega)) (by omega) | exact zkk ((zK_B (by omega) (by decide)).trans rfl) (by omega) | exact zkk (zK_row (by omega) (by omega)) (by omega) | exact zkk (zK_file (by omega) (by omega)) (by omega) | exact zkk (zK_byte (by omega) (by omega)) (by omega) | exact zkk (zK_list (by omega)) (by omega) | assumption); (case r90 => first | exact hR _ _ _ rfl | assumption)
      refine zx_c zd11_219 ?_
      refine zx_dup2 zd11_220 ?_
      (with_reducible refine' zx_ialdN zd11_221 ?k93 ?j93 ?_); (case k93 => first | exact zkk rfl (by omega) | exact zkk (zK_B0 (by omega)) (by omega) | exact zkk ((zK_B (by omega) (by decide)).trans rfl) (by omega) | exact zkk (zK_row (by omega) (by omega)) (by omega) | exact zkk (zK_file (by omega) (by omega)) (by omega) | exact zkk (zK_byte (by omega) (by omega)) (by omega) | exact zkk (zK_list (by omega)) (by omega) | assumption); (case j93 => omega)
      refine zx_il1 zd11_222 ?_
      first | with_reducible refine zx_addN zd11_223 ?_ | refine zx_add zd11_223 ?_
      (with_reducible refine' zx_iastN zd11_224 ?k96 ?j96 ?a96 ?_); (case k96 => first | exact zkk rfl (by omega) | exact zkk (zK_B0 (by omega)) (by omega) | exact zkk ((zK_B (by omega) (by decide)).trans rfl) (by omega) | exact zkk (zK_row (by omega) (by omega)) (by omega) | exact zkk (zK_file (by omega) (by omega)) (by omega) | exact zkk (zK_byte (by omega) (by omega)) (by omega) | exact zkk (zK_list (by omega)) (by omega) | assumption); (case j96 => omega); (case a96 => omega)
      refine zx_al0 zd11_225 ?_
      (refine' zx_gfA zd11_226 ?k98 ?r98 ?_); (case k98 => first | exact zkk rfl (by omega) | exact zkk (zK_B0 (by omega)) (by omega) | exact zkk ((zK_B (by omega) (by decide)).trans rfl) (by omega) | exact zkk (zK_row (by omega) (by omega)) (by omega) | exact zkk (zK_file (by omega) (by omega)) (by omega) | exact zkk (zK_byte (by omega) (by omega)) (by omega) | exact zkk (zK_list (by omega)) (by omega) | assumption); (case r98 => first | exact hR _ _ _ rfl | assumption)
      refine zx_c zd11_229 ?_
      refine zx_dup2 zd11_230 ?_
      (with_reducible refine' zx_ialdN zd11_231 ?k101 ?j101 ?_); (case k101 => first | exact zkk rfl (by omega) | exact zkk (zK_B0 (by omega)) (by omega) | exact zkk ((zK_B (by omega) (by decide)).trans rfl) (by omega) | exact zkk (zK_row (by omega) (by omega)) (by omega) | exact zkk (zK_file (by omega) (by omega)) (by omega) | exact zkk (zK_byte (by omega) (by omega)) (by omega) | exact zkk (zK_list (by omega)) (by omega) | assumption); (case j101 => omega)
      refine zx_il2 zd11_232 ?_
      first | with_reducible refine zx_addN zd11_233 ?_ | refine zx_add zd11_233 ?_
      (with_reducible refine' zx_iastN zd11_234 ?k104 ?j104 ?a104 ?_); (case k104 => first | exact zkk rfl (by omega) | exact zkk (zK_B0 (by omega)) (by omega) | exact zkk ((zK_B (by omega) (by decide)).trans rfl) (by omega) | exact zkk (zK_row (by omega) (by omega)) (by omega) | exact zkk (zK_file (by omega) (by omega)) (by omega) | exact zkk (zK_byte (by omega) (by omega)) (by omega) | exact zkk (zK_list (by omega)) (by omega) | assumption); (case j104 => omega); (case a104 => omega)
      refine zx_al0 zd11_235 ?_
      (refine' zx_gfA zd11_236 ?k106 ?r106 ?_); (case k106 => first | exact zkk rfl (by omega) | exact zkk (zK_B0 (by omega)) (by omega) | exact zkk ((zK_B (by omega) (by decide)).trans rfl) (by omega) | exact zkk (zK_row (by omega) (by omega)) (by omega) | exact zkk (zK_file (by omega) (by omega)) (by omega) | exact zkk (zK_byte (by omega) (by omega)) (by omega) | exact zkk (zK_list (by omega)) (by omega) | assumption); (case r106 => first | exact hR _ _ _ rfl | assumption)
      refine zx_c zd11_239 ?_
      refine zx_dup2 zd11_240 ?_
      (with_reducible refine' zx_ialdN zd11_241 ?k109 ?j109 ?_); (case k109 => first | exact zkk rfl (by omega) | exact zkk (zK_B0 (by omega)) (by omega) | exact zkk ((zK_B (by omega) (by decide)).trans rfl) (by omega) | exact zkk (zK_row (by omega) (by omega)) (by omega) | exact zkk (zK_file (by omega) (by omega)) (by omega) | exact zkk (zK_byte (by omega) (by omega)) (by omega) | exact zkk (zK_list (by omega)) (by omega) | assumption); (case j109 => omega)
      refine zx_il3 zd11_242 ?_
      first | with_reducible refine zx_addN zd11_243 ?_ | refine zx_add zd11_243 ?_
      (with_reducible refine' zx_iastN zd11_244 ?k112 ?j112 ?a112 ?_); (case k112 => first | exact zkk rfl (by omega) | exact zkk (zK_B0 (by omega)) (by omega) | exact zkk ((zK_B (by omega) (by decide)).trans rfl) (by omega) | exact zkk (zK_row (by omega) (by omega)) (by omega) | exact zkk (zK_file (by omega) (by omega)) (by omega) | exact zkk (zK_byte (by omega) (by omega)) (by omega) | exact zkk (zK_list (by omega)) (by omega) | assumption); (case j112 => omega); (case a112 => omega)
      refine zx_al0 zd11_245 ?_
      (refine' zx_gfA zd11_246 ?k114 ?r114 ?_); (case k114 => first | exact zkk rfl (by omega) | exact zkk (zK_B0 (by omega)) (by omega) | exact zkk ((zK_B (by omega) (by decide)).trans rfl) (by omega) | exact zkk (zK_row (by omega) (by omega)) (by omega) | exact zkk (zK_file (by omega) (by omega)) (by omega) | exact zkk (zK_byte (by omega) (by omega)) (by omega) | exact zkk (zK_list (by omega)) (by omega) | assumption); (case r114 => first | exact hR _ _ _ rfl | assumption)
      refine zx_c zd11_249 ?_
      refine zx_dup2 zd11_250 ?_
      (with_reducible refine' zx_ialdN zd11_251 ?k117 ?j117 ?_); (case k117 => first | exact zkk rfl (by omega) | exact zkk (zK_B0 (by omega)) (by omega) | exact zkk ((zK_B (by omega) (by decide)).trans rfl) (by omega) | exact zkk (zK_row (by omega) (by omega)) (by omega) | exact zkk (zK_file (by omega) (by omega)) (by omega) | exact zkk (zK_byte (by omega) (by omega)) (by omega) | exact zkk (zK_list (by omega)) (by omega) | assumption); (case j117 => omega)
      refine zx_il4 zd11_252 ?_
      first | with_reducible refine zx_addN zd11_254 ?_ | refine zx_add zd11_254 ?_
      (with_reducible refine' zx_iastN zd11_255 ?k120 ?j120 ?a120 ?_); (case k120 => first | exact zkk rfl (by omega) | exact zkk (zK_B0 (by omega)) (by omega) | exact zkk ((zK_B (by omega) (by decide)).trans rfl) (by omega) | exact zkk (zK_row (by omega) (by omega)) (by omega) | exact zkk (zK_file (by omega) (by omega)) (by omega) | exact zkk (zK_byte (by omega) (by omega)) (by omega) | exact zkk (zK_list (by omega)) (by omega) | assumption); (case j120 => omega); (case a120 => omega)
      refine zx_al0 zd11_256 ?_
      (refine' zx_gfA zd11_257 ?k122 ?r122 ?_); (case k122 => first | exact zkk rfl (by omega) | exact zkk (zK_B0 (by omega)) (by omega) | exact zkk ((zK_B (by omega) (by decide)).trans rfl) (by omega) | exact zkk (zK_row (by omega) (by omega)) (by omega) | exact zkk (zK_file (by omega) (by omega)) (by omega) | exact zkk (zK_byte (by omega) (by omega)) (by omega) | exact zkk (zK_list (by omega)) (by omega) | assumption); (case r122 => first | exact hR _ _ _ rfl | assumption)
      refine zx_c zd11_260 ?_
      refine zx_dup2 zd11_261 ?_
      (with_reducible refine' zx_ialdN zd11_262 ?k125 ?j125 ?_); (case k125 => first | exact zkk rfl (by omega) | exact zkk (zK_B0 (by omega)) (by omega) | exact zkk ((zK_B (by omega) (by decide)).trans rfl) (by omega) | exact zkk (zK_row (by omega) (by omega)) (by omega) | exact zkk (zK_file (by omega) (by omega)) (by omega) | exact zkk (zK_byte (by omega) (by omega)) (by omega) | exact zkk (zK_list (by omega)) (by omega) | assumption); (case j125 => omega)
      refine zx_il5 zd11_263 ?_
      first | with_reducible refine zx_addN zd11_265 ?_ | refine zx_add zd11_265 ?_
      (with_reducible refine' zx_iastN zd11_266 ?k128 ?j128 ?a128 ?_); (case k128 => first | exact zkk rfl (by omega) | exact zkk (zK_B0 (by omega)) (by omega) | exact zkk ((zK_B (by omega) (by decide)).trans rfl) (by omega) | exact zkk (zK_row (by omega) (by omega)) (by omega) | exact zkk (zK_file (by omega) (by omega)) (by omega) | exact zkk (zK_byte (by omega) (by omega)) (by omega) | exact zkk (zK_list (by omega)) (by omega) | assumption); (case j128 => omega); (case a128 => omega)
      refine zx_al0 zd11_267 ?_
      (refine' zx_gfA zd11_268 ?k130 ?r130 ?_); (case k130 => first | exact zkk rfl (by omega) | exact zkk (zK_B0 (by omega)) (by omega) | exact zkk ((zK_B (by omega) (by decide)).trans rfl) (by omega) | exact zkk (zK_row (by omega) (by omega)) (by omega) | exact zkk (zK_file (by omega) (by omega)) (by omega) | exact zkk (zK_byte (by omega) (by omega)) (by omega) | exact zkk (zK_list (by omega)) (by omega) | assumption); (case r130 => first | exact hR _ _ _ rfl | assumption)
      refine zx_c zd11_271 ?_
      refine zx_dup2 zd11_272 ?_
      (with_reducible refine' zx_ialdN zd11_273 ?k133 ?j133 ?_); (case k133 => first | exact zkk rfl (by omega) | exact zkk (zK_B0 (by omega)) (by omega) | exact zkk ((zK_B (by omega) (by decide)).trans rfl) (by omega) | exact zkk (zK_row (by omega) (by omega)) (by omega) | exact zkk (zK_file (by omega) (by omega)) (by omega) | exact zkk (zK_byte (by omega) (by omega)) (by omega) | exact zkk (zK_list (by omega)) (by omega) | assumption); (case j133 => omega)
      refine zx_il6 zd11_274 ?_
      first | with_reducible refine zx_addN zd11_276 ?_ | refine zx_add zd11_276 ?_
      (with_reducible refine' zx_iastN zd11_277 ?k136 ?j136 ?a136 ?_); (case k136 => first | exact zkk rfl (by omega) | exact zkk (zK_B0 (by omega)) (by omega) | exact zkk ((zK_B (by omega) (by decide)).trans rfl) (by omega) | exact zkk (zK_row (by omega) (by omega)) (by omega) | exact zkk (zK_file (by omega) (by omega)) (by omega) | exact zkk (zK_byte (by omega) (by omega)) (by omega) | exact zkk (zK_list (by omega)) (by omega) | assumption); (case j136 => omega); (case a136 => omega)
      refine zx_al0 zd11_278 ?_
      (refine' zx_gfA zd11_279 ?k138 ?r138 ?_); (case k138 => first | exact zkk rfl (by omega) | exact zkk (zK_B0 (by omega)) (by omega) | exact zkk ((zK_B (by omega) (by decide)).trans rfl) (by omega) | exact zkk (zK_row (by omega) (by omega)) (by omega) | exact zkk (zK_file (by omega) (by omega)) (by omega) | exact zkk (zK_byte (by omega) (by omega)) (by omega) | exact zkk (zK_list (by omega)) (by omega) | assumption); (case r138 => first | exact hR _ _ _ rfl | assumption)
      refine zx_c zd11_282 ?_
      refine zx_dup2 zd11_284 ?_
      (with_reducible refine' zx_ialdN zd11_285 ?k141 ?j141 ?_); (case k141 => first | exact zkk rfl (by omega) | exact zkk (zK_B0 (by omega)) (by omega) | exact zkk ((zK_B (by omega) (by decide)).trans rfl) (by omega) | exact zkk (zK_row (by omega) (by omega)) (by omega) | exact zkk (zK_file (by omega) (by omega)) (by omega) | exact zkk (zK_byte (by omega) (by omega)) (by omega) | exact zkk (zK_list (by omega)) (by omega) | assumption); (case j141 => omega)
      refine zx_il7 zd11_286 ?_
      first | with_reducible refine zx_addN zd11_288 ?_ | refine zx_add zd11_288 ?_
      (with_reducible refine' zx_iastN zd11_289 ?k144 ?j144 ?a144 ?_); (case k144 => first | exact zkk rfl (by omega) | exact zkk (zK_B0 (by omega)) (by omega) | exact zkk ((zK_B (by omega) (by decide)).trans rfl) (by omega) | exact zkk (zK_row (by omega) (by omega)) (by omega) | exact zkk (zK_file (by omega) (by omega)) (by omega) | exact zkk (zK_byte (by omega) (by omega)) (by omega) | exact zkk (zK_list (by omega)) (by omega) | assumption); (case j144 => omega); (case a144 => omega)
      refine zx_al0 zd11_290 ?_
      (refine' zx_gfA zd11_291 ?k146 ?r146 ?_); (case k146 => first | exact zkk rfl (by omega) | exact zkk (zK_B0 (by omega)) (by omega) | exact zkk ((zK_B (by omega) (by decide)).trans rfl) (by omega) | exact zkk (zK_row (by omega) (by omega)) (by omega) | exact zkk (zK_file (by omega) (by omega)) (by omega) | exact zkk (zK_byte (by omega) (by omega)) (by omega) | exact zkk (zK_list (by omega)) (by omega) | assumption); (case r146 => first | exact hR _ _ _ rfl | assumption)
      refine zx_c zd11_294 ?_
      refine zx_dup2 zd11_296 ?_
      (with_reducible refine' zx_ialdN zd11_297 ?k149 ?j149 ?_); (case k149 => first | exact zkk rfl (by omega) | exact zkk (zK_B0 (by omega)) (by omega) | exact zkk ((zK_B (by omega) (by decide)).trans rfl) (by omega) | exact zkk (zK_row (by omega) (by omega)) (by omega) | exact zkk (zK_file (by omega) (by omega)) (by omega) | exact zkk (zK_byte (by omega) (by omega)) (by omega) | exact zkk (zK_list (by omega)) (by omega) | assumption); (case j149 => omega)
      refine zx_il8 zd11_298 ?_
      first | with_reducible refine zx_addN zd11_300 ?_ | refine zx_add zd11_300 ?_
      (with_reducible refine' zx_iastN zd11_301 ?k152 ?j152 ?a152 ?_); (case k152 => first | exact zkk rfl (by omega) | exact zkk (zK_B0 (by omega)) (by omega) | exact zkk ((zK_B (by omega) (by decide)).trans rfl) (by omega) | exact zkk (zK_row (by omega) (by omega)) (by omega) | exact zkk (zK_file (by omega) (by omega)) (by omega) | exact zkk (zK_byte (by omega) (by omega)) (by omega) | exact zkk (zK_list (by omega)) (by omega) | assumption); (case j152 => omega); (case a152 => omega)
      refine zx_vret zd11_302 rfl ?_
      refine ⟨rfl, congrArg (fun I' : zI => (N, U, I', J, R)) ?_⟩
      funext b j
      by_cases hb : b = 5
      · subst hb
        match j with
        | 0 => rfl
        | 1 => rfl
        | 2 => rfl
        | 3 => rfl
        | 4 => rfl
        | 5 => rfl
        | 6 => rfl
        | 7 => rfl
        | j + 8 =>
          simp [zu, zrw, zcomp]
          intro hj; omega
      · simp [zu, zrw, hb]
    · omega
  | succ m ih =>
    intro n l1 l2 l3 l4 l5 hn
    refine zx_il9 zd11_66 ?_
    refine zx_gs zd11_68 ?_
    (refine' zx_alen zd11_71 ?k156 ?_); (case k156 => first | exact zkk rfl (by omega) | exact zkk (zK_B0 (by omega)) (by omega) | exact zkk ((zK_B (by omega) (by decide)).trans rfl) (by omega) | exact zkk (zK_row (by omega) (by omega)) (by omega) | exact zkk (zK_file (by omega) (by omega)) (by omega) | exact zkk (zK_byte (by omega) (by omega)) (by omega) | exact zkk (zK_list (by omega)) (by omega) | assumption)
    first | ((with_reducible refine zx_icmpgeN zd11_72 ?s157 (fun hc => ?_) (fun hc => ?_)); (case s157 => omega)) | refine zx_icmpge zd11_72 (fun hc => ?_) (fun hc => ?_)
    · omega
    · refine zx_il5 zd11_75 ?_
      refine zx_c zd11_77 ?_
      refine zx_cs2I zd11_79 (zc_turn _ _ _ _) ?_
      refine zx_il5 zd11_82 ?_
      refine zx_c zd11_84 ?_
      refine zx_cs2I zd11_86 (zc_turn _ _ _ _) ?_
      first | with_reducible refine zx_xorN zd11_89 ?_ | refine zx_xor zd11_89 ?_
      refine zx_il5 zd11_90 ?_
      refine zx_c zd11_92 ?_
      refine zx_cs2I zd11_94 (zc_turn _ _ _ _) ?_
      first | with_reducible refine zx_xorN zd11_97 ?_ | refine zx_xor zd11_97 ?_
      refine zx_is10 zd11_98 rfl ?_
      refine zx_il5 zd11_100 ?_
      refine zx_il6 zd11_102 ?_
      first | with_reducible refine zx_andN zd11_104 ?_ | refine zx_and zd11_104 ?_
      refine zx_il5 zd11_105 ?_
      refine zx_c zd11_107 ?_
      first | with_reducible refine zx_xorN zd11_108 ?_ | refine zx_xor zd11_108 ?_
      refine zx_il7 zd11_109 ?_
      first | with_reducible refine zx_andN zd11_111 ?_ | refine zx_and zd11_111 ?_
      first | with_reducible refine zx_xorN zd11_112 ?_ | refine zx_xor zd11_112 ?_
      refine zx_is11 zd11_113 rfl ?_
      refine zx_il8 zd11_115 ?_
      refine zx_il10 zd11_117 ?_
      first | with_reducible refine zx_addN zd11_119 ?_ | refine zx_add zd11_119 ?_
      refine zx_il11 zd11_120 ?_
      first | with_reducible refine zx_addN zd11_122 ?_ | refine zx_add zd11_122 ?_
      refine zx_gs zd11_123 ?_
      refine zx_il9 zd11_126 ?_
      (with_reducible refine' zx_ialdN zd11_128 ?k187 ?j187 ?_); (case k187 => first | exact zkk rfl (by omega) | exact zkk (zK_B0 (by omega)) (by omega) | exact zkk ((zK_B (by omega) (by decide)).trans rfl) (by omega) | exact zkk (zK_row (by omega) (by omega)) (by omega) | exact zkk (zK_file (by omega) (by omega)) (by omega) | exact zkk (zK_byte (by omega) (by omega)) (by omega) | exact zkk (zK_list (by omega)) (by omega) | assumption); (case j187 => omega)
      first | with_reducible refine zx_addN zd11_129 ?_ | refine zx_add zd11_129 ?_
      refine zx_al0 zd11_130 ?_
      (refine' zx_gfA zd11_131 ?k190 ?r190 ?_); (case k190 => first | exact zkk rfl (by omega) | exact zkk (zK_B0 (by omega)) (by omega) | exact zkk ((zK_B (by omega) (by decide)).trans rfl) (by omega) | exact zkk (zK_row (by omega) (by omega)) (by omega) | exact zkk (zK_file (by omega) (by omega)) (by omega) | exact zkk (zK_byte (by omega) (by omega)) (by omega) | exact zkk (zK_list (by omega)) (by omega) | assumption); (case r190 => first | exact hR _ _ _ rfl | assumption)
      refine zx_il9 zd11_134 ?_
      (with_reducible refine' zx_ialdN zd11_136 ?k192 ?j192 ?_); (case k192 => first | exact zkk rfl (by omega) | exact zkk (zK_B0 (by omega)) (by omega) | exact zkk ((zK_B (by omega) (by decide)).trans rfl) (by omega) | exact zkk (zK_row (by omega) (by omega)) (by omega) | exact zkk (zK_file (by omega) (by omega)) (by omega) | exact zkk (zK_byte (by omega) (by omega)) (by omega) | exact zkk (zK_list (by omega)) (by omega) | assumption); (case j192 => omega)
      first | with_reducible refine zx_addN zd11_137 ?_ | refine zx_add zd11_137 ?_
      refine zx_is12 zd11_138 rfl ?_
      refine zx_il1 zd11_140 ?_
      refine zx_c zd11_141 ?_
      refine zx_cs2I zd11_142 (zc_turn _ _ _ _) ?_
      refine zx_il1 zd11_145 ?_
      refine zx_c zd11_146 ?_
      refine zx_cs2I zd11_148 (zc_turn _ _ _ _) ?_
      first | with_reducible refine zx_xorN zd11_151 ?_ | refine zx_xor zd11_151 ?_
      refine zx_il1 zd11_152 ?_
      refine zx_c zd11_153 ?_
      refine zx_cs2I zd11_155 (zc_turn _ _ _ _) ?_
      first | with_reducible refine zx_xorN zd11_158 ?_ | refine zx_xor zd11_158 ?_
      refine zx_is13 zd11_159 rfl ?_
      refine zx_il1 zd11_161 ?_
      refine zx_il2 zd11_162 ?_
      first | with_reducible refine zx_andN zd11_163 ?_ | refine zx_and zd11_163 ?_
      refine zx_il1 zd11_164 ?_
      refine zx_il3 zd11_165 ?_
      first | with_reducible refine zx_andN zd11_166 ?_ | refine zx_and zd11_166 ?_
      first | with_reducible refine zx_xorN zd11_167 ?_ | refine zx_xor zd11_167 ?_
      refine zx_il2 zd11_168 ?_
      refine zx_il3 zd11_169 ?_
      first | with_reducible refine zx_andN zd11_170 ?_ | refine zx_and zd11_170 ?_
      first | with_reducible refine zx_xorN zd11_171 ?_ | refine zx_xor zd11_171 ?_
      refine zx_is14 zd11_172 rfl ?_
      refine zx_il7 zd11_174 ?_
      refine zx_is8 zd11_176 rfl ?_
      refine zx_il6 zd11_178 ?_
      refine zx_is7 zd11_180 rfl ?_
      refine zx_il5 zd11_182 ?_
      refine zx_is6 zd11_184 rfl ?_
      refine zx_il4 zd11_186 ?_
      refine zx_il12 zd11_188 ?_
      first | with_reducible refine zx_addN zd11_190 ?_ | refine zx_add zd11_190 ?_
      refine zx_is5 zd11_191 rfl ?_
      refine zx_il3 zd11_193 ?_
      refine zx_is4 zd11_194 rfl ?_
      refine zx_il2 zd11_196 ?_
      refine zx_is3 zd11_197 rfl ?_
      refine zx_il1 zd11_198 ?_
      refine zx_is2 zd11_199 rfl ?_
      refine zx_il12 zd11_200 ?_
      refine zx_il13 zd11_202 ?_
      first | with_reducible refine zx_addN zd11_204 ?_ | refine zx_add zd11_204 ?_
      refine zx_il14 zd11_205 ?_
      first | with_reducible refine zx_addN zd11_207 ?_ | refine zx_add zd11_207 ?_
      refine zx_is1 zd11_208 rfl ?_
      first | with_reducible refine zx_iin9 zd11_209 ?_ | refine zx_ii9 zd11_209 ?_
      refine zx_goto zd11_212 ?_
      exact ih (n + 1) _ _ _ _ _ (by omega)
theorem zc_mix (h0 : R 4 0 = some 5) (h1 : R 4 1 = some 6) (hN : 6 < N) : zRet L 11 [.ref 4] (N, U, I, J, R) none (N, U, zrw I 5 (zcomp (I 5) (I 2) (I 6)), J, R) := by
  show zW L 11 0 [some (.ref 4), none, none, none, none, none, none, none, none, none, none, none, none, none, none] [] _ _
  refine zx_al0 zd11_0 ?_
  (refine' zx_gfA zd11_1 ?k244 ?r244 ?_); (case k244 => first | exact zkk rfl (by omega) | exact zkk (zK_B0 (by omega)) (by omega) | exact zkk ((zK_B (by omega) (by decide)).trans rfl) (by omega) | exact zkk (zK_row (by omega) (by omega)) (by omega) | exact zkk (zK_file (by omega) (by omega)) (by omega) | exact zkk (zK_byte (by omega) (by omega)) (by omega) | exact zkk (zK_list (by omega)) (by omega) | assumption); (case r244 => first | exact hR _ _ _ rfl | assumption)
  refine zx_c zd11_4 ?_
  (with_reducible refine' zx_ialdN zd11_5 ?k246 ?j246 ?_); (case k246 => first | exact zkk rfl (by omega) | exact zkk (zK_B0 (by omega)) (by omega) | exact zkk ((zK_B (by omega) (by decide)).trans rfl) (by omega) | exact zkk (zK_row (by omega) (by omega)) (by omega) | exact zkk (zK_file (by omega) (by omega)) (by omega) | exact zkk (zK_byte (by omega) (by omega)) (by omega) | exact zkk (zK_list (by omega)) (by omega) | assumption); (case j246 => omega)
  refine zx_is1 zd11_6 rfl ?_
  refine zx_al0 zd11_7 ?_
  (refine' zx_gfA zd11_8 ?k249 ?r249 ?_); (case k249 => first | exact zkk rfl (by omega) | exact zkk (zK_B0 (by omega)) (by omega) | exact zkk ((zK_B (by omega) (by decide)).trans rfl) (by omega) | exact zkk (zK_row (by omega) (by omega)) (by omega) | exact zkk (zK_file (by omega) (by omega)) (by omega) | exact zkk (zK_byte (by omega) (by omega)) (by omega) | exact zkk (zK_list (by omega)) (by omega) | assumption); (case r249 => first | exact hR _ _ _ rfl | assumption)
  refine zx_c zd11_11 ?_
  (with_reducible refine' zx_ialdN zd11_12 ?k251 ?j251 ?_); (case k251 => first | exact zkk rfl (by omega) | exact zkk (zK_B0 (by omega)) (by omega) | exact zkk ((zK_B (by omega) (by decide)).trans rfl) (by omega) | exact zkk (zK_row (by omega) (by omega)) (by omega) | exact zkk (zK_file (by omega) (by omega)) (by omega) | exact zkk (zK_byte (by omega) (by omega)) (by omega) | exact zkk (zK_list (by omega)) (by omega) | assumption); (case j251 => omega)
  refine zx_is2 zd11_13 rfl ?_
  refine zx_al0 zd11_14 ?_
  (refine' zx_gfA zd11_15 ?k254 ?r254 ?_); (case k254 => first | exact zkk rfl (by omega) | exact zkk (zK_B0 (by omega)) (by omega) | exact zkk ((zK_B (by omega) (by decide)).trans rfl) (by omega) | exact zkk (zK_row (by omega) (by omega)) (by omega) | exact zkk (zK_file (by omega) (by omega)) (by omega) | exact zkk (zK_byte (by omega) (by omega)) (by omega) | exact zkk (zK_list (by omega)) (by omega) | assumption); (case r254 => first | exact hR _ _ _ rfl | assumption)
  refine zx_c zd11_18 ?_
  (with_reducible refine' zx_ialdN zd11_19 ?k256 ?j256 ?_); (case k256 => first | exact zkk rfl (by omega) | exact zkk (zK_B0 (by omega)) (by omega) | exact zkk ((zK_B (by omega) (by decide)).trans rfl) (by omega) | exact zkk (zK_row (by omega) (by omega)) (by omega) | exact zkk (zK_file (by omega) (by omega)) (by omega) | exact zkk (zK_byte (by omega) (by omega)) (by omega) | exact zkk (zK_list (by omega)) (by omega) | assumption); (case j256 => omega)
  refine zx_is3 zd11_20 rfl ?_
  refine zx_al0 zd11_21 ?_
  (refine' zx_gfA zd11_22 ?k259 ?r259 ?_); (case k259 => first | exact zkk rfl (by omega) | exact zkk (zK_B0 (by omega)) (by omega) | exact zkk ((zK_B (by omega) (by decide)).trans rfl) (by omega) | exact zkk (zK_row (by omega) (by omega)) (by omega) | exact zkk (zK_file (by omega) (by omega)) (by omega) | exact zkk (zK_byte (by omega) (by omega)) (by omega) | exact zkk (zK_list (by omega)) (by omega) | assumption); (case r259 => first | exact hR _ _ _ rfl | assumption)
  refine zx_c zd11_25 ?_
  (with_reducible refine' zx_ialdN zd11_26 ?k261 ?j261 ?_); (case k261 => first | exact zkk rfl (by omega) | exact zkk (zK_B0 (by omega)) (by omega) | exact zkk ((zK_B (by omega) (by decide)).trans rfl) (by omega) | exact zkk (zK_row (by omega) (by omega)) (by omega) | exact zkk (zK_file (by omega) (by omega)) (by omega) | exact zkk (zK_byte (by omega) (by omega)) (by omega) | exact zkk (zK_list (by omega)) (by omega) | assumption); (case j261 => omega)
  refine zx_is4 zd11_27 rfl ?_
  refine zx_al0 zd11_29 ?_
  (refine' zx_gfA zd11_30 ?k264 ?r264 ?_); (case k264 => first | exact zkk rfl (by omega) | exact zkk (zK_B0 (by omega)) (by omega) | exact zkk ((zK_B (by omega) (by decide)).trans rfl) (by omega) | exact zkk (zK_row (by omega) (by omega)) (by omega) | exact zkk (zK_file (by omega) (by omega)) (by omega) | exact zkk (zK_byte (by omega) (by omega)) (by omega) | exact zkk (zK_list (by omega)) (by omega) | assumption); (case r264 => first | exact hR _ _ _ rfl | assumption)
  refine zx_c zd11_33 ?_
  (with_reducible refine' zx_ialdN zd11_34 ?k266 ?j266 ?_); (case k266 => first | exact zkk rfl (by omega) | exact zkk (zK_B0 (by omega)) (by omega) | exact zkk ((zK_B (by omega) (by decide)).trans rfl) (by omega) | exact zkk (zK_row (by omega) (by omega)) (by omega) | exact zkk (zK_file (by omega) (by omega)) (by omega) | exact zkk (zK_byte (by omega) (by omega)) (by omega) | exact zkk (zK_list (by omega)) (by omega) | assumption); (case j266 => omega)
  refine zx_is5 zd11_35 rfl ?_
  refine zx_al0 zd11_37 ?_
  (refine' zx_gfA zd11_38 ?k269 ?r269 ?_); (case k269 => first | exact zkk rfl (by omega) | exact zkk (zK_B0 (by omega)) (by omega) | exact zkk ((zK_B (by omega) (by decide)).trans rfl) (by omega) | exact zkk (zK_row (by omega) (by omega)) (by omega) | exact zkk (zK_file (by omega) (by omega)) (by omega) | exact zkk (zK_byte (by omega) (by omega)) (by omega) | exact zkk (zK_list (by omega)) (by omega) | assumption); (case r269 => first | exact hR _ _ _ rfl | assumption)
  refine zx_c zd11_41 ?_
  (with_reducible refine' zx_ialdN zd11_42 ?k271 ?j271 ?_); (case k271 => first | exact zkk rfl (by omega) | exact zkk (zK_B0 (by omega)) (by omega) | exact zkk ((zK_B (by omega) (by decide)).trans rfl) (by omega) | exact zkk (zK_row (by omega) (by omega)) (by omega) | exact zkk (zK_file (by omega) (by omega)) (by omega) | exact zkk (zK_byte (by omega) (by omega)) (by omega) | exact zkk (zK_list (by omega)) (by omega) | assumption); (case j271 => omega)
  refine zx_is6 zd11_43 rfl ?_
  refine zx_al0 zd11_45 ?_
  (refine' zx_gfA zd11_46 ?k274 ?r274 ?_); (case k274 => first | exact zkk rfl (by omega) | exact zkk (zK_B0 (by omega)) (by omega) | exact zkk ((zK_B (by omega) (by decide)).trans rfl) (by omega) | exact zkk (zK_row (by omega) (by omega)) (by omega) | exact zkk (zK_file (by omega) (by omega)) (by omega) | exact zkk (zK_byte (by omega) (by omega)) (by omega) | exact zkk (zK_list (by omega)) (by omega) | assumption); (case r274 => first | exact hR _ _ _ rfl | assumption)
  refine zx_c zd11_49 ?_
  (with_reducible refine' zx_ialdN zd11_51 ?k276 ?j276 ?_); (case k276 => first | exact zkk rfl (by omega) | exact zkk (zK_B0 (by omega)) (by omega) | exact zkk ((zK_B (by omega) (by decide)).trans rfl) (by omega) | exact zkk (zK_row (by omega) (by omega)) (by omega) | exact zkk (zK_file (by omega) (by omega)) (by omega) | exact zkk (zK_byte (by omega) (by omega)) (by omega) | exact zkk (zK_list (by omega)) (by omega) | assumption); (case j276 => omega)
  refine zx_is7 zd11_52 rfl ?_
  refine zx_al0 zd11_54 ?_
  (refine' zx_gfA zd11_55 ?k279 ?r279 ?_); (case k279 => first | exact zkk rfl (by omega) | exact zkk (zK_B0 (by omega)) (by omega) | exact zkk ((zK_B (by omega) (by decide)).trans rfl) (by omega) | exact zkk (zK_row (by omega) (by omega)) (by omega) | exact zkk (zK_file (by omega) (by omega)) (by omega) | exact zkk (zK_byte (by omega) (by omega)) (by omega) | exact zkk (zK_list (by omega)) (by omega) | assumption); (case r279 => first | exact hR _ _ _ rfl | assumption)
  refine zx_c zd11_58 ?_
  (with_reducible refine' zx_ialdN zd11_60 ?k281 ?j281 ?_); (case k281 => first | exact zkk rfl (by omega) | exact zkk (zK_B0 (by omega)) (by omega) | exact zkk ((zK_B (by omega) (by decide)).trans rfl) (by omega) | exact zkk (zK_row (by omega) (by omega)) (by omega) | exact zkk (zK_file (by omega) (by omega)) (by omega) | exact zkk (zK_byte (by omega) (by omega)) (by omega) | exact zkk (zK_list (by omega)) (by omega) | assumption); (case j281 => omega)
  refine zx_is8 zd11_61 rfl ?_
  refine zx_c zd11_63 ?_
  refine zx_is9 zd11_64 rfl ?_
  exact zc_mix0 (L := L) (U := U) (I := I) (J := J) h0 h1 hN 64 0 none none none none none rfl
/-- one byte comes -/
def zpt1 (I : zI) (n : Nat) (b : Int32) : zI := zu (zu I 6 (n % 64 / 4) (zshl (I 6 (n % 64 / 4)) (Int32.ofNat 8) ||| b &&& Int32.ofNat 255)) 4 2 (Int32.ofNat (n + 1))
def zblkI (I : zI) : zI := zrw (zrw I 6 (zsch (I 6) 48)) 5 (zcomp (I 5) (I 2) (zsch (I 6) 48))
def zptI (I : zI) (n : Nat) (b : Int32) : zI := if n % 64 = 63 then zblkI (zpt1 I n b) else zpt1 I n b
theorem zc_put (h0 : R 4 0 = some 5) (h1 : R 4 1 = some 6) (hN : 6 < N) {n : Nat} (hn : I 4 2 = Int32.ofNat n) (hs : n < 1000000) (b : Int32) : zRet L 8 [.ref 4, .int b] (N, U, I, J, R) none (N, U, zptI I n b, J, R) := by
  show zW L 8 0 [some (.ref 4), some (.int b), none, none] [] _ _
  refine zx_al0 zd8_0 ?_
  (refine zx_gfI zd8_1 ?k286 ?_); (case k286 => first | exact zkk rfl (by omega) | exact zkk (zK_B0 (by omega)) (by omega) | exact zkk ((zK_B (by omega) (by decide)).trans rfl) (by omega) | exact zkk (zK_row (by omega) (by omega)) (by omega) | exact zkk (zK_file (by omega) (by omega)) (by omega) | exact zkk (zK_byte (by omega) (by omega)) (by omega) | exact zkk (zK_list (by omega)) (by omega) | assumption)
  rw [hn]
  refine zx_c zd8_4 ?_
  first | with_reducible refine zx_andN zd8_6 ?_ | refine zx_and zd8_6 ?_
  rw [zn_63]
  refine zx_is2 zd8_7 rfl ?_
  refine zx_il2 zd8_8 ?_
  refine zx_c zd8_9 ?_
  first | ((with_reducible refine zx_shrN zd8_10 ?h292 ?_); (case h292 => omega)) | refine zx_shr zd8_10 ?_
  rw [zn_s2]
  refine zx_is3 zd8_11 rfl ?_
  refine zx_al0 zd8_12 ?_
  (refine' zx_gfA zd8_13 ?k295 ?r295 ?_); (case k295 => first | exact zkk rfl (by omega) | exact zkk (zK_B0 (by omega)) (by omega) | exact zkk ((zK_B (by omega) (by decide)).trans rfl) (by omega) | exact zkk (zK_row (by omega) (by omega)) (by omega) | exact zkk (zK_file (by omega) (by omega)) (by omega) | exact zkk (zK_byte (by omega) (by omega)) (by omega) | exact zkk (zK_list (by omega)) (by omega) | assumption); (case r295 => first | exact hR _ _ _ rfl | assumption)
  refine zx_il3 zd8_16 ?_
  refine zx_al0 zd8_17 ?_
  (refine' zx_gfA zd8_18 ?k298 ?r298 ?_); (case k298 => first | exact zkk rfl (by omega) | exact zkk (zK_B0 (by omega)) (by omega) | exact zkk ((zK_B (by omega) (by decide)).trans rfl) (by omega) | exact zkk (zK_row (by omega) (by omega)) (by omega) | exact zkk (zK_file (by omega) (by omega)) (by omega) | exact zkk (zK_byte (by omega) (by omega)) (by omega) | exact zkk (zK_list (by omega)) (by omega) | assumption); (case r298 => first | exact hR _ _ _ rfl | assumption)
  refine zx_il3 zd8_21 ?_
  (with_reducible refine' zx_ialdN zd8_22 ?k300 ?j300 ?_); (case k300 => first | exact zkk rfl (by omega) | exact zkk (zK_B0 (by omega)) (by omega) | exact zkk ((zK_B (by omega) (by decide)).trans rfl) (by omega) | exact zkk (zK_row (by omega) (by omega)) (by omega) | exact zkk (zK_file (by omega) (by omega)) (by omega) | exact zkk (zK_byte (by omega) (by omega)) (by omega) | exact zkk (zK_list (by omega)) (by omega) | assumption); (case j300 => omega)
  refine zx_c zd8_23 ?_
  refine zx_shl zd8_25 ?_
  refine zx_il1 zd8_26 ?_
  refine zx_c zd8_27 ?_
  first | with_reducible refine zx_andN zd8_30 ?_ | refine zx_and zd8_30 ?_
  refine zx_or zd8_31 ?_
  (with_reducible refine' zx_iastN zd8_32 ?k307 ?j307 ?a307 ?_); (case k307 => first | exact zkk rfl (by omega) | exact zkk (zK_B0 (by omega)) (by omega) | exact zkk ((zK_B (by omega) (by decide)).trans rfl) (by omega) | exact zkk (zK_row (by omega) (by omega)) (by omega) | exact zkk (zK_file (by omega) (by omega)) (by omega) | exact zkk (zK_byte (by omega) (by omega)) (by omega) | exact zkk (zK_list (by omega)) (by omega) | assumption); (case j307 => omega); (case a307 => omega)
  refine zx_al0 zd8_33 ?_
  first | refine zx_dupR zd8_34 ?_ | refine zx_dupI zd8_34 ?_
  (refine zx_gfI zd8_35 ?k310 ?_); (case k310 => first | exact zkk rfl (by omega) | exact zkk (zK_B0 (by omega)) (by omega) | exact zkk ((zK_B (by omega) (by decide)).trans rfl) (by omega) | exact zkk (zK_row (by omega) (by omega)) (by omega) | exact zkk (zK_file (by omega) (by omega)) (by omega) | exact zkk (zK_byte (by omega) (by omega)) (by omega) | exact zkk (zK_list (by omega)) (by omega) | assumption)
  rw [show zu I 6 (n % 64 / 4) _ 4 2 = I 4 2 from rfl, hn]
  refine zx_c zd8_38 ?_
  first | with_reducible refine zx_addN zd8_39 ?_ | refine zx_add zd8_39 ?_
  (refine zx_pfI zd8_40 ?k313 ?a313 ?_); (case k313 => first | exact zkk rfl (by omega) | exact zkk (zK_B0 (by omega)) (by omega) | exact zkk ((zK_B (by omega) (by decide)).trans rfl) (by omega) | exact zkk (zK_row (by omega) (by omega)) (by omega) | exact zkk (zK_file (by omega) (by omega)) (by omega) | exact zkk (zK_byte (by omega) (by omega)) (by omega) | exact zkk (zK_list (by omega)) (by omega) | assumption); (case a313 => omega)
  refine zx_il2 zd8_43 ?_
  refine zx_c zd8_44 ?_
  first | ((with_reducible refine zx_icmpneN zd8_46 ?s316 (fun hc => ?_) (fun hc => ?_)); (case s316 => omega)) | refine zx_icmpne zd8_46 (fun hc => ?_) (fun hc => ?_)
  · refine zx_vret zd8_57 rfl ?_
    refine ⟨rfl, ?_⟩
    unfold zptI
    rw [if_neg hc]; rfl
  · refine zx_al0 zd8_49 ?_
    (refine zx_cv0V zd8_50 ?k319 (zc_spread h1 hN) ?_); (case k319 => first | exact zkk rfl (by omega) | exact zkk (zK_B0 (by omega)) (by omega) | exact zkk ((zK_B (by omega) (by decide)).trans rfl) (by omega) | exact zkk (zK_row (by omega) (by omega)) (by omega) | exact zkk (zK_file (by omega) (by omega)) (by omega) | exact zkk (zK_byte (by omega) (by omega)) (by omega) | exact zkk (zK_list (by omega)) (by omega) | assumption)
    refine zx_al0 zd8_53 ?_
    (refine zx_cv0V zd8_54 ?k321 (zc_mix h0 h1 hN) ?_); (case k321 => first | exact zkk rfl (by omega) | exact zkk (zK_B0 (by omega)) (by omega) | exact zkk ((zK_B (by omega) (by decide)).trans rfl) (by omega) | exact zkk (zK_row (by omega) (by omega)) (by omega) | exact zkk (zK_file (by omega) (by omega)) (by omega) | exact zkk (zK_byte (by omega) (by omega)) (by omega) | exact zkk (zK_list (by omega)) (by omega) | assumption)
    refine zx_vret zd8_57 rfl ?_
    refine ⟨rfl, ?_⟩
    unfold zptI
    rw [if_pos hc]; rfl
theorem zc_begin (h0 : R 4 0 = some 5) (hN : 6 < N) : zRet L 6 [.ref 4] (N, U, I, J, R) none (N, U, zu (zrw I 5 (fun j => if j < 8 then I 1 j else I 5 j)) 4 2 (Int32.ofNat 0), J, R) := by
  show zW L 6 0 [some (.ref 4)] [] _ _
  refine zx_gs zd6_0 ?_
  refine zx_c zd6_3 ?_
  refine zx_al0 zd6_4 ?_
  (refine' zx_gfA zd6_5 ?k326 ?r326 ?_); (case k326 => first | exact zkk rfl (by omega) | exact zkk (zK_B0 (by omega)) (by omega) | exact zkk ((zK_B (by omega) (by decide)).trans rfl) (by omega) | exact zkk (zK_row (by omega) (by omega)) (by omega) | exact zkk (zK_file (by omega) (by omega)) (by omega) | exact zkk (zK_byte (by omega) (by omega)) (by omega) | exact zkk (zK_list (by omega)) (by omega) | assumption); (case r326 => first | exact hR _ _ _ rfl | assumption)
  refine zx_c zd6_8 ?_
  refine zx_c zd6_9 ?_
  refine zx_copy zd6_11 rfl (zkk rfl (by omega)) (zkk rfl (by omega)) (n0 := 8) (n1 := 8) (by decide) (by decide) (by decide) (by decide) (by decide) ?_
  refine zx_al0 zd6_14 ?_
  refine zx_c zd6_15 ?_
  (refine zx_pfI zd6_16 ?k331 ?a331 ?_); (case k331 => first | exact zkk rfl (by omega) | exact zkk (zK_B0 (by omega)) (by omega) | exact zkk ((zK_B (by omega) (by decide)).trans rfl) (by omega) | exact zkk (zK_row (by omega) (by omega)) (by omega) | exact zkk (zK_file (by omega) (by omega)) (by omega) | exact zkk (zK_byte (by omega) (by omega)) (by omega) | exact zkk (zK_list (by omega)) (by omega) | assumption); (case a331 => omega)
  refine zx_vret zd6_19 rfl ?_
  refine ⟨rfl, congrArg (fun I' : zI => (N, U, zu I' 4 2 (Int32.ofNat 0), J, R)) ?_⟩
  funext b j
  by_cases hb : b = 5
  · subst hb
    simp [zrw, va_cpy]
  · simp [zrw, hb]
end ZSHA
end
section
/-! MESSAGES: what the digester holds of the bytes that came -/
def zby (m : List Int32) (p : Nat) : Int32 := m.getD p 0
/-- the word of four bytes -/
def zwd (m : List Int32) (p : Nat) : Int32 := zshl (zby m p) (Int32.ofNat 24) ||| zshl (zby m (p + 1)) (Int32.ofNat 16) ||| zshl (zby m (p + 2)) (Int32.ofNat 8) ||| zby m (p + 3)
def zKr : Nat → Int32 := fun j => zRD.getD j 0
def zHs : Nat → Int32 := fun j => zST.getD j 0
def zblk (m : List Int32) (q : Nat) : Nat → Int32 := fun k => zwd m (64 * q + 4 * k)
/-- the state after q blocks -/
def zhs (m : List Int32) : Nat → Nat → Int32
  | 0 => zHs
  | q + 1 => zcomp (zhs m q) zKr (zsch (zblk m q) 48)
/-- c bytes of a word that is being filled -/
def zpw (m : List Int32) (p : Nat) : Nat → Int32
  | 0 => 0
  | c + 1 => zshl (zpw m p c) (Int32.ofNat 8) ||| zby m (p + c)
/-- the statics -/
def zCs (I : zI) : Prop := (∀ j, j < 8 → I 1 j = zHs j) ∧ ∀ j, j < 64 → I 2 j = zKr j
def zDig (m : List Int32) (I : zI) : Prop :=
  I 4 2 = Int32.ofNat m.length ∧ (∀ j, j < 8 → I 5 j = zhs m (m.length / 64) j) ∧ (∀ k, k < m.length % 64 / 4 → I 6 k = zwd m (64 * (m.length / 64) + 4 * k)) ∧
  (m.length % 4 = 0 ∨ zshl (I 6 (m.length % 64 / 4)) (Int32.ofNat (8 * (4 - m.length % 4))) = zshl (zpw m (m.length - m.length % 4) (m.length % 4)) (Int32.ofNat (8 * (4 - m.length % 4))))
theorem zshl_or (x y s : Int32) : zshl (x ||| y) s = zshl x s ||| zshl y s := by
  unfold zshl; exact Int32.shiftLeft_or ..
theorem zshl_bv (y : Int32) {c : Nat} (hc : c < 32) : (zshl y (Int32.ofNat c)).toBitVec = y.toBitVec <<< c := by
  have hm : ∀ q : Fin 32, (Int32.ofNat q.val &&& 31) = Int32.ofNat q.val := by decide
  have hs : ∀ q : Fin 32, (Int32.ofNat q.val).toBitVec.smod 32 = BitVec.ofNat 32 q.val := by decide
  unfold zshl
  rw [hm ⟨c, hc⟩, Int32.toBitVec_shiftLeft, hs ⟨c, hc⟩]
  show y.toBitVec <<< (BitVec.ofNat 32 c).toNat = _
  rw [BitVec.toNat_ofNat]
  congr 1
  omega
theorem zshl_shl (x : Int32) {a b : Nat} (h : a + b < 32) : zshl (zshl x (Int32.ofNat a)) (Int32.ofNat b) = zshl x (Int32.ofNat (a + b)) := by
  apply Int32.toBitVec_inj.mp
  rw [zshl_bv _ (by omega), zshl_bv _ (by omega), zshl_bv _ h, BitVec.shiftLeft_add]
theorem zshl_out (x : Int32) : zshl (zshl x (Int32.ofNat 8)) (Int32.ofNat 24) = 0 := by
  apply Int32.toBitVec_inj.mp
  rw [zshl_bv _ (by omega), zshl_bv _ (by omega), ← BitVec.shiftLeft_add]
  exact BitVec.shiftLeft_eq_zero (by decide)
theorem zby_app {m : List Int32} {b : Int32} {p : Nat} (h : p < m.length) : zby (m ++ [b]) p = zby m p := by
  unfold zby
  rw [List.getD_eq_getElem?_getD, List.getD_eq_getElem?_getD, List.getElem?_append_left h]
theorem zby_new {m : List Int32} {b : Int32} : zby (m ++ [b]) m.length = b := by
  unfold zby
  rw [List.getD_eq_getElem?_getD, List.getElem?_append_right (Nat.le_refl _)]
  simp
theorem zwd_app {m : List Int32} {b : Int32} {p : Nat} (h : p + 3 < m.length) : zwd (m ++ [b]) p = zwd m p := by
  unfold zwd
  rw [zby_app (by omega), zby_app (by omega), zby_app (by omega), zby_app (by omega)]
theorem zpw_app {m : List Int32} {b : Int32} {p : Nat} : ∀ {c : Nat}, p + c ≤ m.length → zpw (m ++ [b]) p c = zpw m p c
  | 0, _ => rfl
  | c + 1, h => by
    unfold zpw
    rw [zpw_app (c := c) (by omega), zby_app (by omega)]
theorem zpw4 (m : List Int32) (p : Nat) : zpw m p 4 = zwd m p := by
  show zshl (zshl (zshl (zshl 0 (Int32.ofNat 8) ||| zby m p) (Int32.ofNat 8) ||| zby m (p + 1)) (Int32.ofNat 8) ||| zby m (p + 2)) (Int32.ofNat 8) ||| zby m (p + 3) = _
  have z : zshl 0 (Int32.ofNat 8) = 0 := by decide
  rw [z, Int32.zero_or, zshl_or, zshl_or, zshl_or, zshl_shl _ (by decide), zshl_shl _ (by decide), zshl_shl _ (by decide)]
  rfl
/-- blocks that are full don't change -/
theorem zsch_lt (w w' : Nat → Int32) : ∀ (n : Nat), (∀ j, j < 16 → w j = w' j) → ∀ j, j < 16 + n → zsch w n j = zsch w' n j
  | 0, h, j, hj => h j (by omega)
  | n + 1, h, j, hj => by
    have ih := zsch_lt w w' n h
    unfold zsch
    by_cases he : j = 16 + n
    · subst he
      rw [zup_at, zup_at]
      unfold zex
      rw [ih _ (by omega), ih _ (by omega), ih _ (by omega), ih _ (by omega)]
    · rw [zup_ne _ _ he, zup_ne _ _ he]
      exact ih j (by omega)
theorem zrd_lt {v v' : Nat → Int32} {k w : Int32} (h : ∀ j, j < 8 → v j = v' j) : ∀ j, j < 8 → zrd v k w j = zrd v' k w j := by
  intro j hj
  have e0 := h 0 (by decide); have e1 := h 1 (by decide); have e2 := h 2 (by decide); have e3 := h 3 (by decide)
  have e4 := h 4 (by decide); have e5 := h 5 (by decide); have e6 := h 6 (by decide); have e7 := h 7 (by decide)
  match j, hj with
  | 0, _ => simp only [zrd, zfs, e0, e1, e2, e4, e5, e6, e7]
  | 1, _ => exact e0
  | 2, _ => exact e1
  | 3, _ => exact e2
  | 4, _ => simp only [zrd, zfs, e3, e4, e5, e6, e7]
  | 5, _ => exact e4
  | 6, _ => exact e5
  | 7, _ => exact e6
theorem zrds_lt {v v' K K' w w' : Nat → Int32} (h : ∀ j, j < 8 → v j = v' j) : ∀ n, n ≤ 64 → (∀ j, j < 64 → K j = K' j) → (∀ j, j < 64 → w j = w' j) → ∀ j, j < 8 → zrds v K w n j = zrds v' K' w' n j
  | 0, _, _, _, j, hj => h j hj
  | n + 1, hn, hK, hw, j, hj => by
    unfold zrds
    rw [hK n (by omega), hw n (by omega)]
    exact zrd_lt (zrds_lt h n (by omega) hK hw) j hj
theorem zcomp_lt {s s' K K' w w' : Nat → Int32} (h : ∀ j, j < 8 → s j = s' j) (hK : ∀ j, j < 64 → K j = K' j) (hw : ∀ j, j < 64 → w j = w' j) : ∀ j, j < 8 → zcomp s K w j = zcomp s' K' w' j := by
  intro j hj
  unfold zcomp
  rw [if_pos hj, if_pos hj, h j hj, zrds_lt h 64 (by decide) hK hw j hj]
theorem zhs_app {m : List Int32} {b : Int32} : ∀ {q : Nat}, 64 * q ≤ m.length → ∀ j, j < 8 → zhs (m ++ [b]) q j = zhs m q j
  | 0, _, _, _ => rfl
  | q + 1, h, j, hj => by
    unfold zhs
    refine zcomp_lt (zhs_app (q := q) (by omega)) (fun _ _ => rfl) (fun i hi => zsch_lt _ _ 48 (fun k hk => ?_) i (by omega)) j hj
    unfold zblk
    exact zwd_app (by omega)
/-- a byte comes to the message -/
theorem zDig_put {m : List Int32} {I : zI} (hC : zCs I) (h : zDig m I) {b : Int32} : zDig (m ++ [b &&& Int32.ofNat 255]) (zptI I m.length b) := by
  obtain ⟨h1, h2, h3, h4⟩ := h
  generalize hb : b &&& Int32.ofNat 255 = c at *
  have hl : (m ++ [c]).length = m.length + 1 := by simp
  -- the new word
  have hw : ∀ (W : Int32), W = zshl (I 6 (m.length % 64 / 4)) (Int32.ofNat 8) ||| c → (m.length % 4 = 3 → W = zwd (m ++ [c]) (m.length - 3)) ∧
      (m.length % 4 ≠ 3 → zshl W (Int32.ofNat (8 * (4 - (m.length + 1) % 4))) = zshl (zpw (m ++ [c]) (m.length + 1 - (m.length + 1) % 4) ((m.length + 1) % 4)) (Int32.ofNat (8 * (4 - (m.length + 1) % 4)))) := by
    rintro W rfl
    constructor
    · intro h5
      rcases h4 with h4 | h4
      · omega
      · rw [h5] at h4
        have e : zshl (I 6 (m.length % 64 / 4)) (Int32.ofNat 8) = zshl (zpw m (m.length - 3) 3) (Int32.ofNat 8) := h4
        rw [e, ← zpw4]
        show _ = zshl (zpw (m ++ [c]) (m.length - 3) 3) (Int32.ofNat 8) ||| zby (m ++ [c]) (m.length - 3 + 3)
        rw [zpw_app (by omega), show m.length - 3 + 3 = m.length by omega, zby_new]
    · intro h5
      have hq : (m.length + 1) % 4 = m.length % 4 + 1 := by omega
      rw [hq, show m.length + 1 - (m.length % 4 + 1) = m.length - m.length % 4 by omega]
      show _ = zshl (zshl (zpw (m ++ [c]) _ _) _ ||| zby (m ++ [c]) _) _
      rw [zpw_app (by omega), show m.length - m.length % 4 + m.length % 4 = m.length by omega, zby_new, zshl_or, zshl_or]
      congr 1
      rcases h4 with h4 | h4
      · rw [h4]
        show zshl (zshl _ (Int32.ofNat 8)) (Int32.ofNat 24) = zshl (zshl _ (Int32.ofNat 8)) (Int32.ofNat 24)
        rw [zshl_out, zshl_out]
      · have h6 : m.length % 4 = 0 ∨ 8 + 8 * (4 - (m.length % 4 + 1)) < 32 := by omega
        rcases h6 with h6 | h6
        · rw [h6]
          show zshl (zshl _ (Int32.ofNat 8)) (Int32.ofNat 24) = zshl (zshl _ (Int32.ofNat 8)) (Int32.ofNat 24)
          rw [zshl_out, zshl_out]
        · rw [zshl_shl _ h6, zshl_shl _ h6, show 8 + 8 * (4 - (m.length % 4 + 1)) = 8 * (4 - m.length % 4) by omega]
          exact h4
  have r5 : zpt1 I m.length b 5 = I 5 := rfl
  have r2 : zpt1 I m.length b 2 = I 2 := rfl
  have r4 : zpt1 I m.length b 4 2 = Int32.ofNat (m.length + 1) := rfl
  have r6 : ∀ k, zpt1 I m.length b 6 k = if k = m.length % 64 / 4 then zshl (I 6 (m.length % 64 / 4)) (Int32.ofNat 8) ||| c else I 6 k := by
    intro k
    unfold zpt1
    rw [hb]
    show (if (6 : Nat) = 4 ∧ _ then _ else (if (6 : Nat) = 6 ∧ k = m.length % 64 / 4 then _ else _)) = _
    rw [if_neg (by omega)]
    by_cases hk : k = m.length % 64 / 4
    · rw [if_pos ⟨rfl, hk⟩, if_pos hk]
    · rw [if_neg (fun h => hk h.2), if_neg hk]
  obtain ⟨hw3, hwp⟩ := hw _ rfl
  -- the first words of the block
  have hfirst : ∀ k, k < (m.length % 64 + 1) / 4 → zpt1 I m.length b 6 k = zwd (m ++ [c]) (64 * (m.length / 64) + 4 * k) := by
    intro k hk
    rw [r6]
    by_cases hk2 : k = m.length % 64 / 4
    · rw [if_pos hk2, hw3 (by omega)]
      congr 1; omega
    · rw [if_neg hk2, h3 k (by omega), zwd_app (by omega)]
  unfold zptI
  by_cases hf : m.length % 64 = 63
  · rw [if_pos hf]
    have hq : (m.length + 1) / 64 = m.length / 64 + 1 := by omega
    have hz : (m.length + 1) % 64 = 0 := by omega
    refine ⟨?_, fun j hj => ?_, fun k hk => ?_, Or.inl ?_⟩
    · rw [hl]; exact r4
    · rw [hl, hq]
      show zcomp (zpt1 I m.length b 5) (zpt1 I m.length b 2) (zsch (zpt1 I m.length b 6) 48) j = zcomp (zhs (m ++ [c]) (m.length / 64)) zKr (zsch (zblk (m ++ [c]) (m.length / 64)) 48) j
      rw [r5, r2]
      refine zcomp_lt (fun i hi => ?_) (fun i hi => hC.2 i hi) (fun i hi => zsch_lt _ _ 48 (fun k hk => ?_) i (by omega)) j hj
      · rw [h2 i hi, zhs_app (by omega) i hi]
      · exact hfirst k (by omega)
    · rw [hl, hz] at hk; omega
    · rw [hl]; omega
  · rw [if_neg hf]
    have hq : (m.length + 1) / 64 = m.length / 64 := by omega
    refine ⟨?_, fun j hj => ?_, fun k hk => ?_, ?_⟩
    · rw [hl]; exact r4
    · rw [hl, hq, r5, h2 j hj, zhs_app (by omega) j hj]
    · rw [hl, show (m.length + 1) % 64 = m.length % 64 + 1 by omega] at hk
      rw [hl, hq]
      exact hfirst k hk
    · rw [hl]
      by_cases h5 : m.length % 4 = 3
      · exact Or.inl (by omega)
      · refine Or.inr ?_
        have e : (m.length + 1) % 64 / 4 = m.length % 64 / 4 := by omega
        rw [e, r6, if_pos rfl]
        exact hwp h5
end
section
/-! THE DIGESTER: begin, put, putAll, putPart, finish -/
theorem zRet_of {L mj : Nat} {as : List Value} {h : zHp} {v : Option Value} {P : zHp → Prop} (w : zW L mj 0 (zent mj as) [] h (fun o k => o = .inl v ∧ P k)) : ∃ k, zRet L mj as h v k ∧ P k := by
  obtain ⟨n, o, k, e, q1, q2⟩ := w
  exact ⟨k, ⟨n, o, k, e, q1, rfl⟩, q2⟩
theorem zRet_to {L mj : Nat} {as : List Value} {h k : zHp} {v : Option Value} {P : zHp → Prop} (w : zRet L mj as h v k) (hP : P k) : zW L mj 0 (zent mj as) [] h (fun o k => o = .inl v ∧ P k) :=
  zW.mono w (fun o k' hq => ⟨hq.1, by rw [hq.2]; exact hP⟩)
/-- the digester's rows have changed alone -/
def zF3 (I I' : zI) : Prop := ∀ b, b ≠ 4 → b ≠ 5 → b ≠ 6 → I' b = I b
theorem zF3.trans {I I' I'' : zI} (h : zF3 I I') (h' : zF3 I' I'') : zF3 I I'' := fun b h4 h5 h6 => (h' b h4 h5 h6).trans (h b h4 h5 h6)
theorem zF3.refl (I : zI) : zF3 I I := fun _ _ _ _ => rfl
theorem zF3.cs {I I' : zI} (h : zF3 I I') (hC : zCs I) : zCs I' := by
  refine ⟨fun j hj => ?_, fun j hj => ?_⟩
  · rw [h 1 (by decide) (by decide) (by decide)]; exact hC.1 j hj
  · rw [h 2 (by decide) (by decide) (by decide)]; exact hC.2 j hj
def zPd (m : List Int32) (N U : Nat) (I : zI) (J : zJ) (R : zR) : zHp → Prop := fun k => ∃ I' : zI, k = (N, U, I', J, R) ∧ zDig m I' ∧ zF3 I I'
theorem zptI_fr (I : zI) (n : Nat) (b : Int32) : zF3 I (zptI I n b) := by
  intro r h4 h5 h6
  have e : zpt1 I n b r = I r := by
    unfold zpt1
    rw [zu_rw, zrw_ne _ _ h4, zu_rw, zrw_ne _ _ h6]
  unfold zptI
  by_cases hf : n % 64 = 63
  · rw [if_pos hf]
    unfold zblkI
    rw [zrw_ne _ _ h5, zrw_ne _ _ h6, e]
  · rw [if_neg hf, e]
/-- so many bytes of a row -/
def zrow (f : Nat → Int32) (p n : Nat) : List Int32 := (List.range n).map (fun i => f (p + i) &&& Int32.ofNat 255)
theorem zrow_len (f : Nat → Int32) (p n : Nat) : (zrow f p n).length = n := by simp [zrow]
theorem zrow_succ (f : Nat → Int32) (p n : Nat) : zrow f p (n + 1) = zrow f p n ++ [f (p + n) &&& Int32.ofNat 255] := by
  unfold zrow
  rw [List.range_succ, List.map_append]; rfl
section ZDG
variable {L N U : Nat} {I : zI} {J : zJ} {R : zR} {m : List Int32}
theorem zs_put (h0 : R 4 0 = some 5) (h1 : R 4 1 = some 6) (hN : 6 < N) (hC : zCs I) (hm : zDig m I) (hs : m.length < 1000000) (b : Int32) : ∃ I', zRet L 8 [.ref 4, .int b] (N, U, I, J, R) none (N, U, I', J, R) ∧ zDig (m ++ [b &&& Int32.ofNat 255]) I' ∧ zF3 I I' :=
  ⟨_, zc_put h0 h1 hN hm.1 hs b, zDig_put hC hm, zptI_fr I m.length b⟩
theorem zs_begin (h0 : R 4 0 = some 5) (hN : 6 < N) (hC : zCs I) : ∃ I', zRet L 6 [.ref 4] (N, U, I, J, R) none (N, U, I', J, R) ∧ zDig [] I' ∧ zF3 I I' := by
  refine ⟨_, zc_begin h0 hN, ⟨rfl, fun j hj => ?_, fun k hk => ?_, Or.inl rfl⟩, fun b h4 h5 h6 => ?_⟩
  · show (if j < 8 then I 1 j else I 5 j) = zHs j
    rw [if_pos hj]; exact hC.1 j hj
  · exact absurd hk (by show ¬ k < 0 % 64 / 4; omega)
  · rw [zu_rw, zrw_ne _ _ h4, zrw_ne _ _ h5]
/-- putAll's loop: i bytes have come -/
theorem zc_putAll0 (h0 : R 4 0 = some 5) (h1 : R 4 1 = some 6) (hN : 6 < N) {a n : Nat} (ha : zk L (N, U, I, J, R) a = some (.inl (.int, n))) (ha4 : a ≠ 4 ∧ a ≠ 5 ∧ a ≠ 6) (hn : n ≤ 65536) (hs : m.length + n < 1000000) : ∀ (q i : Nat) (I' : zI) (l5 : Option Value), i + q = n → zCs I' → zDig (m ++ zrow (I a) 0 i) I' → zF3 I I' →
    zW L 21 8 [some (.ref 4), some (.ref a), some (.ref a), some (.int (Int32.ofNat n)), some (.int (Int32.ofNat i)), l5] [] (N, U, I', J, R) (fun o k => o = .inl none ∧ zPd (m ++ zrow (I a) 0 n) N U I J R k) := by
  intro q
  induction q with
  | zero =>
    intro i I' l5 hi hC hd hf
    obtain rfl : i = n := by omega
    refine zx_il4 zd21_8 ?_
    refine zx_il3 zd21_10 ?_
    first | ((with_reducible refine zx_icmpgeN zd21_11 ?s3 (fun hc => ?_) (fun hc => ?_)); (case s3 => omega)) | refine zx_icmpge zd21_11 (fun hc => ?_) (fun hc => ?_)
    · refine zx_vret zd21_32 rfl ?_
      exact ⟨rfl, I', rfl, hd, hf⟩
    · omega
  | succ q ih =>
    intro i I' l5 hi hC hd hf
    have ha' : zk L (N, U, I', J, R) a = some (.inl (.int, n)) := ha
    refine zx_il4 zd21_8 ?_
    refine zx_il3 zd21_10 ?_
    first | ((with_reducible refine zx_icmpgeN zd21_11 ?s7 (fun hc => ?_) (fun hc => ?_)); (case s7 => omega)) | refine zx_icmpge zd21_11 (fun hc => ?_) (fun hc => ?_)
    · omega
    · refine zx_al2 zd21_14 ?_
      refine zx_il4 zd21_15 ?_
      (with_reducible refine' zx_ialdN zd21_17 ?k10 ?j10 ?_); (case k10 => first | exact zkk rfl (by omega) | exact zkk (zK_B0 (by omega)) (by omega) | exact zkk ((zK_B (by omega) (by decide)).trans rfl) (by omega) | exact zkk (zK_row (by omega) (by omega)) (by omega) | exact zkk (zK_file (by omega) (by omega)) (by omega) | exact zkk (zK_byte (by omega) (by omega)) (by omega) | exact zkk (zK_list (by omega)) (by omega) | assumption); (case j10 => omega)
      refine zx_is5 zd21_18 rfl ?_
      refine zx_al0 zd21_20 ?_
      refine zx_il5 zd21_21 ?_
      obtain ⟨I2, hr, hd2, hf2⟩ := zs_put (L := L) (U := U) (J := J) h0 h1 hN hC hd (by rw [List.length_append, zrow_len]; omega) (I' a i)
      (refine zx_cv1V zd21_23 ?k14 (hr) ?_); (case k14 => first | exact zkk rfl (by omega) | exact zkk (zK_B0 (by omega)) (by omega) | exact zkk ((zK_B (by omega) (by decide)).trans rfl) (by omega) | exact zkk (zK_row (by omega) (by omega)) (by omega) | exact zkk (zK_file (by omega) (by omega)) (by omega) | exact zkk (zK_byte (by omega) (by omega)) (by omega) | exact zkk (zK_list (by omega)) (by omega) | assumption)
      first | with_reducible refine zx_iin4 zd21_26 ?_ | refine zx_ii4 zd21_26 ?_
      refine zx_goto zd21_29 ?_
      refine ih (i + 1) I2 _ (by omega) (hf2.cs hC) ?_ (hf.trans hf2)
      rw [zrow_succ, ← List.append_assoc]
      rw [hf a ha4.1 ha4.2.1 ha4.2.2] at hd2
      rw [Nat.zero_add]
      exact hd2
theorem zs_putAll (h0 : R 4 0 = some 5) (h1 : R 4 1 = some 6) (hN : 6 < N) {a n : Nat} (ha : zk L (N, U, I, J, R) a = some (.inl (.int, n))) (ha4 : a ≠ 4 ∧ a ≠ 5 ∧ a ≠ 6) (hn : n ≤ 65536) (hC : zCs I) (hm : zDig m I) (hs : m.length + n < 1000000) : ∃ I', zRet L 21 [.ref 4, .ref a] (N, U, I, J, R) none (N, U, I', J, R) ∧ zDig (m ++ zrow (I a) 0 n) I' ∧ zF3 I I' := by
  have w : zW L 21 0 (zent 21 [.ref 4, .ref a]) [] (N, U, I, J, R) (fun o k => o = .inl none ∧ zPd (m ++ zrow (I a) 0 n) N U I J R k) := by
    show zW L 21 0 [some (.ref 4), some (.ref a), none, none, none, none] [] _ _
    refine zx_al1 zd21_0 ?_
    refine zx_as2 zd21_1 rfl ?_
    refine zx_al2 zd21_2 ?_
    (refine' zx_alen zd21_3 ?k20 ?_); (case k20 => first | exact zkk rfl (by omega) | exact zkk (zK_B0 (by omega)) (by omega) | exact zkk ((zK_B (by omega) (by decide)).trans rfl) (by omega) | exact zkk (zK_row (by omega) (by omega)) (by omega) | exact zkk (zK_file (by omega) (by omega)) (by omega) | exact zkk (zK_byte (by omega) (by omega)) (by omega) | exact zkk (zK_list (by omega)) (by omega) | assumption)
    refine zx_is3 zd21_4 rfl ?_
    refine zx_c zd21_5 ?_
    refine zx_is4 zd21_6 rfl ?_
    exact zc_putAll0 h0 h1 hN ha ha4 hn hs n 0 I _ (by omega) hC (by show zDig (m ++ []) I; rw [List.append_nil]; exact hm) (zF3.refl I)
  obtain ⟨k, hr, I', rfl, hd, hf⟩ := zRet_of w
  exact ⟨I', hr, hd, hf⟩
theorem zc_putPart0 (h0 : R 4 0 = some 5) (h1 : R 4 1 = some 6) (hN : 6 < N) {a n p c : Nat} (ha : zk L (N, U, I, J, R) a = some (.inl (.int, n))) (ha4 : a ≠ 4 ∧ a ≠ 5 ∧ a ≠ 6) (hn : n ≤ 65536) (hp : p + c ≤ n) (hs : m.length + c < 1000000) (l2 l3 : Option Value) : ∀ (q i : Nat) (I' : zI), i + q = c → zCs I' → zDig (m ++ zrow (I a) p i) I' → zF3 I I' →
    zW L 19 13 [some (.ref 4), some (.ref a), l2, l3, some (.int (Int32.ofNat (p + c))), some (.int (Int32.ofNat (p + i)))] [] (N, U, I', J, R) (fun o k => o = .inl none ∧ zPd (m ++ zrow (I a) p c) N U I J R k) := by
  intro q
  induction q with
  | zero =>
    intro i I' hi hC hd hf
    obtain rfl : i = c := by omega
    refine zx_il5 zd19_13 ?_
    refine zx_il4 zd19_15 ?_
    first | ((with_reducible refine zx_icmpgeN zd19_17 ?s26 (fun hc => ?_) (fun hc => ?_)); (case s26 => omega)) | refine zx_icmpge zd19_17 (fun hc => ?_) (fun hc => ?_)
    · refine zx_vret zd19_34 rfl ?_
      exact ⟨rfl, I', rfl, hd, hf⟩
    · omega
  | succ q ih =>
    intro i I' hi hC hd hf
    have ha' : zk L (N, U, I', J, R) a = some (.inl (.int, n)) := ha
    refine zx_il5 zd19_13 ?_
    refine zx_il4 zd19_15 ?_
    first | ((with_reducible refine zx_icmpgeN zd19_17 ?s30 (fun hc => ?_) (fun hc => ?_)); (case s30 => omega)) | refine zx_icmpge zd19_17 (fun hc => ?_) (fun hc => ?_)
    · omega
    · refine zx_al0 zd19_20 ?_
      refine zx_al1 zd19_21 ?_
      refine zx_il5 zd19_22 ?_
      (with_reducible refine' zx_ialdN zd19_24 ?k34 ?j34 ?_); (case k34 => first | exact zkk rfl (by omega) | exact zkk (zK_B0 (by omega)) (by omega) | exact zkk ((zK_B (by omega) (by decide)).trans rfl) (by omega) | exact zkk (zK_row (by omega) (by omega)) (by omega) | exact zkk (zK_file (by omega) (by omega)) (by omega) | exact zkk (zK_byte (by omega) (by omega)) (by omega) | exact zkk (zK_list (by omega)) (by omega) | assumption); (case j34 => omega)
      obtain ⟨I2, hr, hd2, hf2⟩ := zs_put (L := L) (U := U) (J := J) h0 h1 hN hC hd (by rw [List.length_append, zrow_len]; omega) (I' a (p + i))
      (refine zx_cv1V zd19_25 ?k35 (hr) ?_); (case k35 => first | exact zkk rfl (by omega) | exact zkk (zK_B0 (by omega)) (by omega) | exact zkk ((zK_B (by omega) (by decide)).trans rfl) (by omega) | exact zkk (zK_row (by omega) (by omega)) (by omega) | exact zkk (zK_file (by omega) (by omega)) (by omega) | exact zkk (zK_byte (by omega) (by omega)) (by omega) | exact zkk (zK_list (by omega)) (by omega) | assumption)
      first | with_reducible refine zx_iin5 zd19_28 ?_ | refine zx_ii5 zd19_28 ?_
      refine zx_goto zd19_31 ?_
      refine ih (i + 1) I2 (by omega) (hf2.cs hC) ?_ (hf.trans hf2)
      rw [zrow_succ, ← List.append_assoc]
      rw [hf a ha4.1 ha4.2.1 ha4.2.2] at hd2
      exact hd2
theorem zs_putPart (h0 : R 4 0 = some 5) (h1 : R 4 1 = some 6) (hN : 6 < N) {a n p c : Nat} (ha : zk L (N, U, I, J, R) a = some (.inl (.int, n))) (ha4 : a ≠ 4 ∧ a ≠ 5 ∧ a ≠ 6) (hn : n ≤ 65536) (hp : p + c ≤ n) (hC : zCs I) (hm : zDig m I) (hs : m.length + c < 1000000) : ∃ I', zRet L 19 [.ref 4, .ref a, .int (Int32.ofNat p), .int (Int32.ofNat c)] (N, U, I, J, R) none (N, U, I', J, R) ∧ zDig (m ++ zrow (I a) p c) I' ∧ zF3 I I' := by
  have w : zW L 19 0 (zent 19 [.ref 4, .ref a, .int (Int32.ofNat p), .int (Int32.ofNat c)]) [] (N, U, I, J, R) (fun o k => o = .inl none ∧ zPd (m ++ zrow (I a) p c) N U I J R k) := by
    show zW L 19 0 [some (.ref 4), some (.ref a), some (.int (Int32.ofNat p)), some (.int (Int32.ofNat c)), none, none] [] _ _
    refine zx_il2 zd19_0 ?_
    refine zx_il3 zd19_1 ?_
    first | with_reducible refine zx_addN zd19_2 ?_ | refine zx_add zd19_2 ?_
    refine zx_al1 zd19_3 ?_
    (refine' zx_alen zd19_4 ?k42 ?_); (case k42 => first | exact zkk rfl (by omega) | exact zkk (zK_B0 (by omega)) (by omega) | exact zkk ((zK_B (by omega) (by decide)).trans rfl) (by omega) | exact zkk (zK_row (by omega) (by omega)) (by omega) | exact zkk (zK_file (by omega) (by omega)) (by omega) | exact zkk (zK_byte (by omega) (by omega)) (by omega) | exact zkk (zK_list (by omega)) (by omega) | assumption)
    refine zx_min zd19_5 rfl ?_
    rw [if_neg (by rw [zn_lt (by omega) (by omega)]; omega)]
    refine zx_is4 zd19_8 rfl ?_
    refine zx_il2 zd19_10 ?_
    refine zx_is5 zd19_11 rfl ?_
    exact zc_putPart0 h0 h1 hN ha ha4 hn hp hs _ _ c 0 I (by omega) hC (by show zDig (m ++ []) I; rw [List.append_nil]; exact hm) (zF3.refl I)
  obtain ⟨k, hr, I', rfl, hd, hf⟩ := zRet_of w
  exact ⟨I', hr, hd, hf⟩
end ZDG
end
section
/-! THE DIGEST of a message -/
/-- the places from p on are filled, n of them -/
def zfill {α : Type} (f : Nat → α) (p n : Nat) (g : Nat → α) : Nat → α := fun j => if p ≤ j ∧ j < p + n then g (j - p) else f j
theorem zfill_zero {α : Type} (f : Nat → α) (p : Nat) (g : Nat → α) : zfill f p 0 g = f := by
  funext j
  exact if_neg (by omega)
theorem zfill_succ {α : Type} (f : Nat → α) (p n : Nat) (g : Nat → α) : zup (zfill f p n g) (p + n) (g n) = zfill f p (n + 1) g := by
  funext j
  show (if j = p + n then g n else (if p ≤ j ∧ j < p + n then g (j - p) else f j)) = (if p ≤ j ∧ j < p + (n + 1) then g (j - p) else f j)
  by_cases hj : j = p + n
  · rw [if_pos hj, if_pos (by omega), hj, Nat.add_sub_cancel_left]
  · rw [if_neg hj]
    by_cases hj2 : p ≤ j ∧ j < p + n
    · rw [if_pos hj2, if_pos (by omega)]
    · rw [if_neg hj2, if_neg (by omega)]
theorem zfill_in {α : Type} (f : Nat → α) (p n : Nat) (g : Nat → α) {j : Nat} (h : j < n) : zfill f p n g (p + j) = g j := by
  show (if p ≤ p + j ∧ p + j < p + n then g (p + j - p) else f (p + j)) = g j
  rw [if_pos (by omega), Nat.add_sub_cancel_left]
theorem zfill_in0 {α : Type} (f : Nat → α) (n : Nat) (g : Nat → α) {j : Nat} (h : j < n) : zfill f 0 n g j = g j := by
  have := zfill_in f 0 n g h
  rw [Nat.zero_add] at this
  exact this
theorem zfill_out {α : Type} (f : Nat → α) (p n : Nat) (g : Nat → α) {j : Nat} (h : ¬ (p ≤ j ∧ j < p + n)) : zfill f p n g j = f j := if_neg h
def zlb (n k : Nat) : Int32 := Int32.ofNat ((n * 8) >>> k &&& 255)
def zzs (n : Nat) : Nat := (119 - n % 64) % 64 + 4
def zpad (m : List Int32) : List Int32 := m ++ [Int32.ofNat 128] ++ List.replicate (zzs m.length) (Int32.ofNat 0) ++ [zlb m.length 24, zlb m.length 16, zlb m.length 8, zlb m.length 0]
def zsha (m : List Int32) (i : Nat) : Int32 := zush (zhs (zpad m) ((zpad m).length / 64) (i / 4)) (Int32.ofNat (24 - 8 * (i % 4))) &&& Int32.ofNat 255
def zoutb (s : Nat → Int32) (i : Nat) : Int32 := zush (s (i / 4)) (Int32.ofNat (24 - 8 * (i % 4))) &&& Int32.ofNat 255
theorem zpad_len (m : List Int32) : (zpad m).length = m.length + 5 + zzs m.length := by
  unfold zpad
  simp only [List.length_append, List.length_replicate, List.length_cons, List.length_nil]
  omega
theorem zpad_64 (m : List Int32) : (zpad m).length % 64 = 0 := by
  rw [zpad_len]; unfold zzs; omega
theorem zn_ush {a b : Nat} (ha : a < 2147483648) (hb : b < 32) : zush (Int32.ofNat a) (Int32.ofNat b) = Int32.ofNat (a >>> b) := by
  have hs : ∀ q : Fin 32, ((Int32.ofNat q.val).toUInt32 &&& Int32.toUInt32 31).toBitVec % 32 = BitVec.ofNat 32 q.val := by decide
  unfold zush
  apply Int32.toBitVec_inj.mp
  show ((Int32.ofNat a).toUInt32 >>> ((Int32.ofNat b).toUInt32 &&& Int32.toUInt32 31)).toBitVec = BitVec.ofNat 32 (a >>> b)
  rw [UInt32.toBitVec_shiftRight, hs ⟨b, hb⟩]
  apply BitVec.eq_of_toNat_eq
  show (BitVec.ofNat 32 a >>> (BitVec.ofNat 32 b).toNat).toNat = _
  rw [BitVec.toNat_ushiftRight, BitVec.toNat_ofNat, BitVec.toNat_ofNat, BitVec.toNat_ofNat]
  rw [Nat.mod_eq_of_lt (show a < 2 ^ 32 by omega), Nat.mod_eq_of_lt (show b < 2 ^ 32 by omega)]
  rw [Nat.mod_eq_of_lt]
  have : a >>> b ≤ a := Nat.shiftRight_le a b
  omega
theorem zn_zeros {n : Nat} (hn : n < 1000000) : (Int32.ofNat 56 - Int32.ofNat (n + 1)) &&& Int32.ofNat 63 = Int32.ofNat ((119 - n % 64) % 64) := by
  have e : Int32.ofNat 56 - Int32.ofNat (n + 1) = Int32.ofNat (4294967352 - (n + 1)) := by
    rw [Int32.ofNat_sub _ _ (by omega)]
    rfl
  rw [e, zn_and, zn_63]
  congr 1
  omega
theorem zap (m : List Int32) (b : Int32) (r : List Int32) : m ++ [b] ++ r = m ++ (b :: r) := by simp
section ZFIN
variable {L N U : Nat} {I : zI} {J : zJ} {R : zR} {m : List Int32}
theorem zrep_succ (n : Nat) (x : Int32) : List.replicate (n + 1) x = List.replicate n x ++ [x] := List.replicate_succ'
/-- the digester's rows and the row a have changed alone -/
def zF4 (a : Nat) (I I' : zI) : Prop := ∀ b, b ≠ 4 → b ≠ 5 → b ≠ 6 → b ≠ a → I' b = I b
theorem zF4.trans {a : Nat} {I I' I'' : zI} (h : zF4 a I I') (h' : zF4 a I' I'') : zF4 a I I'' := fun b h4 h5 h6 ha => (h' b h4 h5 h6 ha).trans (h b h4 h5 h6 ha)
theorem zF3.to4 {a : Nat} {I I' : zI} (h : zF3 I I') : zF4 a I I' := fun b h4 h5 h6 _ => h b h4 h5 h6
theorem zF4.cs {a : Nat} {I I' : zI} (h : zF4 a I I') (ha : 3 ≤ a) (hC : zCs I) : zCs I' := by
  refine ⟨fun j hj => ?_, fun j hj => ?_⟩
  · rw [h 1 (by decide) (by decide) (by decide) (by omega)]; exact hC.1 j hj
  · rw [h 2 (by decide) (by decide) (by decide) (by omega)]; exact hC.2 j hj
theorem zc_fin1 (h0 : R 4 0 = some 5) (h1 : R 4 1 = some 6) (hN : 6 < N) (l1 l2 : Option Value) {z : Nat} (hz : z < 100) (hs : m.length < 100000) {Q : zOut → zHp → Prop} {I0 : zI}
    (kk : ∀ (I' : zI) (l4 : Option Value), zCs I' → zDig (m ++ List.replicate (z + 4) (Int32.ofNat 0)) I' → zF3 I0 I' → zW L 7 48 [some (.ref 4), l1, l2, some (.int (Int32.ofNat z)), l4] [] (N, U, I', J, R) Q) :
    ∀ (q i : Nat) (I' : zI), i + q = z + 4 → zCs I' → zDig (m ++ List.replicate i (Int32.ofNat 0)) I' → zF3 I0 I' → zW L 7 29 [some (.ref 4), l1, l2, some (.int (Int32.ofNat z)), some (.int (Int32.ofNat i))] [] (N, U, I', J, R) Q := by
  intro q
  induction q with
  | zero =>
    intro i I' hi hC hd hf
    obtain rfl : i = z + 4 := by omega
    refine zx_il4 zd7_29 ?_
    refine zx_il3 zd7_31 ?_
    refine zx_c zd7_32 ?_
    first | with_reducible refine zx_addN zd7_33 ?_ | refine zx_add zd7_33 ?_
    first | ((with_reducible refine zx_icmpgeN zd7_34 ?s5 (fun hc => ?_) (fun hc => ?_)); (case s5 => omega)) | refine zx_icmpge zd7_34 (fun hc => ?_) (fun hc => ?_)
    · exact kk I' _ hC hd hf
    · omega
  | succ q ih =>
    intro i I' hi hC hd hf
    refine zx_il4 zd7_29 ?_
    refine zx_il3 zd7_31 ?_
    refine zx_c zd7_32 ?_
    first | with_reducible refine zx_addN zd7_33 ?_ | refine zx_add zd7_33 ?_
    first | ((with_reducible refine zx_icmpgeN zd7_34 ?s10 (fun hc => ?_) (fun hc => ?_)); (case s10 => omega)) | refine zx_icmpge zd7_34 (fun hc => ?_) (fun hc => ?_)
    · omega
    · refine zx_al0 zd7_37 ?_
      refine zx_c zd7_38 ?_
      obtain ⟨I2, hr, hd2, hf2⟩ := zs_put (L := L) (U := U) (J := J) h0 h1 hN hC hd (by rw [List.length_append, List.length_replicate]; omega) (Int32.ofNat 0)
      (refine zx_cv1V zd7_39 ?k13 (hr) ?_); (case k13 => first | exact zkk rfl (by omega) | exact zkk (zK_B0 (by omega)) (by omega) | exact zkk ((zK_B (by omega) (by decide)).trans rfl) (by omega) | exact zkk (zK_row (by omega) (by omega)) (by omega) | exact zkk (zK_file (by omega) (by omega)) (by omega) | exact zkk (zK_byte (by omega) (by omega)) (by omega) | exact zkk (zK_list (by omega)) (by omega) | assumption)
      first | with_reducible refine zx_iin4 zd7_42 ?_ | refine zx_ii4 zd7_42 ?_
      refine zx_goto zd7_45 ?_
      refine ih (i + 1) I2 (by omega) (hf2.cs hC) ?_ (hf.trans hf2)
      rw [zrep_succ, ← List.append_assoc]
      exact hd2
theorem zc_fin2 (h0 : R 4 0 = some 5) (hN : 6 < N) {a : Nat} (ha : zk L (N, U, I, J, R) a = some (.inl (.int, 32))) (ha4 : 6 < a) (l2 l3 : Option Value) : ∀ (q i : Nat), i + q = 32 →
    zW L 7 80 [some (.ref 4), some (.ref a), l2, l3, some (.int (Int32.ofNat i))] [] (N, U, zrw I a (zfill (I a) 0 i (zoutb (I 5))), J, R)
      (fun o k => o = .inl none ∧ k = (N, U, zrw I a (zfill (I a) 0 32 (zoutb (I 5))), J, R)) := by
  intro q
  induction q with
  | zero =>
    intro i hi
    obtain rfl : i = 32 := by omega
    refine zx_il4 zd7_80 ?_
    refine zx_c zd7_82 ?_
    first | ((with_reducible refine zx_icmpgeN zd7_84 ?s18 (fun hc => ?_) (fun hc => ?_)); (case s18 => omega)) | refine zx_icmpge zd7_84 (fun hc => ?_) (fun hc => ?_)
    · refine zx_vret zd7_128 rfl ?_
      exact ⟨rfl, rfl⟩
    · omega
  | succ q ih =>
    intro i hi
    have ha' : ∀ I' : zI, zk L (N, U, I', J, R) a = some (.inl (.int, 32)) := fun _ => ha
    refine zx_il4 zd7_80 ?_
    refine zx_c zd7_82 ?_
    first | ((with_reducible refine zx_icmpgeN zd7_84 ?s22 (fun hc => ?_) (fun hc => ?_)); (case s22 => omega)) | refine zx_icmpge zd7_84 (fun hc => ?_) (fun hc => ?_)
    · omega
    · refine zx_il4 zd7_87 ?_
      refine zx_al1 zd7_89 ?_
      (refine' zx_alen zd7_90 ?k25 ?_); (case k25 => first | exact ha' _ | exact zkk rfl (by omega))
      first | ((with_reducible refine zx_icmpgeN zd7_91 ?s26 (fun hc2 => ?_) (fun hc2 => ?_)); (case s26 => omega)) | refine zx_icmpge zd7_91 (fun hc2 => ?_) (fun hc2 => ?_)
      · omega
      · refine zx_al1 zd7_94 ?_
        refine zx_il4 zd7_95 ?_
        refine zx_al0 zd7_97 ?_
        (refine' zx_gfA zd7_98 ?k30 ?r30 ?_); (case k30 => first | exact ha' _ | exact zkk rfl (by omega)); (case r30 => first | exact hR _ _ _ rfl | assumption)
        refine zx_il4 zd7_101 ?_
        refine zx_c zd7_103 ?_
        first | ((with_reducible refine zx_shrN zd7_104 ?h33 ?_); (case h33 => omega)) | refine zx_shr zd7_104 ?_
        rw [zn_s2]
        (with_reducible refine' zx_ialdN zd7_105 ?k34 ?j34 ?_); (case k34 => first | exact ha' _ | exact zkk rfl (by omega)); (case j34 => omega)
        refine zx_c zd7_106 ?_
        refine zx_c zd7_108 ?_
        refine zx_il4 zd7_110 ?_
        refine zx_c zd7_112 ?_
        first | with_reducible refine zx_andN zd7_113 ?_ | refine zx_and zd7_113 ?_
        rw [zn_3]
        first | with_reducible refine zx_mulN zd7_114 ?_ | refine zx_mul zd7_114 ?_
        first | ((with_reducible refine zx_subN zd7_115 ?h41 ?_); (case h41 => omega)) | refine zx_sub zd7_115 ?_
        refine zx_ushr zd7_116 ?_
        refine zx_c zd7_117 ?_
        first | with_reducible refine zx_andN zd7_120 ?_ | refine zx_and zd7_120 ?_
        (with_reducible refine' zx_iastN zd7_121 ?k45 ?j45 ?a45 ?_); (case k45 => first | exact ha' _ | exact zkk rfl (by omega)); (case j45 => omega); (case a45 => omega)
        first | with_reducible refine zx_iin4 zd7_122 ?_ | refine zx_ii4 zd7_122 ?_
        refine zx_goto zd7_125 ?_
        rw [zrw_ne _ _ (show 5 ≠ a by omega)]
        have e := zfill_succ (I a) 0 i (zoutb (I 5))
        rw [Nat.zero_add] at e
        have k := ih (i + 1) (by omega)
        rw [← e] at k
        rw [zu_rw, zrw_rw, zrw_at]
        exact k
/-- finish -/
theorem zs_finish (h0 : R 4 0 = some 5) (h1 : R 4 1 = some 6) (hN : 6 < N) {a : Nat} (ha : zk L (N, U, I, J, R) a = some (.inl (.int, 32))) (ha4 : 6 < a) (hC : zCs I) (hm : zDig m I) (hs : m.length < 10000) :
    ∃ I', zRet L 7 [.ref 4, .ref a] (N, U, I, J, R) none (N, U, I', J, R) ∧ I' a = zfill (I a) 0 32 (zsha m) ∧ zF4 a I I' := by
  have w : zW L 7 0 (zent 7 [.ref 4, .ref a]) [] (N, U, I, J, R) (fun o k => o = .inl none ∧ ∃ I' : zI, k = (N, U, I', J, R) ∧ I' a = zfill (I a) 0 32 (zsha m) ∧ zF4 a I I') := by
    show zW L 7 0 [some (.ref 4), some (.ref a), none, none, none] [] _ _
    refine zx_al0 zd7_0 ?_
    (refine zx_gfI zd7_1 ?k49 ?_); (case k49 => first | exact ha' _ | exact zkk rfl (by omega))
    rw [hm.1]
    refine zx_c zd7_4 ?_
    first | with_reducible refine zx_mulN zd7_6 ?_ | refine zx_mul zd7_6 ?_
    refine zx_is2 zd7_7 rfl ?_
    refine zx_al0 zd7_8 ?_
    refine zx_c zd7_9 ?_
    obtain ⟨I1, hr1, hd1, hf1⟩ := zs_put (L := L) (U := U) (J := J) h0 h1 hN hC hm (by omega) (Int32.ofNat 128)
    (refine zx_cv1V zd7_12 ?k55 (hr1) ?_); (case k55 => first | exact ha' _ | exact zkk rfl (by omega))
    refine zx_c zd7_15 ?_
    refine zx_al0 zd7_17 ?_
    (refine zx_gfI zd7_18 ?k58 ?_); (case k58 => first | exact ha' _ | exact zkk rfl (by omega))
    have el : (m ++ [Int32.ofNat 128 &&& Int32.ofNat 255]).length = m.length + 1 := by simp
    rw [hd1.1, el]
    refine zx_sub zd7_21 ?_
    refine zx_c zd7_22 ?_
    refine zx_and zd7_24 ?_
    rw [zn_zeros (by omega)]
    refine zx_is3 zd7_25 rfl ?_
    refine zx_c zd7_26 ?_
    refine zx_is4 zd7_27 rfl ?_
    refine zc_fin1 (m := m ++ [Int32.ofNat 128 &&& Int32.ofNat 255]) h0 h1 hN _ _ (z := (119 - m.length % 64) % 64) (by omega) (by rw [el]; omega) (I0 := I1) ?_ _ 0 I1 (by rw [Nat.zero_add]) (hf1.cs hC) (by show zDig (_ ++ []) I1; rw [List.append_nil]; exact hd1) (zF3.refl I1)
    intro I2 l4 hC2 hd2 hf2
    have el2 : (m ++ [Int32.ofNat 128 &&& Int32.ofNat 255] ++ List.replicate ((119 - m.length % 64) % 64 + 4) (Int32.ofNat 0)).length < 100000 := by
      rw [List.length_append, el, List.length_replicate]; omega
    refine zx_al0 zd7_48 ?_
    refine zx_il2 zd7_49 ?_
    refine zx_c zd7_50 ?_
    refine zx_ushr zd7_52 ?_
    obtain ⟨I3, hr3, hd3, hf3⟩ := zs_put (L := L) (U := U) (J := J) h0 h1 hN hC2 hd2 (by omega) (zush (Int32.ofNat (m.length * 8)) (Int32.ofNat 24))
    (refine zx_cv1V zd7_53 ?k66 (hr3) ?_); (case k66 => first | exact ha' _ | exact zkk rfl (by omega))
    have hC3 := hf3.cs hC2
    refine zx_al0 zd7_56 ?_
    refine zx_il2 zd7_57 ?_
    refine zx_c zd7_58 ?_
    refine zx_ushr zd7_60 ?_
    obtain ⟨I4, hr4, hd4, hf4⟩ := zs_put (L := L) (U := U) (J := J) h0 h1 hN hC3 hd3 (by rw [List.length_append, List.length_singleton]; omega) (zush (Int32.ofNat (m.length * 8)) (Int32.ofNat 16))
    (refine zx_cv1V zd7_61 ?k71 (hr4) ?_); (case k71 => first | exact ha' _ | exact zkk rfl (by omega))
    have hC4 := hf4.cs hC3
    refine zx_al0 zd7_64 ?_
    refine zx_il2 zd7_65 ?_
    refine zx_c zd7_66 ?_
    refine zx_ushr zd7_68 ?_
    obtain ⟨I5, hr5, hd5, hf5⟩ := zs_put (L := L) (U := U) (J := J) h0 h1 hN hC4 hd4 (by rw [List.length_append, List.length_append, List.length_singleton, List.length_singleton]; omega) (zush (Int32.ofNat (m.length * 8)) (Int32.ofNat 8))
    (refine zx_cv1V zd7_69 ?k76 (hr5) ?_); (case k76 => first | exact ha' _ | exact zkk rfl (by omega))
    have hC5 := hf5.cs hC4
    refine zx_al0 zd7_72 ?_
    refine zx_il2 zd7_73 ?_
    obtain ⟨I6, hr6, hd6, hf6⟩ := zs_put (L := L) (U := U) (J := J) h0 h1 hN hC5 hd5 (by rw [List.length_append, List.length_append, List.length_append, List.length_singleton, List.length_singleton, List.length_singleton]; omega) (Int32.ofNat (m.length * 8))
    (refine zx_cv1V zd7_74 ?k79 (hr6) ?_); (case k79 => first | exact ha' _ | exact zkk rfl (by omega))
    have hF : zF3 I I6 := ((((hf1.trans hf2).trans hf3).trans hf4).trans hf5).trans hf6
    have hpad : zDig (zpad m) I6 := by
      have e : zpad m = m ++ [Int32.ofNat 128 &&& Int32.ofNat 255] ++ List.replicate ((119 - m.length % 64) % 64 + 4) (Int32.ofNat 0) ++ [zush (Int32.ofNat (m.length * 8)) (Int32.ofNat 24) &&& Int32.ofNat 255] ++ [zush (Int32.ofNat (m.length * 8)) (Int32.ofNat 16) &&& Int32.ofNat 255] ++ [zush (Int32.ofNat (m.length * 8)) (Int32.ofNat 8) &&& Int32.ofNat 255] ++ [Int32.ofNat (m.length * 8) &&& Int32.ofNat 255] := by
        rw [show Int32.ofNat 128 &&& Int32.ofNat 255 = Int32.ofNat 128 from rfl, zn_ush (by omega) (by decide), zn_ush (by omega) (by decide), zn_ush (by omega) (by decide), zn_and, zn_and, zn_and, zn_and]
        unfold zpad zlb zzs
        simp
      rw [e]; exact hd6
    have hst : ∀ j, j < 8 → I6 5 j = zhs (zpad m) ((zpad m).length / 64) j := hpad.2.1
    refine zx_c zd7_77 ?_
    refine zx_is4 zd7_78 rfl ?_
    have ha6 : zk L (N, U, I6, J, R) a = some (.inl (.int, 32)) := ha
    have k := zc_fin2 (L := L) (U := U) (I := I6) (J := J) h0 hN ha6 ha4 (some (.int (Int32.ofNat (m.length * 8)))) (some (.int (Int32.ofNat ((119 - m.length % 64) % 64)))) 32 0 rfl
    rw [zfill_zero, zrw_id] at k
    refine zW.mono k (fun o k hq => ?_)
    obtain ⟨rfl, rfl⟩ := hq
    refine ⟨rfl, _, rfl, ?_, fun b h4 h5 h6 hb => ?_⟩
    · rw [zrw_at, hF a (by omega) (by omega) (by omega)]
      funext j
      by_cases hj : j < 32
      · rw [zfill_in0 _ _ _ hj, zfill_in0 _ _ _ hj]
        unfold zoutb zsha
        rw [hst _ (by omega)]
      · rw [zfill_out _ _ _ _ (by omega), zfill_out _ _ _ _ (by omega)]
    · rw [zrw_ne _ _ hb, hF b h4 h5 h6]
  obtain ⟨k, hr, I', rfl, hd, hf⟩ := zRet_of w
  exact ⟨I', hr, hd, hf⟩
end ZFIN
end
section
/-! THE REFERENCES that stand once all is made -/
def zRm (a f : Nat) : Option Nat := match a, f with
  | 3, 0 => some 4 | 3, 1 => some 7 | 3, 3 => some 602 | 3, 5 => some 614 | 3, 7 => some 615 | 3, 8 => some 620 | 3, 9 => some 622
  | 4, 0 => some 5 | 4, 1 => some 6
  | 615, 0 => some 616 | 615, 1 => some 617 | 615, 2 => some 618 | 615, 3 => some 619
  | 620, 0 => some 621
  | 623, 1 => some 624 | 623, 3 => some 625 | 623, 4 => some 626 | 623, 5 => some 627 | 623, 6 => some 628 | 623, 7 => some 629 | 623, 9 => some 630 | 623, 10 => some 631 | 623, 11 => some 632 | 623, 12 => some 633
  | 623, 13 => some 634 | 623, 14 => some 635 | 623, 16 => some 636 | 623, 18 => some 637 | 623, 19 => some 638 | 623, 20 => some 639 | 623, 23 => some 640 | 623, 25 => some 641 | 623, 26 => some 642 | 623, 27 => some 643 | 623, 28 => some 644
  | _, _ => none
/-- what stands of the references: the single objects', the releases', the rows of the trees, the lists -/
def zRs (R : zR) : Prop :=
  (∀ a f b, zRm a f = some b → R a f = some b) ∧ (∀ r, r < 11 → R 7 r = some (8 + 54 * r)) ∧ (∀ k, k < 11 → R 602 k = some (603 + k)) ∧
  (∀ r, r < 11 → (R (8 + 54 * r) 0 = some (8 + 54 * r + 1) ∧ R (8 + 54 * r) 2 = some (8 + 54 * r + 2) ∧ R (8 + 54 * r) 3 = some (8 + 54 * r + 37)) ∧ (R (8 + 54 * r + 2) 0 = some (8 + 54 * r + 3) ∧ R (8 + 54 * r + 2) 1 = some (8 + 54 * r + 36)) ∧
    (∀ q, q < 32 → R (8 + 54 * r + 3) q = some (8 + 54 * r + 4 + q)) ∧ ∀ j, j < 8 → R (8 + 54 * r + 38 + 2 * j) 1 = some (8 + 54 * r + 39 + 2 * j))
end
section
/-! THE REFERENCE'S DIGESTS -/
/-- what the reference's input holds -/
def zMg (m : List Int32) (I : zI) : Prop := I 623 2 = Int32.ofNat m.length ∧ ∀ i, i < m.length → I 625 i = zby m i
def zwdI (f : Nat → Int32) (p : Nat) : Int32 := zshl (f p) (Int32.ofNat 24) ||| zshl (f (p + 1)) (Int32.ofNat 16) ||| zshl (f (p + 2)) (Int32.ofNat 8) ||| f (p + 3)
section ZMS
variable {L N U : Nat} {I : zI} {J : zJ} {R : zR} {m : List Int32} {Q : zOut → zHp → Prop}
theorem zm_turned (L : Nat) (x y : Int32) (h : zHp) : zRet L 94 [.int x, .int y] h (some (.int (zturn x y))) h := by
  show zW L 94 0 [some (.int x), some (.int y)] [] h _
  refine zx_il0 zd94_0 ?_
  refine zx_il1 zd94_1 ?_
  refine zx_ushr zd94_2 ?_
  refine zx_il0 zd94_3 ?_
  refine zx_c zd94_4 ?_
  refine zx_il1 zd94_6 ?_
  first | ((with_reducible refine zx_subN zd94_7 ?h7 ?_); (case h7 => omega)) | refine zx_sub zd94_7 ?_
  refine zx_shl zd94_8 ?_
  refine zx_or zd94_9 ?_
  refine zx_iret zd94_10 (Or.inl rfl) ?_
  exact ⟨rfl, rfl⟩
theorem zm_put (hR : zRs R) (hN : 646 ≤ N) {n : Nat} (hn : I 623 2 = Int32.ofNat n) (hs : n < 512) (b : Int32) : zRet L 91 [.ref 623, .int b] (N, U, I, J, R) none (N, U, zu (zu I 625 n b) 623 2 (Int32.ofNat (n + 1)), J, R) := by
  show zW L 91 0 [some (.ref 623), some (.int b)] [] _ _
  refine zx_al0 zd91_0 ?_
  (refine' zx_gfA zd91_1 ?k12 ?r12 ?_); (case k12 => first | exact zkk rfl (by omega) | exact zkk (zK_B0 (by omega)) (by omega) | exact zkk ((zK_B (by omega) (by decide)).trans rfl) (by omega) | exact zkk (zK_row (by omega) (by omega)) (by omega) | exact zkk (zK_file (by omega) (by omega)) (by omega) | exact zkk (zK_byte (by omega) (by omega)) (by omega) | exact zkk (zK_list (by omega)) (by omega) | assumption); (case r12 => first | exact hR.1 _ _ _ rfl | assumption)
  refine zx_al0 zd91_4 ?_
  (refine zx_gfI zd91_5 ?k14 ?_); (case k14 => first | exact zkk rfl (by omega) | exact zkk (zK_B0 (by omega)) (by omega) | exact zkk ((zK_B (by omega) (by decide)).trans rfl) (by omega) | exact zkk (zK_row (by omega) (by omega)) (by omega) | exact zkk (zK_file (by omega) (by omega)) (by omega) | exact zkk (zK_byte (by omega) (by omega)) (by omega) | exact zkk (zK_list (by omega)) (by omega) | assumption)
  rw [hn]
  refine zx_il1 zd91_8 ?_
  (with_reducible refine' zx_iastN zd91_9 ?k16 ?j16 ?a16 ?_); (case k16 => first | exact zkk rfl (by omega) | exact zkk (zK_B0 (by omega)) (by omega) | exact zkk ((zK_B (by omega) (by decide)).trans rfl) (by omega) | exact zkk (zK_row (by omega) (by omega)) (by omega) | exact zkk (zK_file (by omega) (by omega)) (by omega) | exact zkk (zK_byte (by omega) (by omega)) (by omega) | exact zkk (zK_list (by omega)) (by omega) | assumption); (case j16 => omega); (case a16 => omega)
  refine zx_al0 zd91_10 ?_
  first | refine zx_dupR zd91_11 ?_ | refine zx_dupI zd91_11 ?_
  (refine zx_gfI zd91_12 ?k19 ?_); (case k19 => first | exact zkk rfl (by omega) | exact zkk (zK_B0 (by omega)) (by omega) | exact zkk ((zK_B (by omega) (by decide)).trans rfl) (by omega) | exact zkk (zK_row (by omega) (by omega)) (by omega) | exact zkk (zK_file (by omega) (by omega)) (by omega) | exact zkk (zK_byte (by omega) (by omega)) (by omega) | exact zkk (zK_list (by omega)) (by omega) | assumption)
  rw [show zu I 625 n b 623 2 = I 623 2 from rfl, hn]
  refine zx_c zd91_15 ?_
  first | with_reducible refine zx_addN zd91_16 ?_ | refine zx_add zd91_16 ?_
  (refine zx_pfI zd91_17 ?k22 ?a22 ?_); (case k22 => first | exact zkk rfl (by omega) | exact zkk (zK_B0 (by omega)) (by omega) | exact zkk ((zK_B (by omega) (by decide)).trans rfl) (by omega) | exact zkk (zK_row (by omega) (by omega)) (by omega) | exact zkk (zK_file (by omega) (by omega)) (by omega) | exact zkk (zK_byte (by omega) (by omega)) (by omega) | exact zkk (zK_list (by omega)) (by omega) | assumption); (case a22 => omega)
  refine zx_vret zd91_20 rfl ?_
  exact ⟨rfl, rfl⟩
/-- rows that the reference's digests write: the object's own ints at size, input, words, state, work, output -/
def zF6 (I I' : zI) : Prop := (∀ b, b < 625 ∨ 629 < b → b ≠ 623 → I' b = I b) ∧ ∀ f, f ≠ 2 → I' 623 f = I 623 f
theorem zF6.refl (I : zI) : zF6 I I := ⟨fun _ _ _ => rfl, fun _ _ => rfl⟩
theorem zF6.trans {I I' I'' : zI} (h : zF6 I I') (h' : zF6 I' I'') : zF6 I I'' := ⟨fun b h1 h2 => (h'.1 b h1 h2).trans (h.1 b h1 h2), fun f hf => (h'.2 f hf).trans (h.2 f hf)⟩
theorem zF6.put (I : zI) (n : Nat) (b v : Int32) : zF6 I (zu (zu I 625 n b) 623 2 v) := by
  refine ⟨fun c h1 h2 => ?_, fun f hf => ?_⟩
  · rw [zu_rw, zrw_ne _ _ h2, zu_rw, zrw_ne _ _ (by omega)]
  · show (if 623 = 623 ∧ f = 2 then v else (if 623 = 625 ∧ f = n then b else I 623 f)) = I 623 f
    rw [if_neg (fun h => hf h.2), if_neg (fun h => by omega)]
theorem zs_mput (hR : zRs R) (hN : 646 ≤ N) (hm : zMg m I) (hs : m.length < 512) (b : Int32) : ∃ I', zRet L 91 [.ref 623, .int b] (N, U, I, J, R) none (N, U, I', J, R) ∧ zMg (m ++ [b]) I' ∧ zF6 I I' ∧ ∀ c, c ≠ 623 → c ≠ 625 → I' c = I c := by
  refine ⟨_, zm_put hR hN hm.1 hs b, ⟨?_, fun i hi => ?_⟩, zF6.put I _ _ _, fun c h1 h2 => ?_⟩
  · rw [List.length_append]; rfl
  · rw [List.length_append, List.length_singleton] at hi
    show (if 625 = 623 ∧ i = 2 then _ else (if 625 = 625 ∧ i = m.length then b else I 625 i)) = _
    rw [if_neg (fun h => by omega)]
    by_cases he : i = m.length
    · rw [if_pos ⟨rfl, he⟩, he, zby_new]
    · rw [if_neg (fun h => he h.2), zby_app (by omega)]
      exact hm.2 i (by omega)
  · rw [zu_rw, zrw_ne _ _ h1, zu_rw, zrw_ne _ _ h2]
/-! block -/
theorem zm_b1 (hR : zRs R) (hN : 646 ≤ N) {p : Nat} (hp : p + 64 ≤ 512) {l4 l5 l6 l7 l8 l9 l10 : Option Value}
    (kk : ∀ l3 : Option Value, zW L 93 68 [some (.ref 623), some (.int (Int32.ofNat p)), some (.int (Int32.ofNat 16)), l3, l4, l5, l6, l7, l8, l9, l10] [] (N, U, zrw I 626 (zfill (I 626) 0 16 (fun k => zwdI (I 625) (p + 4 * k))), J, R) Q) :
    ∀ (q i : Nat) (l3 : Option Value), i + q = 16 → zW L 93 2 [some (.ref 623), some (.int (Int32.ofNat p)), some (.int (Int32.ofNat i)), l3, l4, l5, l6, l7, l8, l9, l10] [] (N, U, zrw I 626 (zfill (I 626) 0 i (fun k => zwdI (I 625) (p + 4 * k))), J, R) Q := by
  intro q
  induction q with
  | zero =>
    intro i l3 hi
    obtain rfl : i = 16 := by omega
    refine zx_il2 zd93_2 ?_
    refine zx_c zd93_3 ?_
    first | ((with_reducible refine zx_icmpgeN zd93_5 ?s26 (fun hc => ?_) (fun hc => ?_)); (case s26 => omega)) | refine zx_icmpge zd93_5 (fun hc => ?_) (fun hc => ?_)
    · exact kk l3
    · omega
  | succ q ih =>
    intro i l3 hi
    refine zx_il2 zd93_2 ?_
    refine zx_c zd93_3 ?_
    first | ((with_reducible refine zx_icmpgeN zd93_5 ?s29 (fun hc => ?_) (fun hc => ?_)); (case s29 => omega)) | refine zx_icmpge zd93_5 (fun hc => ?_) (fun hc => ?_)
    · omega
    · refine zx_il1 zd93_8 ?_
      refine zx_c zd93_9 ?_
      refine zx_il2 zd93_10 ?_
      first | with_reducible refine zx_mulN zd93_11 ?_ | refine zx_mul zd93_11 ?_
      first | with_reducible refine zx_addN zd93_12 ?_ | refine zx_add zd93_12 ?_
      refine zx_is3 zd93_13 rfl ?_
      refine zx_al0 zd93_14 ?_
      (refine' zx_gfA zd93_15 ?k37 ?r37 ?_); (case k37 => first | exact zkk rfl (by omega) | exact zkk (zK_B0 (by omega)) (by omega) | exact zkk ((zK_B (by omega) (by decide)).trans rfl) (by omega) | exact zkk (zK_row (by omega) (by omega)) (by omega) | exact zkk (zK_file (by omega) (by omega)) (by omega) | exact zkk (zK_byte (by omega) (by omega)) (by omega) | exact zkk (zK_list (by omega)) (by omega) | assumption); (case r37 => first | exact hR.1 _ _ _ rfl | assumption)
      refine zx_il2 zd93_18 ?_
      refine zx_al0 zd93_19 ?_
      (refine' zx_gfA zd93_20 ?k40 ?r40 ?_); (case k40 => first | exact zkk rfl (by omega) | exact zkk (zK_B0 (by omega)) (by omega) | exact zkk ((zK_B (by omega) (by decide)).trans rfl) (by omega) | exact zkk (zK_row (by omega) (by omega)) (by omega) | exact zkk (zK_file (by omega) (by omega)) (by omega) | exact zkk (zK_byte (by omega) (by omega)) (by omega) | exact zkk (zK_list (by omega)) (by omega) | assumption); (case r40 => first | exact hR.1 _ _ _ rfl | assumption)
      refine zx_il3 zd93_23 ?_
      (with_reducible refine' zx_ialdN zd93_24 ?k42 ?j42 ?_); (case k42 => first | exact zkk rfl (by omega) | exact zkk (zK_B0 (by omega)) (by omega) | exact zkk ((zK_B (by omega) (by decide)).trans rfl) (by omega) | exact zkk (zK_row (by omega) (by omega)) (by omega) | exact zkk (zK_file (by omega) (by omega)) (by omega) | exact zkk (zK_byte (by omega) (by omega)) (by omega) | exact zkk (zK_list (by omega)) (by omega) | assumption); (case j42 => omega)
      refine zx_c zd93_25 ?_
      refine zx_shl zd93_27 ?_
      refine zx_al0 zd93_28 ?_
      (refine' zx_gfA zd93_29 ?k46 ?r46 ?_); (case k46 => first | exact zkk rfl (by omega) | exact zkk (zK_B0 (by omega)) (by omega) | exact zkk ((zK_B (by omega) (by decide)).trans rfl) (by omega) | exact zkk (zK_row (by omega) (by omega)) (by omega) | exact zkk (zK_file (by omega) (by omega)) (by omega) | exact zkk (zK_byte (by omega) (by omega)) (by omega) | exact zkk (zK_list (by omega)) (by omega) | assumption); (case r46 => first | exact hR.1 _ _ _ rfl | assumption)
      refine zx_il3 zd93_32 ?_
      refine zx_c zd93_33 ?_
      first | with_reducible refine zx_addN zd93_34 ?_ | refine zx_add zd93_34 ?_
      (with_reducible refine' zx_ialdN zd93_35 ?k50 ?j50 ?_); (case k50 => first | exact zkk rfl (by omega) | exact zkk (zK_B0 (by omega)) (by omega) | exact zkk ((zK_B (by omega) (by decide)).trans rfl) (by omega) | exact zkk (zK_row (by omega) (by omega)) (by omega) | exact zkk (zK_file (by omega) (by omega)) (by omega) | exact zkk (zK_byte (by omega) (by omega)) (by omega) | exact zkk (zK_list (by omega)) (by omega) | assumption); (case j50 => omega)
      refine zx_c zd93_36 ?_
      refine zx_shl zd93_38 ?_
      refine zx_or zd93_39 ?_
      refine zx_al0 zd93_40 ?_
      (refine' zx_gfA zd93_41 ?k55 ?r55 ?_); (case k55 => first | exact zkk rfl (by omega) | exact zkk (zK_B0 (by omega)) (by omega) | exact zkk ((zK_B (by omega) (by decide)).trans rfl) (by omega) | exact zkk (zK_row (by omega) (by omega)) (by omega) | exact zkk (zK_file (by omega) (by omega)) (by omega) | exact zkk (zK_byte (by omega) (by omega)) (by omega) | exact zkk (zK_list (by omega)) (by omega) | assumption); (case r55 => first | exact hR.1 _ _ _ rfl | assumption)
      refine zx_il3 zd93_44 ?_
      refine zx_c zd93_45 ?_
      first | with_reducible refine zx_addN zd93_46 ?_ | refine zx_add zd93_46 ?_
      (with_reducible refine' zx_ialdN zd93_47 ?k59 ?j59 ?_); (case k59 => first | exact zkk rfl (by omega) | exact zkk (zK_B0 (by omega)) (by omega) | exact zkk ((zK_B (by omega) (by decide)).trans rfl) (by omega) | exact zkk (zK_row (by omega) (by omega)) (by omega) | exact zkk (zK_file (by omega) (by omega)) (by omega) | exact zkk (zK_byte (by omega) (by omega)) (by omega) | exact zkk (zK_list (by omega)) (by omega) | assumption); (case j59 => omega)
      refine zx_c zd93_48 ?_
      refine zx_shl zd93_50 ?_
      refine zx_or zd93_51 ?_
      refine zx_al0 zd93_52 ?_
      (refine' zx_gfA zd93_53 ?k64 ?r64 ?_); (case k64 => first | exact zkk rfl (by omega) | exact zkk (zK_B0 (by omega)) (by omega) | exact zkk ((zK_B (by omega) (by decide)).trans rfl) (by omega) | exact zkk (zK_row (by omega) (by omega)) (by omega) | exact zkk (zK_file (by omega) (by omega)) (by omega) | exact zkk (zK_byte (by omega) (by omega)) (by omega) | exact zkk (zK_list (by omega)) (by omega) | assumption); (case r64 => first | exact hR.1 _ _ _ rfl | assumption)
      refine zx_il3 zd93_56 ?_
      refine zx_c zd93_57 ?_
      first | with_reducible refine zx_addN zd93_58 ?_ | refine zx_add zd93_58 ?_
      (with_reducible refine' zx_ialdN zd93_59 ?k68 ?j68 ?_); (case k68 => first | exact zkk rfl (by omega) | exact zkk (zK_B0 (by omega)) (by omega) | exact zkk ((zK_B (by omega) (by decide)).trans rfl) (by omega) | exact zkk (zK_row (by omega) (by omega)) (by omega) | exact zkk (zK_file (by omega) (by omega)) (by omega) | exact zkk (zK_byte (by omega) (by omega)) (by omega) | exact zkk (zK_list (by omega)) (by omega) | assumption); (case j68 => omega)
      refine zx_or zd93_60 ?_
      (with_reducible refine' zx_iastN zd93_61 ?k70 ?j70 ?a70 ?_); (case k70 => first | exact zkk rfl (by omega) | exact zkk (zK_B0 (by omega)) (by omega) | exact zkk ((zK_B (by omega) (by decide)).trans rfl) (by omega) | exact zkk (zK_row (by omega) (by omega)) (by omega) | exact zkk (zK_file (by omega) (by omega)) (by omega) | exact zkk (zK_byte (by omega) (by omega)) (by omega) | exact zkk (zK_list (by omega)) (by omega) | assumption); (case j70 => omega); (case a70 => omega)
      first | with_reducible refine zx_iin2 zd93_62 ?_ | refine zx_ii2 zd93_62 ?_
      refine zx_goto zd93_65 ?_
      have e := zfill_succ (I 626) 0 i (fun k => zwdI (I 625) (p + 4 * k))
      rw [Nat.zero_add] at e
      have k := ih (i + 1) (some (.int (Int32.ofNat (p + 4 * i)))) (by omega)
      rw [← e] at k
      rw [zu_rw, zrw_rw, zrw_at, zrw_ne _ _ (show 625 ≠ 626 by decide)]
      exact k
theorem zm_b2 (hR : zRs R) (hN : 646 ≤ N) {l1 l7 l8 l9 l10 : Option Value}
    (kk : ∀ l3 l4 l5 l6 : Option Value, zW L 93 176 [some (.ref 623), l1, some (.int (Int32.ofNat 64)), l3, l4, l5, l6, l7, l8, l9, l10] [] (N, U, zrw I 626 (zsch (I 626) 48), J, R) Q) :
    ∀ (q n : Nat) (l3 l4 l5 l6 : Option Value), n + q = 48 → zW L 93 71 [some (.ref 623), l1, some (.int (Int32.ofNat (16 + n))), l3, l4, l5, l6, l7, l8, l9, l10] [] (N, U, zrw I 626 (zsch (I 626) n), J, R) Q := by
  intro q
  induction q with
  | zero =>
    intro n l3 l4 l5 l6 hi
    obtain rfl : n = 48 := by omega
    refine zx_il2 zd93_71 ?_
    refine zx_c zd93_72 ?_
    first | ((with_reducible refine zx_icmpgeN zd93_74 ?s75 (fun hc => ?_) (fun hc => ?_)); (case s75 => omega)) | refine zx_icmpge zd93_74 (fun hc => ?_) (fun hc => ?_)
    · exact kk l3 l4 l5 l6
    · omega
  | succ q ih =>
    intro n l3 l4 l5 l6 hi
    refine zx_il2 zd93_71 ?_
    refine zx_c zd93_72 ?_
    first | ((with_reducible refine zx_icmpgeN zd93_74 ?s78 (fun hc => ?_) (fun hc => ?_)); (case s78 => omega)) | refine zx_icmpge zd93_74 (fun hc => ?_) (fun hc => ?_)
    · omega
    · refine zx_al0 zd93_77 ?_
      (refine' zx_gfA zd93_78 ?k80 ?r80 ?_); (case k80 => first | exact zkk rfl (by omega) | exact zkk (zK_B0 (by omega)) (by omega) | exact zkk ((zK_B (by omega) (by decide)).trans rfl) (by omega) | exact zkk (zK_row (by omega) (by omega)) (by omega) | exact zkk (zK_file (by omega) (by omega)) (by omega) | exact zkk (zK_byte (by omega) (by omega)) (by omega) | exact zkk (zK_list (by omega)) (by omega) | assumption); (case r80 => first | exact hR.1 _ _ _ rfl | assumption)
      refine zx_il2 zd93_81 ?_
      refine zx_c zd93_82 ?_
      first | ((with_reducible refine zx_subN zd93_84 ?h83 ?_); (case h83 => omega)) | refine zx_sub zd93_84 ?_
      (with_reducible refine' zx_ialdN zd93_85 ?k84 ?j84 ?_); (case k84 => first | exact zkk rfl (by omega) | exact zkk (zK_B0 (by omega)) (by omega) | exact zkk ((zK_B (by omega) (by decide)).trans rfl) (by omega) | exact zkk (zK_row (by omega) (by omega)) (by omega) | exact zkk (zK_file (by omega) (by omega)) (by omega) | exact zkk (zK_byte (by omega) (by omega)) (by omega) | exact zkk (zK_list (by omega)) (by omega) | assumption); (case j84 => omega)
      refine zx_is3 zd93_86 rfl ?_
      refine zx_al0 zd93_87 ?_
      (refine' zx_gfA zd93_88 ?k87 ?r87 ?_); (case k87 => first | exact zkk rfl (by omega) | exact zkk (zK_B0 (by omega)) (by omega) | exact zkk ((zK_B (by omega) (by decide)).trans rfl) (by omega) | exact zkk (zK_row (by omega) (by omega)) (by omega) | exact zkk (zK_file (by omega) (by omega)) (by omega) | exact zkk (zK_byte (by omega) (by omega)) (by omega) | exact zkk (zK_list (by omega)) (by omega) | assumption); (case r87 => first | exact hR.1 _ _ _ rfl | assumption)
      refine zx_il2 zd93_91 ?_
      refine zx_c zd93_92 ?_
      first | ((with_reducible refine zx_subN zd93_93 ?h90 ?_); (case h90 => omega)) | refine zx_sub zd93_93 ?_
      (with_reducible refine' zx_ialdN zd93_94 ?k91 ?j91 ?_); (case k91 => first | exact zkk rfl (by omega) | exact zkk (zK_B0 (by omega)) (by omega) | exact zkk ((zK_B (by omega) (by decide)).trans rfl) (by omega) | exact zkk (zK_row (by omega) (by omega)) (by omega) | exact zkk (zK_file (by omega) (by omega)) (by omega) | exact zkk (zK_byte (by omega) (by omega)) (by omega) | exact zkk (zK_list (by omega)) (by omega) | assumption); (case j91 => omega)
      refine zx_is4 zd93_95 rfl ?_
      refine zx_il3 zd93_97 ?_
      refine zx_c zd93_98 ?_
      refine zx_cs2I zd93_100 (zm_turned _ _ _ _) ?_
      refine zx_il3 zd93_103 ?_
      refine zx_c zd93_104 ?_
      refine zx_cs2I zd93_106 (zm_turned _ _ _ _) ?_
      first | with_reducible refine zx_xorN zd93_109 ?_ | refine zx_xor zd93_109 ?_
      refine zx_il3 zd93_110 ?_
      refine zx_c zd93_111 ?_
      refine zx_ushr zd93_112 ?_
      first | with_reducible refine zx_xorN zd93_113 ?_ | refine zx_xor zd93_113 ?_
      refine zx_is5 zd93_114 rfl ?_
      refine zx_il4 zd93_116 ?_
      refine zx_c zd93_118 ?_
      refine zx_cs2I zd93_120 (zm_turned _ _ _ _) ?_
      refine zx_il4 zd93_123 ?_
      refine zx_c zd93_125 ?_
      refine zx_cs2I zd93_127 (zm_turned _ _ _ _) ?_
      first | with_reducible refine zx_xorN zd93_130 ?_ | refine zx_xor zd93_130 ?_
      refine zx_il4 zd93_131 ?_
      refine zx_c zd93_133 ?_
      refine zx_ushr zd93_135 ?_
      first | with_reducible refine zx_xorN zd93_136 ?_ | refine zx_xor zd93_136 ?_
      refine zx_is6 zd93_137 rfl ?_
      refine zx_al0 zd93_139 ?_
      (refine' zx_gfA zd93_140 ?k118 ?r118 ?_); (case k118 => first | exact zkk rfl (by omega) | exact zkk (zK_B0 (by omega)) (by omega) | exact zkk ((zK_B (by omega) (by decide)).trans rfl) (by omega) | exact zkk (zK_row (by omega) (by omega)) (by omega) | exact zkk (zK_file (by omega) (by omega)) (by omega) | exact zkk (zK_byte (by omega) (by omega)) (by omega) | exact zkk (zK_list (by omega)) (by omega) | assumption); (case r118 => first | exact hR.1 _ _ _ rfl | assumption)
      refine zx_il2 zd93_143 ?_
      refine zx_al0 zd93_144 ?_
      (refine' zx_gfA zd93_145 ?k121 ?r121 ?_); (case k121 => first | exact zkk rfl (by omega) | exact zkk (zK_B0 (by omega)) (by omega) | exact zkk ((zK_B (by omega) (by decide)).trans rfl) (by omega) | exact zkk (zK_row (by omega) (by omega)) (by omega) | exact zkk (zK_file (by omega) (by omega)) (by omega) | exact zkk (zK_byte (by omega) (by omega)) (by omega) | exact zkk (zK_list (by omega)) (by omega) | assumption); (case r121 => first | exact hR.1 _ _ _ rfl | assumption)
      refine zx_il2 zd93_148 ?_
      refine zx_c zd93_149 ?_
      first | ((with_reducible refine zx_subN zd93_151 ?h124 ?_); (case h124 => omega)) | refine zx_sub zd93_151 ?_
      (with_reducible refine' zx_ialdN zd93_152 ?k125 ?j125 ?_); (case k125 => first | exact zkk rfl (by omega) | exact zkk (zK_B0 (by omega)) (by omega) | exact zkk ((zK_B (by omega) (by decide)).trans rfl) (by omega) | exact zkk (zK_row (by omega) (by omega)) (by omega) | exact zkk (zK_file (by omega) (by omega)) (by omega) | exact zkk (zK_byte (by omega) (by omega)) (by omega) | exact zkk (zK_list (by omega)) (by omega) | assumption); (case j125 => omega)
      refine zx_il5 zd93_153 ?_
      first | with_reducible refine zx_addN zd93_155 ?_ | refine zx_add zd93_155 ?_
      refine zx_al0 zd93_156 ?_
      (refine' zx_gfA zd93_157 ?k129 ?r129 ?_); (case k129 => first | exact zkk rfl (by omega) | exact zkk (zK_B0 (by omega)) (by omega) | exact zkk ((zK_B (by omega) (by decide)).trans rfl) (by omega) | exact zkk (zK_row (by omega) (by omega)) (by omega) | exact zkk (zK_file (by omega) (by omega)) (by omega) | exact zkk (zK_byte (by omega) (by omega)) (by omega) | exact zkk (zK_list (by omega)) (by omega) | assumption); (case r129 => first | exact hR.1 _ _ _ rfl | assumption)
      refine zx_il2 zd93_160 ?_
      refine zx_c zd93_161 ?_
      first | ((with_reducible refine zx_subN zd93_163 ?h132 ?_); (case h132 => omega)) | refine zx_sub zd93_163 ?_
      (with_reducible refine' zx_ialdN zd93_164 ?k133 ?j133 ?_); (case k133 => first | exact zkk rfl (by omega) | exact zkk (zK_B0 (by omega)) (by omega) | exact zkk ((zK_B (by omega) (by decide)).trans rfl) (by omega) | exact zkk (zK_row (by omega) (by omega)) (by omega) | exact zkk (zK_file (by omega) (by omega)) (by omega) | exact zkk (zK_byte (by omega) (by omega)) (by omega) | exact zkk (zK_list (by omega)) (by omega) | assumption); (case j133 => omega)
      first | with_reducible refine zx_addN zd93_165 ?_ | refine zx_add zd93_165 ?_
      refine zx_il6 zd93_166 ?_
      first | with_reducible refine zx_addN zd93_168 ?_ | refine zx_add zd93_168 ?_
      (with_reducible refine' zx_iastN zd93_169 ?k137 ?j137 ?a137 ?_); (case k137 => first | exact zkk rfl (by omega) | exact zkk (zK_B0 (by omega)) (by omega) | exact zkk ((zK_B (by omega) (by decide)).trans rfl) (by omega) | exact zkk (zK_row (by omega) (by omega)) (by omega) | exact zkk (zK_file (by omega) (by omega)) (by omega) | exact zkk (zK_byte (by omega) (by omega)) (by omega) | exact zkk (zK_list (by omega)) (by omega) | assumption); (case j137 => omega); (case a137 => omega)
      first | with_reducible refine zx_iin2 zd93_170 ?_ | refine zx_ii2 zd93_170 ?_
      refine zx_goto zd93_173 ?_
      have k := ih (n + 1) (some (.int (zsch (I 626) n (16 + n - 15)))) (some (.int (zsch (I 626) n (16 + n - 2)))) (some (.int (zs0 (zsch (I 626) n (16 + n - 15))))) (some (.int (zs1 (zsch (I 626) n (16 + n - 2))))) (by omega)
      rw [zu_rw, zrw_rw, zrw_at]
      exact k
theorem zm_b3 (hR : zRs R) (hN : 646 ≤ N) {l1 l3 l4 l5 l6 l7 l8 l9 l10 : Option Value}
    (kk : zW L 93 202 [some (.ref 623), l1, some (.int (Int32.ofNat 8)), l3, l4, l5, l6, l7, l8, l9, l10] [] (N, U, zrw I 628 (zfill (I 628) 0 8 (I 627)), J, R) Q) :
    ∀ (q i : Nat), i + q = 8 → zW L 93 178 [some (.ref 623), l1, some (.int (Int32.ofNat i)), l3, l4, l5, l6, l7, l8, l9, l10] [] (N, U, zrw I 628 (zfill (I 628) 0 i (I 627)), J, R) Q := by
  intro q
  induction q with
  | zero =>
    intro i hi
    obtain rfl : i = 8 := by omega
    refine zx_il2 zd93_178 ?_
    refine zx_c zd93_179 ?_
    first | ((with_reducible refine zx_icmpgeN zd93_181 ?s142 (fun hc => ?_) (fun hc => ?_)); (case s142 => omega)) | refine zx_icmpge zd93_181 (fun hc => ?_) (fun hc => ?_)
    · exact kk
    · omega
  | succ q ih =>
    intro i hi
    refine zx_il2 zd93_178 ?_
    refine zx_c zd93_179 ?_
    first | ((with_reducible refine zx_icmpgeN zd93_181 ?s145 (fun hc => ?_) (fun hc => ?_)); (case s145 => omega)) | refine zx_icmpge zd93_181 (fun hc => ?_) (fun hc => ?_)
    · omega
    · refine zx_al0 zd93_184 ?_
      (refine' zx_gfA zd93_185 ?k147 ?r147 ?_); (case k147 => first | exact zkk rfl (by omega) | exact zkk (zK_B0 (by omega)) (by omega) | exact zkk ((zK_B (by omega) (by decide)).trans rfl) (by omega) | exact zkk (zK_row (by omega) (by omega)) (by omega) | exact zkk (zK_file (by omega) (by omega)) (by omega) | exact zkk (zK_byte (by omega) (by omega)) (by omega) | exact zkk (zK_list (by omega)) (by omega) | assumption); (case r147 => first | exact hR.1 _ _ _ rfl | assumption)
      refine zx_il2 zd93_188 ?_
      refine zx_al0 zd93_189 ?_
      (refine' zx_gfA zd93_190 ?k150 ?r150 ?_); (case k150 => first | exact zkk rfl (by omega) | exact zkk (zK_B0 (by omega)) (by omega) | exact zkk ((zK_B (by omega) (by decide)).trans rfl) (by omega) | exact zkk (zK_row (by omega) (by omega)) (by omega) | exact zkk (zK_file (by omega) (by omega)) (by omega) | exact zkk (zK_byte (by omega) (by omega)) (by omega) | exact zkk (zK_list (by omega)) (by omega) | assumption); (case r150 => first | exact hR.1 _ _ _ rfl | assumption)
      refine zx_il2 zd93_193 ?_
      (with_reducible refine' zx_ialdN zd93_194 ?k152 ?j152 ?_); (case k152 => first | exact zkk rfl (by omega) | exact zkk (zK_B0 (by omega)) (by omega) | exact zkk ((zK_B (by omega) (by decide)).trans rfl) (by omega) | exact zkk (zK_row (by omega) (by omega)) (by omega) | exact zkk (zK_file (by omega) (by omega)) (by omega) | exact zkk (zK_byte (by omega) (by omega)) (by omega) | exact zkk (zK_list (by omega)) (by omega) | assumption); (case j152 => omega)
      (with_reducible refine' zx_iastN zd93_195 ?k153 ?j153 ?a153 ?_); (case k153 => first | exact zkk rfl (by omega) | exact zkk (zK_B0 (by omega)) (by omega) | exact zkk ((zK_B (by omega) (by decide)).trans rfl) (by omega) | exact zkk (zK_row (by omega) (by omega)) (by omega) | exact zkk (zK_file (by omega) (by omega)) (by omega) | exact zkk (zK_byte (by omega) (by omega)) (by omega) | exact zkk (zK_list (by omega)) (by omega) | assumption); (case j153 => omega); (case a153 => omega)
      first | with_reducible refine zx_iin2 zd93_196 ?_ | refine zx_ii2 zd93_196 ?_
      refine zx_goto zd93_199 ?_
      have e := zfill_succ (I 628) 0 i (I 627)
      rw [Nat.zero_add] at e
      have k := ih (i + 1) (by omega)
      rw [← e] at k
      rw [zu_rw, zrw_rw, zrw_at, zrw_ne _ _ (show 627 ≠ 628 by decide)]
      exact k
/-- the inner shift -/
def zsh (f : Nat → Int32) (i : Nat) : Nat → Int32 := fun j => if i < j ∧ j ≤ 7 then f (j - 1) else f j
theorem zm_b4i (hR : zRs R) (hN : 646 ≤ N) {l1 l2 l3 l4 l5 l6 l7 l8 l9 : Option Value}
    (kk : zW L 93 388 [some (.ref 623), l1, l2, l3, l4, l5, l6, l7, l8, l9, some (.int (Int32.ofNat 0))] [] (N, U, zrw I 628 (zsh (I 628) 0), J, R) Q) :
    ∀ (i : Nat), i ≤ 7 → zW L 93 361 [some (.ref 623), l1, l2, l3, l4, l5, l6, l7, l8, l9, some (.int (Int32.ofNat i))] [] (N, U, zrw I 628 (zsh (I 628) i), J, R) Q := by
  intro i
  induction i with
  | zero =>
    intro hi
    refine zx_il10 zd93_361 ?_
    first | ((with_reducible refine zx_ifleN zd93_363 ?s157 (fun hc => ?_) (fun hc => ?_)); (case s157 => omega)) | refine zx_ifle zd93_363 (fun hc => ?_) (fun hc => ?_)
    · exact kk
    · omega
  | succ i ih =>
    intro hi
    refine zx_il10 zd93_361 ?_
    first | ((with_reducible refine zx_ifleN zd93_363 ?s159 (fun hc => ?_) (fun hc => ?_)); (case s159 => omega)) | refine zx_ifle zd93_363 (fun hc => ?_) (fun hc => ?_)
    · omega
    · refine zx_al0 zd93_366 ?_
      (refine' zx_gfA zd93_367 ?k161 ?r161 ?_); (case k161 => first | exact zkk rfl (by omega) | exact zkk (zK_B0 (by omega)) (by omega) | exact zkk ((zK_B (by omega) (by decide)).trans rfl) (by omega) | exact zkk (zK_row (by omega) (by omega)) (by omega) | exact zkk (zK_file (by omega) (by omega)) (by omega) | exact zkk (zK_byte (by omega) (by omega)) (by omega) | exact zkk (zK_list (by omega)) (by omega) | assumption); (case r161 => first | exact hR.1 _ _ _ rfl | assumption)
      refine zx_il10 zd93_370 ?_
      refine zx_al0 zd93_372 ?_
      (refine' zx_gfA zd93_373 ?k164 ?r164 ?_); (case k164 => first | exact zkk rfl (by omega) | exact zkk (zK_B0 (by omega)) (by omega) | exact zkk ((zK_B (by omega) (by decide)).trans rfl) (by omega) | exact zkk (zK_row (by omega) (by omega)) (by omega) | exact zkk (zK_file (by omega) (by omega)) (by omega) | exact zkk (zK_byte (by omega) (by omega)) (by omega) | exact zkk (zK_list (by omega)) (by omega) | assumption); (case r164 => first | exact hR.1 _ _ _ rfl | assumption)
      refine zx_il10 zd93_376 ?_
      refine zx_c zd93_378 ?_
      first | ((with_reducible refine zx_subN zd93_379 ?h167 ?_); (case h167 => omega)) | refine zx_sub zd93_379 ?_
      (with_reducible refine' zx_ialdN zd93_380 ?k168 ?j168 ?_); (case k168 => first | exact zkk rfl (by omega) | exact zkk (zK_B0 (by omega)) (by omega) | exact zkk ((zK_B (by omega) (by decide)).trans rfl) (by omega) | exact zkk (zK_row (by omega) (by omega)) (by omega) | exact zkk (zK_file (by omega) (by omega)) (by omega) | exact zkk (zK_byte (by omega) (by omega)) (by omega) | exact zkk (zK_list (by omega)) (by omega) | assumption); (case j168 => omega)
      (with_reducible refine' zx_iastN zd93_381 ?k169 ?j169 ?a169 ?_); (case k169 => first | exact zkk rfl (by omega) | exact zkk (zK_B0 (by omega)) (by omega) | exact zkk ((zK_B (by omega) (by decide)).trans rfl) (by omega) | exact zkk (zK_row (by omega) (by omega)) (by omega) | exact zkk (zK_file (by omega) (by omega)) (by omega) | exact zkk (zK_byte (by omega) (by omega)) (by omega) | exact zkk (zK_list (by omega)) (by omega) | assumption); (case j169 => omega); (case a169 => omega)
      first | ((with_reducible refine zx_iid10 zd93_382 ?h170 ?_); (case h170 => omega)) | refine zx_ii10 zd93_382 ?_
      refine zx_goto zd93_385 ?_
      have k := ih (by omega)
      rw [zu_rw, zrw_rw, zrw_at]
      have e : zup (zsh (I 628) (i + 1)) (i + 1) (zsh (I 628) (i + 1) (i + 1 - 1)) = zsh (I 628) i := by
        funext j
        unfold zup zsh
        by_cases hj : j = i + 1
        · subst hj
          rw [if_pos rfl, if_neg (by omega), if_pos (by omega)]
        · rw [if_neg hj]
          by_cases h2 : i + 1 < j ∧ j ≤ 7
          · rw [if_pos h2, if_pos (by omega)]
          · rw [if_neg h2, if_neg (by omega)]
      rw [e, Nat.add_sub_cancel]
      exact k
/-- eight places of the work row -/
def zw8 (f g : Nat → Int32) : Nat → Int32 := zfill g 0 8 f
theorem zm_b4 (hR : zRs R) (hN : 646 ≤ N) {l1 : Option Value} {g : Nat → Int32} (hg : I 628 = zw8 (I 627) g)
    (kk : ∀ l3 l4 l5 l6 l7 l8 l9 l10 : Option Value, zW L 93 419 [some (.ref 623), l1, some (.int (Int32.ofNat 64)), l3, l4, l5, l6, l7, l8, l9, l10] [] (N, U, zrw I 628 (zw8 (zrds (I 627) (I 624) (I 626) 64) g), J, R) Q) :
    ∀ (q n : Nat) (l3 l4 l5 l6 l7 l8 l9 l10 : Option Value), n + q = 64 → zW L 93 204 [some (.ref 623), l1, some (.int (Int32.ofNat n)), l3, l4, l5, l6, l7, l8, l9, l10] [] (N, U, zrw I 628 (zw8 (zrds (I 627) (I 624) (I 626) n) g), J, R) Q := by
  intro q
  induction q with
  | zero =>
    intro n l3 l4 l5 l6 l7 l8 l9 l10 hi
    obtain rfl : n = 64 := by omega
    refine zx_il2 zd93_204 ?_
    refine zx_c zd93_205 ?_
    first | ((with_reducible refine zx_icmpgeN zd93_207 ?s174 (fun hc => ?_) (fun hc => ?_)); (case s174 => omega)) | refine zx_icmpge zd93_207 (fun hc => ?_) (fun hc => ?_)
    · exact kk l3 l4 l5 l6 l7 l8 l9 l10
    · omega
  | succ q ih =>
    intro n l3 l4 l5 l6 l7 l8 l9 l10 hi
    refine zx_il2 zd93_204 ?_
    refine zx_c zd93_205 ?_
    first | ((with_reducible refine zx_icmpgeN zd93_207 ?s177 (fun hc => ?_) (fun hc => ?_)); (case s177 => omega)) | refine zx_icmpge zd93_207 (fun hc => ?_) (fun hc => ?_)
    · omega
    · refine zx_al0 zd93_210 ?_
      (refine' zx_gfA zd93_211 ?k179 ?r179 ?_); (case k179 => first | exact zkk rfl (by omega) | exact zkk (zK_B0 (by omega)) (by omega) | exact zkk ((zK_B (by omega) (by decide)).trans rfl) (by omega) | exact zkk (zK_row (by omega) (by omega)) (by omega) | exact zkk (zK_file (by omega) (by omega)) (by omega) | exact zkk (zK_byte (by omega) (by omega)) (by omega) | exact zkk (zK_list (by omega)) (by omega) | assumption); (case r179 => first | exact hR.1 _ _ _ rfl | assumption)
      refine zx_c zd93_214 ?_
      (with_reducible refine' zx_ialdN zd93_215 ?k181 ?j181 ?_); (case k181 => first | exact zkk rfl (by omega) | exact zkk (zK_B0 (by omega)) (by omega) | exact zkk ((zK_B (by omega) (by decide)).trans rfl) (by omega) | exact zkk (zK_row (by omega) (by omega)) (by omega) | exact zkk (zK_file (by omega) (by omega)) (by omega) | exact zkk (zK_byte (by omega) (by omega)) (by omega) | exact zkk (zK_list (by omega)) (by omega) | assumption); (case j181 => omega)
      refine zx_is3 zd93_216 rfl ?_
      refine zx_al0 zd93_217 ?_
      (refine' zx_gfA zd93_218 ?k184 ?r184 ?_); (case k184 => first | exact zkk rfl (by omega) | exact zkk (zK_B0 (by omega)) (by omega) | exact zkk ((zK_B (by omega) (by decide)).trans rfl) (by omega) | exact zkk (zK_row (by omega) (by omega)) (by omega) | exact zkk (zK_file (by omega) (by omega)) (by omega) | exact zkk (zK_byte (by omega) (by omega)) (by omega) | exact zkk (zK_list (by omega)) (by omega) | assumption); (case r184 => first | exact hR.1 _ _ _ rfl | assumption)
      refine zx_c zd93_221 ?_
      (with_reducible refine' zx_ialdN zd93_222 ?k186 ?j186 ?_); (case k186 => first | exact zkk rfl (by omega) | exact zkk (zK_B0 (by omega)) (by omega) | exact zkk ((zK_B (by omega) (by decide)).trans rfl) (by omega) | exact zkk (zK_row (by omega) (by omega)) (by omega) | exact zkk (zK_file (by omega) (by omega)) (by omega) | exact zkk (zK_byte (by omega) (by omega)) (by omega) | exact zkk (zK_list (by omega)) (by omega) | assumption); (case j186 => omega)
      refine zx_is4 zd93_223 rfl ?_
      refine zx_il3 zd93_225 ?_
      refine zx_c zd93_226 ?_
      refine zx_cs2I zd93_228 (zm_turned _ _ _ _) ?_
      refine zx_il3 zd93_231 ?_
      refine zx_c zd93_232 ?_
      refine zx_cs2I zd93_234 (zm_turned _ _ _ _) ?_
      first | with_reducible refine zx_xorN zd93_237 ?_ | refine zx_xor zd93_237 ?_
      refine zx_il3 zd93_238 ?_
      refine zx_c zd93_239 ?_
      refine zx_cs2I zd93_241 (zm_turned _ _ _ _) ?_
      first | with_reducible refine zx_xorN zd93_244 ?_ | refine zx_xor zd93_244 ?_
      refine zx_is5 zd93_245 rfl ?_
      refine zx_il3 zd93_247 ?_
      refine zx_al0 zd93_248 ?_
      (refine' zx_gfA zd93_249 ?k202 ?r202 ?_); (case k202 => first | exact zkk rfl (by omega) | exact zkk (zK_B0 (by omega)) (by omega) | exact zkk ((zK_B (by omega) (by decide)).trans rfl) (by omega) | exact zkk (zK_row (by omega) (by omega)) (by omega) | exact zkk (zK_file (by omega) (by omega)) (by omega) | exact zkk (zK_byte (by omega) (by omega)) (by omega) | exact zkk (zK_list (by omega)) (by omega) | assumption); (case r202 => first | exact hR.1 _ _ _ rfl | assumption)
      refine zx_c zd93_252 ?_
      (with_reducible refine' zx_ialdN zd93_253 ?k204 ?j204 ?_); (case k204 => first | exact zkk rfl (by omega) | exact zkk (zK_B0 (by omega)) (by omega) | exact zkk ((zK_B (by omega) (by decide)).trans rfl) (by omega) | exact zkk (zK_row (by omega) (by omega)) (by omega) | exact zkk (zK_file (by omega) (by omega)) (by omega) | exact zkk (zK_byte (by omega) (by omega)) (by omega) | exact zkk (zK_list (by omega)) (by omega) | assumption); (case j204 => omega)
      first | with_reducible refine zx_andN zd93_254 ?_ | refine zx_and zd93_254 ?_
      refine zx_il3 zd93_255 ?_
      refine zx_c zd93_256 ?_
      first | with_reducible refine zx_xorN zd93_257 ?_ | refine zx_xor zd93_257 ?_
      refine zx_al0 zd93_258 ?_
      (refine' zx_gfA zd93_259 ?k210 ?r210 ?_); (case k210 => first | exact zkk rfl (by omega) | exact zkk (zK_B0 (by omega)) (by omega) | exact zkk ((zK_B (by omega) (by decide)).trans rfl) (by omega) | exact zkk (zK_row (by omega) (by omega)) (by omega) | exact zkk (zK_file (by omega) (by omega)) (by omega) | exact zkk (zK_byte (by omega) (by omega)) (by omega) | exact zkk (zK_list (by omega)) (by omega) | assumption); (case r210 => first | exact hR.1 _ _ _ rfl | assumption)
      refine zx_c zd93_262 ?_
      (with_reducible refine' zx_ialdN zd93_264 ?k212 ?j212 ?_); (case k212 => first | exact zkk rfl (by omega) | exact zkk (zK_B0 (by omega)) (by omega) | exact zkk ((zK_B (by omega) (by decide)).trans rfl) (by omega) | exact zkk (zK_row (by omega) (by omega)) (by omega) | exact zkk (zK_file (by omega) (by omega)) (by omega) | exact zkk (zK_byte (by omega) (by omega)) (by omega) | exact zkk (zK_list (by omega)) (by omega) | assumption); (case j212 => omega)
      first | with_reducible refine zx_andN zd93_265 ?_ | refine zx_and zd93_265 ?_
      first | with_reducible refine zx_xorN zd93_266 ?_ | refine zx_xor zd93_266 ?_
      refine zx_is6 zd93_267 rfl ?_
      refine zx_al0 zd93_269 ?_
      (refine' zx_gfA zd93_270 ?k217 ?r217 ?_); (case k217 => first | exact zkk rfl (by omega) | exact zkk (zK_B0 (by omega)) (by omega) | exact zkk ((zK_B (by omega) (by decide)).trans rfl) (by omega) | exact zkk (zK_row (by omega) (by omega)) (by omega) | exact zkk (zK_file (by omega) (by omega)) (by omega) | exact zkk (zK_byte (by omega) (by omega)) (by omega) | exact zkk (zK_list (by omega)) (by omega) | assumption); (case r217 => first | exact hR.1 _ _ _ rfl | assumption)
      refine zx_c zd93_273 ?_
      (with_reducible refine' zx_ialdN zd93_275 ?k219 ?j219 ?_); (case k219 => first | exact zkk rfl (by omega) | exact zkk (zK_B0 (by omega)) (by omega) | exact zkk ((zK_B (by omega) (by decide)).trans rfl) (by omega) | exact zkk (zK_row (by omega) (by omega)) (by omega) | exact zkk (zK_file (by omega) (by omega)) (by omega) | exact zkk (zK_byte (by omega) (by omega)) (by omega) | exact zkk (zK_list (by omega)) (by omega) | assumption); (case j219 => omega)
      refine zx_il5 zd93_276 ?_
      first | with_reducible refine zx_addN zd93_278 ?_ | refine zx_add zd93_278 ?_
      refine zx_il6 zd93_279 ?_
      first | with_reducible refine zx_addN zd93_281 ?_ | refine zx_add zd93_281 ?_
      refine zx_al0 zd93_282 ?_
      (refine' zx_gfA zd93_283 ?k225 ?r225 ?_); (case k225 => first | exact zkk rfl (by omega) | exact zkk (zK_B0 (by omega)) (by omega) | exact zkk ((zK_B (by omega) (by decide)).trans rfl) (by omega) | exact zkk (zK_row (by omega) (by omega)) (by omega) | exact zkk (zK_file (by omega) (by omega)) (by omega) | exact zkk (zK_byte (by omega) (by omega)) (by omega) | exact zkk (zK_list (by omega)) (by omega) | assumption); (case r225 => first | exact hR.1 _ _ _ rfl | assumption)
      refine zx_il2 zd93_286 ?_
      (with_reducible refine' zx_ialdN zd93_287 ?k227 ?j227 ?_); (case k227 => first | exact zkk rfl (by omega) | exact zkk (zK_B0 (by omega)) (by omega) | exact zkk ((zK_B (by omega) (by decide)).trans rfl) (by omega) | exact zkk (zK_row (by omega) (by omega)) (by omega) | exact zkk (zK_file (by omega) (by omega)) (by omega) | exact zkk (zK_byte (by omega) (by omega)) (by omega) | exact zkk (zK_list (by omega)) (by omega) | assumption); (case j227 => omega)
      first | with_reducible refine zx_addN zd93_288 ?_ | refine zx_add zd93_288 ?_
      refine zx_al0 zd93_289 ?_
      (refine' zx_gfA zd93_290 ?k230 ?r230 ?_); (case k230 => first | exact zkk rfl (by omega) | exact zkk (zK_B0 (by omega)) (by omega) | exact zkk ((zK_B (by omega) (by decide)).trans rfl) (by omega) | exact zkk (zK_row (by omega) (by omega)) (by omega) | exact zkk (zK_file (by omega) (by omega)) (by omega) | exact zkk (zK_byte (by omega) (by omega)) (by omega) | exact zkk (zK_list (by omega)) (by omega) | assumption); (case r230 => first | exact hR.1 _ _ _ rfl | assumption)
      refine zx_il2 zd93_293 ?_
      (with_reducible refine' zx_ialdN zd93_294 ?k232 ?j232 ?_); (case k232 => first | exact zkk rfl (by omega) | exact zkk (zK_B0 (by omega)) (by omega) | exact zkk ((zK_B (by omega) (by decide)).trans rfl) (by omega) | exact zkk (zK_row (by omega) (by omega)) (by omega) | exact zkk (zK_file (by omega) (by omega)) (by omega) | exact zkk (zK_byte (by omega) (by omega)) (by omega) | exact zkk (zK_list (by omega)) (by omega) | assumption); (case j232 => omega)
      first | with_reducible refine zx_addN zd93_295 ?_ | refine zx_add zd93_295 ?_
      refine zx_is7 zd93_296 rfl ?_
      refine zx_il4 zd93_298 ?_
      refine zx_c zd93_300 ?_
      refine zx_cs2I zd93_301 (zm_turned _ _ _ _) ?_
      refine zx_il4 zd93_304 ?_
      refine zx_c zd93_306 ?_
      refine zx_cs2I zd93_308 (zm_turned _ _ _ _) ?_
      first | with_reducible refine zx_xorN zd93_311 ?_ | refine zx_xor zd93_311 ?_
      refine zx_il4 zd93_312 ?_
      refine zx_c zd93_314 ?_
      refine zx_cs2I zd93_316 (zm_turned _ _ _ _) ?_
      first | with_reducible refine zx_xorN zd93_319 ?_ | refine zx_xor zd93_319 ?_
      refine zx_is8 zd93_320 rfl ?_
      refine zx_il4 zd93_322 ?_
      refine zx_al0 zd93_324 ?_
      (refine' zx_gfA zd93_325 ?k249 ?r249 ?_); (case k249 => first | exact zkk rfl (by omega) | exact zkk (zK_B0 (by omega)) (by omega) | exact zkk ((zK_B (by omega) (by decide)).trans rfl) (by omega) | exact zkk (zK_row (by omega) (by omega)) (by omega) | exact zkk (zK_file (by omega) (by omega)) (by omega) | exact zkk (zK_byte (by omega) (by omega)) (by omega) | exact zkk (zK_list (by omega)) (by omega) | assumption); (case r249 => first | exact hR.1 _ _ _ rfl | assumption)
      refine zx_c zd93_328 ?_
      (with_reducible refine' zx_ialdN zd93_329 ?k251 ?j251 ?_); (case k251 => first | exact zkk rfl (by omega) | exact zkk (zK_B0 (by omega)) (by omega) | exact zkk ((zK_B (by omega) (by decide)).trans rfl) (by omega) | exact zkk (zK_row (by omega) (by omega)) (by omega) | exact zkk (zK_file (by omega) (by omega)) (by omega) | exact zkk (zK_byte (by omega) (by omega)) (by omega) | exact zkk (zK_list (by omega)) (by omega) | assumption); (case j251 => omega)
      first | with_reducible refine zx_andN zd93_330 ?_ | refine zx_and zd93_330 ?_
      refine zx_il4 zd93_331 ?_
      refine zx_al0 zd93_333 ?_
      (refine' zx_gfA zd93_334 ?k255 ?r255 ?_); (case k255 => first | exact zkk rfl (by omega) | exact zkk (zK_B0 (by omega)) (by omega) | exact zkk ((zK_B (by omega) (by decide)).trans rfl) (by omega) | exact zkk (zK_row (by omega) (by omega)) (by omega) | exact zkk (zK_file (by omega) (by omega)) (by omega) | exact zkk (zK_byte (by omega) (by omega)) (by omega) | exact zkk (zK_list (by omega)) (by omega) | assumption); (case r255 => first | exact hR.1 _ _ _ rfl | assumption)
      refine zx_c zd93_337 ?_
      (with_reducible refine' zx_ialdN zd93_338 ?k257 ?j257 ?_); (case k257 => first | exact zkk rfl (by omega) | exact zkk (zK_B0 (by omega)) (by omega) | exact zkk ((zK_B (by omega) (by decide)).trans rfl) (by omega) | exact zkk (zK_row (by omega) (by omega)) (by omega) | exact zkk (zK_file (by omega) (by omega)) (by omega) | exact zkk (zK_byte (by omega) (by omega)) (by omega) | exact zkk (zK_list (by omega)) (by omega) | assumption); (case j257 => omega)
      first | with_reducible refine zx_andN zd93_339 ?_ | refine zx_and zd93_339 ?_
      first | with_reducible refine zx_xorN zd93_340 ?_ | refine zx_xor zd93_340 ?_
      refine zx_al0 zd93_341 ?_
      (refine' zx_gfA zd93_342 ?k261 ?r261 ?_); (case k261 => first | exact zkk rfl (by omega) | exact zkk (zK_B0 (by omega)) (by omega) | exact zkk ((zK_B (by omega) (by decide)).trans rfl) (by omega) | exact zkk (zK_row (by omega) (by omega)) (by omega) | exact zkk (zK_file (by omega) (by omega)) (by omega) | exact zkk (zK_byte (by omega) (by omega)) (by omega) | exact zkk (zK_list (by omega)) (by omega) | assumption); (case r261 => first | exact hR.1 _ _ _ rfl | assumption)
      refine zx_c zd93_345 ?_
      (with_reducible refine' zx_ialdN zd93_346 ?k263 ?j263 ?_); (case k263 => first | exact zkk rfl (by omega) | exact zkk (zK_B0 (by omega)) (by omega) | exact zkk ((zK_B (by omega) (by decide)).trans rfl) (by omega) | exact zkk (zK_row (by omega) (by omega)) (by omega) | exact zkk (zK_file (by omega) (by omega)) (by omega) | exact zkk (zK_byte (by omega) (by omega)) (by omega) | exact zkk (zK_list (by omega)) (by omega) | assumption); (case j263 => omega)
      refine zx_al0 zd93_347 ?_
      (refine' zx_gfA zd93_348 ?k265 ?r265 ?_); (case k265 => first | exact zkk rfl (by omega) | exact zkk (zK_B0 (by omega)) (by omega) | exact zkk ((zK_B (by omega) (by decide)).trans rfl) (by omega) | exact zkk (zK_row (by omega) (by omega)) (by omega) | exact zkk (zK_file (by omega) (by omega)) (by omega) | exact zkk (zK_byte (by omega) (by omega)) (by omega) | exact zkk (zK_list (by omega)) (by omega) | assumption); (case r265 => first | exact hR.1 _ _ _ rfl | assumption)
      refine zx_c zd93_351 ?_
      (with_reducible refine' zx_ialdN zd93_352 ?k267 ?j267 ?_); (case k267 => first | exact zkk rfl (by omega) | exact zkk (zK_B0 (by omega)) (by omega) | exact zkk ((zK_B (by omega) (by decide)).trans rfl) (by omega) | exact zkk (zK_row (by omega) (by omega)) (by omega) | exact zkk (zK_file (by omega) (by omega)) (by omega) | exact zkk (zK_byte (by omega) (by omega)) (by omega) | exact zkk (zK_list (by omega)) (by omega) | assumption); (case j267 => omega)
      first | with_reducible refine zx_andN zd93_353 ?_ | refine zx_and zd93_353 ?_
      first | with_reducible refine zx_xorN zd93_354 ?_ | refine zx_xor zd93_354 ?_
      refine zx_is9 zd93_355 rfl ?_
      refine zx_c zd93_357 ?_
      refine zx_is10 zd93_359 rfl ?_
      have e7 : zsh (zrw I 628 (zw8 (zrds (I 627) (I 624) (I 626) n) g) 628) 7 = zrw I 628 (zw8 (zrds (I 627) (I 624) (I 626) n) g) 628 := by
        funext j
        exact if_neg (by omega)
      have k2 := zm_b4i (L := L) (U := U) (I := zrw I 628 (zw8 (zrds (I 627) (I 624) (I 626) n) g)) (J := J) (Q := Q) hR hN (l1 := l1) (l2 := some (.int (Int32.ofNat n))) (l3 := some (.int (zrds (I 627) (I 624) (I 626) n 4))) (l4 := some (.int (zrds (I 627) (I 624) (I 626) n 0)))
        (l5 := some (.int (zhi (zrds (I 627) (I 624) (I 626) n 4)))) (l6 := some (.int (zch (zrds (I 627) (I 624) (I 626) n 4) (zrds (I 627) (I 624) (I 626) n 5) (zrds (I 627) (I 624) (I 626) n 6)))) (l7 := some (.int (zfs (zrds (I 627) (I 624) (I 626) n) (I 624 n) (I 626 n))))
        (l8 := some (.int (zlw (zrds (I 627) (I 624) (I 626) n 0)))) (l9 := some (.int (zmj (zrds (I 627) (I 624) (I 626) n 0) (zrds (I 627) (I 624) (I 626) n 1) (zrds (I 627) (I 624) (I 626) n 2)))) ?_ 7 (by decide)
      · rw [e7, zrw_at, zrw_rw] at k2
        exact k2
      · rw [zrw_at, zrw_rw]
        refine zx_al0 zd93_388 ?_
        (refine' zx_gfA zd93_389 ?k274 ?r274 ?_); (case k274 => first | exact zkk rfl (by omega) | exact zkk (zK_B0 (by omega)) (by omega) | exact zkk ((zK_B (by omega) (by decide)).trans rfl) (by omega) | exact zkk (zK_row (by omega) (by omega)) (by omega) | exact zkk (zK_file (by omega) (by omega)) (by omega) | exact zkk (zK_byte (by omega) (by omega)) (by omega) | exact zkk (zK_list (by omega)) (by omega) | assumption); (case r274 => first | exact hR.1 _ _ _ rfl | assumption)
        refine zx_c zd93_392 ?_
        refine zx_dup2 zd93_393 ?_
        (with_reducible refine' zx_ialdN zd93_394 ?k277 ?j277 ?_); (case k277 => first | exact zkk rfl (by omega) | exact zkk (zK_B0 (by omega)) (by omega) | exact zkk ((zK_B (by omega) (by decide)).trans rfl) (by omega) | exact zkk (zK_row (by omega) (by omega)) (by omega) | exact zkk (zK_file (by omega) (by omega)) (by omega) | exact zkk (zK_byte (by omega) (by omega)) (by omega) | exact zkk (zK_list (by omega)) (by omega) | assumption); (case j277 => omega)
        refine zx_il7 zd93_395 ?_
        first | with_reducible refine zx_addN zd93_397 ?_ | refine zx_add zd93_397 ?_
        (with_reducible refine' zx_iastN zd93_398 ?k280 ?j280 ?a280 ?_); (case k280 => first | exact zkk rfl (by omega) | exact zkk (zK_B0 (by omega)) (by omega) | exact zkk ((zK_B (by omega) (by decide)).trans rfl) (by omega) | exact zkk (zK_row (by omega) (by omega)) (by omega) | exact zkk (zK_file (by omega) (by omega)) (by omega) | exact zkk (zK_byte (by omega) (by omega)) (by omega) | exact zkk (zK_list (by omega)) (by omega) | assumption); (case j280 => omega); (case a280 => omega)
        refine zx_al0 zd93_399 ?_
        (refine' zx_gfA zd93_400 ?k282 ?r282 ?_); (case k282 => first | exact zkk rfl (by omega) | exact zkk (zK_B0 (by omega)) (by omega) | exact zkk ((zK_B (by omega) (by decide)).trans rfl) (by omega) | exact zkk (zK_row (by omega) (by omega)) (by omega) | exact zkk (zK_file (by omega) (by omega)) (by omega) | exact zkk (zK_byte (by omega) (by omega)) (by omega) | exact zkk (zK_list (by omega)) (by omega) | assumption); (case r282 => first | exact hR.1 _ _ _ rfl | assumption)
        refine zx_c zd93_403 ?_
        refine zx_il7 zd93_404 ?_
        refine zx_il8 zd93_406 ?_
        first | with_reducible refine zx_addN zd93_408 ?_ | refine zx_add zd93_408 ?_
        refine zx_il9 zd93_409 ?_
        first | with_reducible refine zx_addN zd93_411 ?_ | refine zx_add zd93_411 ?_
        (with_reducible refine' zx_iastN zd93_412 ?k289 ?j289 ?a289 ?_); (case k289 => first | exact zkk rfl (by omega) | exact zkk (zK_B0 (by omega)) (by omega) | exact zkk ((zK_B (by omega) (by decide)).trans rfl) (by omega) | exact zkk (zK_row (by omega) (by omega)) (by omega) | exact zkk (zK_file (by omega) (by omega)) (by omega) | exact zkk (zK_byte (by omega) (by omega)) (by omega) | exact zkk (zK_list (by omega)) (by omega) | assumption); (case j289 => omega); (case a289 => omega)
        first | with_reducible refine zx_iin2 zd93_413 ?_ | refine zx_ii2 zd93_413 ?_
        refine zx_goto zd93_416 ?_
        have k := ih (n + 1) (some (.int (zrds (I 627) (I 624) (I 626) n 4))) (some (.int (zrds (I 627) (I 624) (I 626) n 0))) (some (.int (zhi (zrds (I 627) (I 624) (I 626) n 4)))) (some (.int (zch (zrds (I 627) (I 624) (I 626) n 4) (zrds (I 627) (I 624) (I 626) n 5) (zrds (I 627) (I 624) (I 626) n 6)))) (some (.int (zfs (zrds (I 627) (I 624) (I 626) n) (I 624 n) (I 626 n)))) (some (.int (zlw (zrds (I 627) (I 624) (I 626) n 0)))) (some (.int (zmj (zrds (I 627) (I 624) (I 626) n 0) (zrds (I 627) (I 624) (I 626) n 1) (zrds (I 627) (I 624) (I 626) n 2)))) (some (.int (Int32.ofNat 0))) (by omega)
        have e : zw8 (zrds (I 627) (I 624) (I 626) (n + 1)) g = zup (zup (zsh (zw8 (zrds (I 627) (I 624) (I 626) n) g) 0) 4 (zrds (I 627) (I 624) (I 626) n 3 + zfs (zrds (I 627) (I 624) (I 626) n) (I 624 n) (I 626 n))) 0 (zfs (zrds (I 627) (I 624) (I 626) n) (I 624 n) (I 626 n) + zlw (zrds (I 627) (I 624) (I 626) n 0) + zmj (zrds (I 627) (I 624) (I 626) n 0) (zrds (I 627) (I 624) (I 626) n 1) (zrds (I 627) (I 624) (I 626) n 2)) := by
          funext j
          match j with
          | 0 => rfl
          | 1 => rfl
          | 2 => rfl
          | 3 => rfl
          | 4 => rfl
          | 5 => rfl
          | 6 => rfl
          | 7 => rfl
          | j + 8 =>
            unfold zw8
            rw [zfill_out _ _ _ _ (by omega), zup_ne _ _ (by omega), zup_ne _ _ (by omega)]
            show g (j + 8) = (if 0 < j + 8 ∧ j + 8 ≤ 7 then _ else zfill g 0 8 _ (j + 8))
            rw [if_neg (by omega), zfill_out _ _ _ _ (by omega)]
        rw [e] at k
        simp only [zu_rw, zrw_rw, zrw_at]
        exact k
theorem zm_b5 (hR : zRs R) (hN : 646 ≤ N) {l1 l3 l4 l5 l6 l7 l8 l9 l10 : Option Value}
    (kk : zW L 93 448 [some (.ref 623), l1, some (.int (Int32.ofNat 8)), l3, l4, l5, l6, l7, l8, l9, l10] [] (N, U, zrw I 627 (zfill (I 627) 0 8 (fun j => I 627 j + I 628 j)), J, R) Q) :
    ∀ (q i : Nat), i + q = 8 → zW L 93 421 [some (.ref 623), l1, some (.int (Int32.ofNat i)), l3, l4, l5, l6, l7, l8, l9, l10] [] (N, U, zrw I 627 (zfill (I 627) 0 i (fun j => I 627 j + I 628 j)), J, R) Q := by
  intro q
  induction q with
  | zero =>
    intro i hi
    obtain rfl : i = 8 := by omega
    refine zx_il2 zd93_421 ?_
    refine zx_c zd93_422 ?_
    first | ((with_reducible refine zx_icmpgeN zd93_424 ?s294 (fun hc => ?_) (fun hc => ?_)); (case s294 => omega)) | refine zx_icmpge zd93_424 (fun hc => ?_) (fun hc => ?_)
    · exact kk
    · omega
  | succ q ih =>
    intro i hi
    refine zx_il2 zd93_421 ?_
    refine zx_c zd93_422 ?_
    first | ((with_reducible refine zx_icmpgeN zd93_424 ?s297 (fun hc => ?_) (fun hc => ?_)); (case s297 => omega)) | refine zx_icmpge zd93_424 (fun hc => ?_) (fun hc => ?_)
    · omega
    · refine zx_al0 zd93_427 ?_
      (refine' zx_gfA zd93_428 ?k299 ?r299 ?_); (case k299 => first | exact zkk rfl (by omega) | exact zkk (zK_B0 (by omega)) (by omega) | exact zkk ((zK_B (by omega) (by decide)).trans rfl) (by omega) | exact zkk (zK_row (by omega) (by omega)) (by omega) | exact zkk (zK_file (by omega) (by omega)) (by omega) | exact zkk (zK_byte (by omega) (by omega)) (by omega) | exact zkk (zK_list (by omega)) (by omega) | assumption); (case r299 => first | exact hR.1 _ _ _ rfl | assumption)
      refine zx_il2 zd93_431 ?_
      refine zx_dup2 zd93_432 ?_
      (with_reducible refine' zx_ialdN zd93_433 ?k302 ?j302 ?_); (case k302 => first | exact zkk rfl (by omega) | exact zkk (zK_B0 (by omega)) (by omega) | exact zkk ((zK_B (by omega) (by decide)).trans rfl) (by omega) | exact zkk (zK_row (by omega) (by omega)) (by omega) | exact zkk (zK_file (by omega) (by omega)) (by omega) | exact zkk (zK_byte (by omega) (by omega)) (by omega) | exact zkk (zK_list (by omega)) (by omega) | assumption); (case j302 => omega)
      refine zx_al0 zd93_434 ?_
      (refine' zx_gfA zd93_435 ?k304 ?r304 ?_); (case k304 => first | exact zkk rfl (by omega) | exact zkk (zK_B0 (by omega)) (by omega) | exact zkk ((zK_B (by omega) (by decide)).trans rfl) (by omega) | exact zkk (zK_row (by omega) (by omega)) (by omega) | exact zkk (zK_file (by omega) (by omega)) (by omega) | exact zkk (zK_byte (by omega) (by omega)) (by omega) | exact zkk (zK_list (by omega)) (by omega) | assumption); (case r304 => first | exact hR.1 _ _ _ rfl | assumption)
      refine zx_il2 zd93_438 ?_
      (with_reducible refine' zx_ialdN zd93_439 ?k306 ?j306 ?_); (case k306 => first | exact zkk rfl (by omega) | exact zkk (zK_B0 (by omega)) (by omega) | exact zkk ((zK_B (by omega) (by decide)).trans rfl) (by omega) | exact zkk (zK_row (by omega) (by omega)) (by omega) | exact zkk (zK_file (by omega) (by omega)) (by omega) | exact zkk (zK_byte (by omega) (by omega)) (by omega) | exact zkk (zK_list (by omega)) (by omega) | assumption); (case j306 => omega)
      first | with_reducible refine zx_addN zd93_440 ?_ | refine zx_add zd93_440 ?_
      (with_reducible refine' zx_iastN zd93_441 ?k308 ?j308 ?a308 ?_); (case k308 => first | exact zkk rfl (by omega) | exact zkk (zK_B0 (by omega)) (by omega) | exact zkk ((zK_B (by omega) (by decide)).trans rfl) (by omega) | exact zkk (zK_row (by omega) (by omega)) (by omega) | exact zkk (zK_file (by omega) (by omega)) (by omega) | exact zkk (zK_byte (by omega) (by omega)) (by omega) | exact zkk (zK_list (by omega)) (by omega) | assumption); (case j308 => omega); (case a308 => omega)
      first | with_reducible refine zx_iin2 zd93_442 ?_ | refine zx_ii2 zd93_442 ?_
      refine zx_goto zd93_445 ?_
      have e := zfill_succ (I 627) 0 i (fun j => I 627 j + I 628 j)
      rw [Nat.zero_add] at e
      have k := ih (i + 1) (by omega)
      rw [← e] at k
      rw [zu_rw, zrw_rw, zrw_at, zrw_ne _ _ (show 628 ≠ 627 by decide), zfill_out _ _ _ _ (show ¬ (0 ≤ i ∧ i < 0 + i) by omega)]
      exact k
/-- a block of the input comes into the state -/
theorem zm_block (hR : zRs R) (hN : 646 ≤ N) (hK : ∀ j, j < 64 → I 624 j = zKr j) {p : Nat} (hp : p + 64 ≤ 512) :
    ∃ I', zRet L 93 [.ref 623, .int (Int32.ofNat p)] (N, U, I, J, R) none (N, U, I', J, R) ∧ (∀ j, j < 8 → I' 627 j = zcomp (I 627) zKr (zsch (fun k => zwdI (I 625) (p + 4 * k)) 48) j) ∧ ∀ b, b ≠ 626 → b ≠ 627 → b ≠ 628 → I' b = I b := by
  have w : zW L 93 0 (zent 93 [.ref 623, .int (Int32.ofNat p)]) [] (N, U, I, J, R) (fun o k => o = .inl none ∧ ∃ I' : zI, k = (N, U, I', J, R) ∧ (∀ j, j < 8 → I' 627 j = zcomp (I 627) zKr (zsch (fun k => zwdI (I 625) (p + 4 * k)) 48) j) ∧ ∀ b, b ≠ 626 → b ≠ 627 → b ≠ 628 → I' b = I b) := by
    show zW L 93 0 [some (.ref 623), some (.int (Int32.ofNat p)), none, none, none, none, none, none, none, none, none] [] _ _
    refine zx_c zd93_0 ?_
    refine zx_is2 zd93_1 rfl ?_
    have k1 := fun kk => zm_b1 (L := L) (U := U) (I := I) (J := J) (Q := fun o k => o = .inl none ∧ ∃ I' : zI, k = (N, U, I', J, R) ∧ (∀ j, j < 8 → I' 627 j = zcomp (I 627) zKr (zsch (fun k => zwdI (I 625) (p + 4 * k)) 48) j) ∧ ∀ b, b ≠ 626 → b ≠ 627 → b ≠ 628 → I' b = I b) hR hN hp (l4 := none) (l5 := none) (l6 := none) (l7 := none) (l8 := none) (l9 := none) (l10 := none) kk 16 0 none rfl
    rw [zfill_zero, zrw_id] at k1
    refine k1 (fun l3 => ?_)
    refine zx_c zd93_68 ?_
    refine zx_is2 zd93_70 rfl ?_
    generalize hI1 : zrw I 626 (zfill (I 626) 0 16 (fun k => zwdI (I 625) (p + 4 * k))) = I1
    have k2 := fun kk => zm_b2 (L := L) (U := U) (I := I1) (J := J) (Q := fun o k => o = .inl none ∧ ∃ I' : zI, k = (N, U, I', J, R) ∧ (∀ j, j < 8 → I' 627 j = zcomp (I 627) zKr (zsch (fun k => zwdI (I 625) (p + 4 * k)) 48) j) ∧ ∀ b, b ≠ 626 → b ≠ 627 → b ≠ 628 → I' b = I b) hR hN (l1 := some (.int (Int32.ofNat p))) (l7 := none) (l8 := none) (l9 := none) (l10 := none) kk 48 0 l3 none none none rfl
    rw [show zsch (I1 626) 0 = I1 626 from rfl, zrw_id] at k2
    refine k2 (fun l3 l4 l5 l6 => ?_)
    refine zx_c zd93_176 ?_
    refine zx_is2 zd93_177 rfl ?_
    generalize hI2 : zrw I1 626 (zsch (I1 626) 48) = I2
    have k3 := fun kk => zm_b3 (L := L) (U := U) (I := I2) (J := J) (Q := fun o k => o = .inl none ∧ ∃ I' : zI, k = (N, U, I', J, R) ∧ (∀ j, j < 8 → I' 627 j = zcomp (I 627) zKr (zsch (fun k => zwdI (I 625) (p + 4 * k)) 48) j) ∧ ∀ b, b ≠ 626 → b ≠ 627 → b ≠ 628 → I' b = I b) hR hN (l1 := some (.int (Int32.ofNat p))) (l3 := l3) (l4 := l4) (l5 := l5) (l6 := l6) (l7 := none) (l8 := none) (l9 := none) (l10 := none) kk 8 0 rfl
    rw [zfill_zero, zrw_id] at k3
    refine k3 ?_
    refine zx_c zd93_202 ?_
    refine zx_is2 zd93_203 rfl ?_
    generalize hI3 : zrw I2 628 (zfill (I2 628) 0 8 (I2 627)) = I3
    have e3 : I3 628 = zw8 (I3 627) (I2 628) := by
      rw [← hI3, zrw_at, zrw_ne _ _ (show 627 ≠ 628 by decide)]; rfl
    have k4 := fun kk => zm_b4 (L := L) (U := U) (I := I3) (J := J) (Q := fun o k => o = .inl none ∧ ∃ I' : zI, k = (N, U, I', J, R) ∧ (∀ j, j < 8 → I' 627 j = zcomp (I 627) zKr (zsch (fun k => zwdI (I 625) (p + 4 * k)) 48) j) ∧ ∀ b, b ≠ 626 → b ≠ 627 → b ≠ 628 → I' b = I b) hR hN (l1 := some (.int (Int32.ofNat p))) e3 kk 64 0 l3 l4 l5 l6 none none none none rfl
    rw [show zrds (I3 627) (I3 624) (I3 626) 0 = I3 627 from rfl, ← e3, zrw_id] at k4
    refine k4 (fun l3 l4 l5 l6 l7 l8 l9 l10 => ?_)
    refine zx_c zd93_419 ?_
    refine zx_is2 zd93_420 rfl ?_
    generalize hI4 : zrw I3 628 (zw8 (zrds (I3 627) (I3 624) (I3 626) 64) (I2 628)) = I4
    have k5 := fun kk => zm_b5 (L := L) (U := U) (I := I4) (J := J) (Q := fun o k => o = .inl none ∧ ∃ I' : zI, k = (N, U, I', J, R) ∧ (∀ j, j < 8 → I' 627 j = zcomp (I 627) zKr (zsch (fun k => zwdI (I 625) (p + 4 * k)) 48) j) ∧ ∀ b, b ≠ 626 → b ≠ 627 → b ≠ 628 → I' b = I b) hR hN (l1 := some (.int (Int32.ofNat p))) (l3 := l3) (l4 := l4) (l5 := l5) (l6 := l6) (l7 := l7) (l8 := l8) (l9 := l9) (l10 := l10) kk 8 0 rfl
    rw [zfill_zero, zrw_id] at k5
    refine k5 ?_
    refine zx_vret zd93_448 rfl ?_
    refine ⟨rfl, _, rfl, fun j hj => ?_, fun b h1 h2 h3 => ?_⟩
    · have a627 : I4 627 = I 627 := by
        rw [← hI4, zrw_ne _ _ (show 627 ≠ 628 by decide), ← hI3, zrw_ne _ _ (show 627 ≠ 628 by decide), ← hI2, zrw_ne _ _ (show 627 ≠ 626 by decide), ← hI1, zrw_ne _ _ (show 627 ≠ 626 by decide)]
      have b627 : I3 627 = I 627 := by
        rw [← hI3, zrw_ne _ _ (show 627 ≠ 628 by decide), ← hI2, zrw_ne _ _ (show 627 ≠ 626 by decide), ← hI1, zrw_ne _ _ (show 627 ≠ 626 by decide)]
      have b624 : I3 624 = I 624 := by
        rw [← hI3, zrw_ne _ _ (show 624 ≠ 628 by decide), ← hI2, zrw_ne _ _ (show 624 ≠ 626 by decide), ← hI1, zrw_ne _ _ (show 624 ≠ 626 by decide)]
      have b626 : I3 626 = zsch (zfill (I 626) 0 16 (fun k => zwdI (I 625) (p + 4 * k))) 48 := by
        rw [← hI3, zrw_ne _ _ (show 626 ≠ 628 by decide), ← hI2, zrw_at, ← hI1, zrw_at]
      have a628 : I4 628 j = zrds (I 627) (I 624) (zsch (zfill (I 626) 0 16 (fun k => zwdI (I 625) (p + 4 * k))) 48) 64 j := by
        rw [← hI4, zrw_at]
        unfold zw8
        rw [zfill_in0 _ _ _ hj, b627, b624, b626]
      rw [zrw_at, zfill_in0 _ _ _ hj, a627, a628]
      unfold zcomp
      rw [if_pos hj]
      refine congrArg (fun x => I 627 j + x) ?_
      exact zrds_lt (fun _ _ => rfl) 64 (by decide) hK (fun i hi => zsch_lt _ _ 48 (fun k hk => zfill_in0 _ _ _ hk) i (by omega)) j hj
    · rw [zrw_ne _ _ h2, ← hI4, zrw_ne _ _ h3, ← hI3, zrw_ne _ _ h3, ← hI2, zrw_ne _ _ h1, ← hI1, zrw_ne _ _ h1]
  obtain ⟨k, hr, I', rfl, hd, hf⟩ := zRet_of w
  exact ⟨I', hr, hd, hf⟩
end ZMS
end
section
/-! THE REFERENCE'S DIGEST of its input -/
/-- the bits that a shift and a mask leave -/
theorem zmask (x : Int32) {s : Nat} (hs : s = 0 ∨ s = 8 ∨ s = 16 ∨ s = 24) : x >>> (Int32.ofNat s &&& 31) &&& Int32.ofNat 255 = zush x (Int32.ofNat s) &&& Int32.ofNat 255 := by
  apply Int32.toBitVec_inj.mp
  rw [Int32.toBitVec_and, Int32.toBitVec_and, Int32.toBitVec_shiftRight]
  unfold zush
  have e : ∀ q : Fin 32, (Int32.ofNat q.val &&& 31).toBitVec.smod 32 = BitVec.ofNat 32 q.val := by decide
  have e2 : ∀ q : Fin 32, ((Int32.ofNat q.val).toUInt32 &&& Int32.toUInt32 31).toBitVec % 32 = BitVec.ofNat 32 q.val := by decide
  show _ = (x.toUInt32 >>> ((Int32.ofNat s).toUInt32 &&& Int32.toUInt32 31)).toBitVec &&& _
  rw [UInt32.toBitVec_shiftRight]
  have hlt : s < 32 := by omega
  rw [e ⟨s, hlt⟩, e2 ⟨s, hlt⟩]
  show BitVec.sshiftRight x.toBitVec (BitVec.ofNat 32 s).toNat &&& BitVec.ofNat 32 255 = x.toBitVec >>> (BitVec.ofNat 32 s).toNat &&& BitVec.ofNat 32 255
  have hn : (BitVec.ofNat 32 s).toNat = s := by rw [BitVec.toNat_ofNat]; omega
  rw [hn]
  apply BitVec.eq_of_getLsbD_eq
  intro i hi
  rw [BitVec.getLsbD_and, BitVec.getLsbD_and, BitVec.getLsbD_sshiftRight, BitVec.getLsbD_ushiftRight]
  by_cases h8 : i < 8
  · have h1 : s + i < 32 := by omega
    have h2 : ¬ 32 ≤ i := by omega
    simp [h1, h2]
  · have h255 : (BitVec.ofNat 32 255).getLsbD i = false := by
      have : ∀ q : Fin 32, 8 ≤ q.val → (BitVec.ofNat 32 255).getLsbD q.val = false := by decide
      exact this ⟨i, hi⟩ (by show 8 ≤ i; omega)
    rw [h255, Bool.and_false, Bool.and_false]
section ZMD
variable {L N U : Nat} {I : zI} {J : zJ} {R : zR} {m : List Int32} {Q : zOut → zHp → Prop}
/-- only the object's size and the input have changed -/
def zF2 (I I' : zI) : Prop := (∀ c, c ≠ 623 → c ≠ 625 → I' c = I c) ∧ ∀ f, f ≠ 2 → I' 623 f = I 623 f
theorem zF2.refl (I : zI) : zF2 I I := ⟨fun _ _ _ => rfl, fun _ _ => rfl⟩
theorem zF2.trans {I I' I'' : zI} (h : zF2 I I') (h' : zF2 I' I'') : zF2 I I'' := ⟨fun b h1 h2 => (h'.1 b h1 h2).trans (h.1 b h1 h2), fun f hf => (h'.2 f hf).trans (h.2 f hf)⟩
theorem zs_mput2 (hR : zRs R) (hN : 646 ≤ N) (hm : zMg m I) (hs : m.length < 512) (b : Int32) : ∃ I', zRet L 91 [.ref 623, .int b] (N, U, I, J, R) none (N, U, I', J, R) ∧ zMg (m ++ [b]) I' ∧ zF2 I I' := by
  obtain ⟨I', h1, h2, h3, h4⟩ := zs_mput (L := L) (U := U) (J := J) hR hN hm hs b
  exact ⟨I', h1, h2, h4, h3.2⟩
/-- zeros, until 56 -/
theorem zm_d1 (hR : zRs R) (hN : 646 ≤ N) {l1 l2 : Option Value} {I0 : zI} {z : Nat} (hz : z < 64) (h56 : (m.length + z) % 64 = 56) (hs : m.length < 400)
    (kk : ∀ I' : zI, zMg (m ++ List.replicate z (Int32.ofNat 0)) I' → zF2 I0 I' → zW L 92 32 [some (.ref 623), l1, l2] [] (N, U, I', J, R) Q) :
    ∀ (q i : Nat) (I' : zI), i + q = z → zMg (m ++ List.replicate i (Int32.ofNat 0)) I' → zF2 I0 I' → zW L 92 12 [some (.ref 623), l1, l2] [] (N, U, I', J, R) Q := by
  intro q
  induction q with
  | zero =>
    intro i I' hi hm hf
    obtain rfl : i = z := by omega
    refine zx_al0 zd92_12 ?_
    (refine zx_gfI zd92_13 ?k2 ?_); (case k2 => first | exact zkk rfl (by omega) | exact zkk (zK_B0 (by omega)) (by omega) | exact zkk ((zK_B (by omega) (by decide)).trans rfl) (by omega) | exact zkk (zK_row (by omega) (by omega)) (by omega) | exact zkk (zK_file (by omega) (by omega)) (by omega) | exact zkk (zK_byte (by omega) (by omega)) (by omega) | exact zkk (zK_list (by omega)) (by omega) | assumption)
    rw [hm.1, List.length_append, List.length_replicate]
    refine zx_c zd92_16 ?_
    first | ((with_reducible refine zx_remN zd92_18 ?h4 ?_); (case h4 => omega)) | refine zx_rem zd92_18 (by decide) ?_
    refine zx_c zd92_19 ?_
    first | ((with_reducible refine zx_icmpeqN zd92_21 ?s6 (fun hc => ?_) (fun hc => ?_)); (case s6 => omega)) | refine zx_icmpeq zd92_21 (fun hc => ?_) (fun hc => ?_)
    · exact kk I' hm hf
    · omega
  | succ q ih =>
    intro i I' hi hm hf
    refine zx_al0 zd92_12 ?_
    (refine zx_gfI zd92_13 ?k8 ?_); (case k8 => first | exact zkk rfl (by omega) | exact zkk (zK_B0 (by omega)) (by omega) | exact zkk ((zK_B (by omega) (by decide)).trans rfl) (by omega) | exact zkk (zK_row (by omega) (by omega)) (by omega) | exact zkk (zK_file (by omega) (by omega)) (by omega) | exact zkk (zK_byte (by omega) (by omega)) (by omega) | exact zkk (zK_list (by omega)) (by omega) | assumption)
    rw [hm.1, List.length_append, List.length_replicate]
    refine zx_c zd92_16 ?_
    first | ((with_reducible refine zx_remN zd92_18 ?h10 ?_); (case h10 => omega)) | refine zx_rem zd92_18 (by decide) ?_
    refine zx_c zd92_19 ?_
    first | ((with_reducible refine zx_icmpeqN zd92_21 ?s12 (fun hc => ?_) (fun hc => ?_)); (case s12 => omega)) | refine zx_icmpeq zd92_21 (fun hc => ?_) (fun hc => ?_)
    · omega
    · refine zx_al0 zd92_24 ?_
      refine zx_c zd92_25 ?_
      obtain ⟨I2, hr, hm2, hf2⟩ := zs_mput2 (L := L) (U := U) (J := J) hR hN hm (by rw [List.length_append, List.length_replicate]; omega) (Int32.ofNat 0)
      (refine zx_cv1V zd92_26 ?k15 (hr) ?_); (case k15 => first | exact zkk rfl (by omega) | exact zkk (zK_B0 (by omega)) (by omega) | exact zkk ((zK_B (by omega) (by decide)).trans rfl) (by omega) | exact zkk (zK_row (by omega) (by omega)) (by omega) | exact zkk (zK_file (by omega) (by omega)) (by omega) | exact zkk (zK_byte (by omega) (by omega)) (by omega) | exact zkk (zK_list (by omega)) (by omega) | assumption)
      refine zx_goto zd92_29 ?_
      refine ih (i + 1) I2 (by omega) ?_ (hf.trans hf2)
      rw [zrep_succ, ← List.append_assoc]
      exact hm2
theorem zm_d2 (hR : zRs R) (hN : 646 ≤ N) {l1 : Option Value} {I0 : zI} (hs : m.length < 500)
    (kk : ∀ I' : zI, zMg (m ++ List.replicate 4 (Int32.ofNat 0)) I' → zF2 I0 I' → zW L 92 50 [some (.ref 623), l1, some (.int (Int32.ofNat 4))] [] (N, U, I', J, R) Q) :
    ∀ (q i : Nat) (I' : zI), i + q = 4 → zMg (m ++ List.replicate i (Int32.ofNat 0)) I' → zF2 I0 I' → zW L 92 34 [some (.ref 623), l1, some (.int (Int32.ofNat i))] [] (N, U, I', J, R) Q := by
  intro q
  induction q with
  | zero =>
    intro i I' hi hm hf
    obtain rfl : i = 4 := by omega
    refine zx_il2 zd92_34 ?_
    refine zx_c zd92_35 ?_
    first | ((with_reducible refine zx_icmpgeN zd92_36 ?s19 (fun hc => ?_) (fun hc => ?_)); (case s19 => omega)) | refine zx_icmpge zd92_36 (fun hc => ?_) (fun hc => ?_)
    · exact kk I' hm hf
    · omega
  | succ q ih =>
    intro i I' hi hm hf
    refine zx_il2 zd92_34 ?_
    refine zx_c zd92_35 ?_
    first | ((with_reducible refine zx_icmpgeN zd92_36 ?s22 (fun hc => ?_) (fun hc => ?_)); (case s22 => omega)) | refine zx_icmpge zd92_36 (fun hc => ?_) (fun hc => ?_)
    · omega
    · refine zx_al0 zd92_39 ?_
      refine zx_c zd92_40 ?_
      obtain ⟨I2, hr, hm2, hf2⟩ := zs_mput2 (L := L) (U := U) (J := J) hR hN hm (by rw [List.length_append, List.length_replicate]; omega) (Int32.ofNat 0)
      (refine zx_cv1V zd92_41 ?k25 (hr) ?_); (case k25 => first | exact zkk rfl (by omega) | exact zkk (zK_B0 (by omega)) (by omega) | exact zkk ((zK_B (by omega) (by decide)).trans rfl) (by omega) | exact zkk (zK_row (by omega) (by omega)) (by omega) | exact zkk (zK_file (by omega) (by omega)) (by omega) | exact zkk (zK_byte (by omega) (by omega)) (by omega) | exact zkk (zK_list (by omega)) (by omega) | assumption)
      first | with_reducible refine zx_iin2 zd92_44 ?_ | refine zx_ii2 zd92_44 ?_
      refine zx_goto zd92_47 ?_
      refine ih (i + 1) I2 (by omega) ?_ (hf.trans hf2)
      rw [zrep_succ, ← List.append_assoc]
      exact hm2
/-- the blocks -/
theorem zhs_I {f : Nat → Int32} (hf : ∀ i, i < m.length → f i = zby m i) {q : Nat} (hq : 64 * (q + 1) ≤ m.length) : ∀ k, k < 16 → zwdI f (64 * q + 4 * k) = zblk m q k := by
  intro k hk
  unfold zwdI zblk zwd
  rw [hf _ (by omega), hf _ (by omega), hf _ (by omega), hf _ (by omega)]
theorem zm_d3 (hR : zRs R) (hN : 646 ≤ N) {l1 : Option Value} {I0 : zI} (hK : ∀ j, j < 64 → I0 624 j = zKr j) {n : Nat} (hn : m.length = 64 * n) (hs : m.length ≤ 512)
    (kk : ∀ (I' : zI) (l2 : Option Value), (∀ j, j < 8 → I' 627 j = zhs m n j) → (∀ b, b ≠ 626 → b ≠ 627 → b ≠ 628 → I' b = I0 b) → zW L 92 164 [some (.ref 623), l1, l2] [] (N, U, I', J, R) Q) :
    ∀ (q i : Nat) (I' : zI), i + q = n → zMg m I' → (∀ j, j < 8 → I' 627 j = zhs m i j) → (∀ b, b ≠ 626 → b ≠ 627 → b ≠ 628 → I' b = I0 b) → zW L 92 145 [some (.ref 623), l1, some (.int (Int32.ofNat (64 * i)))] [] (N, U, I', J, R) Q := by
  intro q
  induction q with
  | zero =>
    intro i I' hi hm hh hf
    obtain rfl : i = n := by omega
    refine zx_il2 zd92_145 ?_
    refine zx_al0 zd92_146 ?_
    (refine zx_gfI zd92_147 ?k30 ?_); (case k30 => first | exact zkk rfl (by omega) | exact zkk (zK_B0 (by omega)) (by omega) | exact zkk ((zK_B (by omega) (by decide)).trans rfl) (by omega) | exact zkk (zK_row (by omega) (by omega)) (by omega) | exact zkk (zK_file (by omega) (by omega)) (by omega) | exact zkk (zK_byte (by omega) (by omega)) (by omega) | exact zkk (zK_list (by omega)) (by omega) | assumption)
    rw [hm.1]
    first | ((with_reducible refine zx_icmpgeN zd92_150 ?s31 (fun hc => ?_) (fun hc => ?_)); (case s31 => omega)) | refine zx_icmpge zd92_150 (fun hc => ?_) (fun hc => ?_)
    · exact kk I' _ hh hf
    · omega
  | succ q ih =>
    intro i I' hi hm hh hf
    refine zx_il2 zd92_145 ?_
    refine zx_al0 zd92_146 ?_
    (refine zx_gfI zd92_147 ?k34 ?_); (case k34 => first | exact zkk rfl (by omega) | exact zkk (zK_B0 (by omega)) (by omega) | exact zkk ((zK_B (by omega) (by decide)).trans rfl) (by omega) | exact zkk (zK_row (by omega) (by omega)) (by omega) | exact zkk (zK_file (by omega) (by omega)) (by omega) | exact zkk (zK_byte (by omega) (by omega)) (by omega) | exact zkk (zK_list (by omega)) (by omega) | assumption)
    rw [hm.1]
    first | ((with_reducible refine zx_icmpgeN zd92_150 ?s35 (fun hc => ?_) (fun hc => ?_)); (case s35 => omega)) | refine zx_icmpge zd92_150 (fun hc => ?_) (fun hc => ?_)
    · omega
    · refine zx_al0 zd92_153 ?_
      refine zx_il2 zd92_154 ?_
      obtain ⟨I2, hr, h1, h2⟩ := zm_block (L := L) (U := U) (I := I') (J := J) hR hN (fun j hj => by rw [hf 624 (by decide) (by decide) (by decide)]; exact hK j hj) (p := 64 * i) (by omega)
      (refine zx_cv1V zd92_155 ?k38 (hr) ?_); (case k38 => first | exact zkk rfl (by omega) | exact zkk (zK_B0 (by omega)) (by omega) | exact zkk ((zK_B (by omega) (by decide)).trans rfl) (by omega) | exact zkk (zK_row (by omega) (by omega)) (by omega) | exact zkk (zK_file (by omega) (by omega)) (by omega) | exact zkk (zK_byte (by omega) (by omega)) (by omega) | exact zkk (zK_list (by omega)) (by omega) | assumption)
      first | with_reducible refine zx_iin2 zd92_158 ?_ | refine zx_ii2 zd92_158 ?_
      refine zx_goto zd92_161 ?_
      refine ih (i + 1) I2 (by omega) ⟨by rw [h2 623 (by decide) (by decide) (by decide)]; exact hm.1, fun j hj => by rw [h2 625 (by decide) (by decide) (by decide)]; exact hm.2 j hj⟩ (fun j hj => ?_) (fun b g1 g2 g3 => (h2 b g1 g2 g3).trans (hf b g1 g2 g3))
      rw [h1 j hj]
      show _ = zcomp (zhs m i) zKr (zsch (zblk m i) 48) j
      refine zcomp_lt hh (fun _ _ => rfl) (fun k hk => zsch_lt _ _ 48 (fun w hw => ?_) k (by omega)) j hj
      exact zhs_I hm.2 (by omega) w hw
theorem zm_d4 (hR : zRs R) (hN : 646 ≤ N) {l1 : Option Value}
    (kk : zW L 92 206 [some (.ref 623), l1, some (.int (Int32.ofNat 32))] [] (N, U, zrw I 629 (zfill (I 629) 0 32 (zoutb (I 627))), J, R) Q) :
    ∀ (q i : Nat), i + q = 32 → zW L 92 166 [some (.ref 623), l1, some (.int (Int32.ofNat i))] [] (N, U, zrw I 629 (zfill (I 629) 0 i (zoutb (I 627))), J, R) Q := by
  intro q
  induction q with
  | zero =>
    intro i hi
    obtain rfl : i = 32 := by omega
    refine zx_il2 zd92_166 ?_
    refine zx_c zd92_167 ?_
    first | ((with_reducible refine zx_icmpgeN zd92_169 ?s43 (fun hc => ?_) (fun hc => ?_)); (case s43 => omega)) | refine zx_icmpge zd92_169 (fun hc => ?_) (fun hc => ?_)
    · exact kk
    · omega
  | succ q ih =>
    intro i hi
    refine zx_il2 zd92_166 ?_
    refine zx_c zd92_167 ?_
    first | ((with_reducible refine zx_icmpgeN zd92_169 ?s46 (fun hc => ?_) (fun hc => ?_)); (case s46 => omega)) | refine zx_icmpge zd92_169 (fun hc => ?_) (fun hc => ?_)
    · omega
    · refine zx_al0 zd92_172 ?_
      (refine' zx_gfA zd92_173 ?k48 ?r48 ?_); (case k48 => first | exact zkk rfl (by omega) | exact zkk (zK_B0 (by omega)) (by omega) | exact zkk ((zK_B (by omega) (by decide)).trans rfl) (by omega) | exact zkk (zK_row (by omega) (by omega)) (by omega) | exact zkk (zK_file (by omega) (by omega)) (by omega) | exact zkk (zK_byte (by omega) (by omega)) (by omega) | exact zkk (zK_list (by omega)) (by omega) | assumption); (case r48 => first | exact hR.1 _ _ _ rfl | assumption)
      refine zx_il2 zd92_176 ?_
      refine zx_al0 zd92_177 ?_
      (refine' zx_gfA zd92_178 ?k51 ?r51 ?_); (case k51 => first | exact zkk rfl (by omega) | exact zkk (zK_B0 (by omega)) (by omega) | exact zkk ((zK_B (by omega) (by decide)).trans rfl) (by omega) | exact zkk (zK_row (by omega) (by omega)) (by omega) | exact zkk (zK_file (by omega) (by omega)) (by omega) | exact zkk (zK_byte (by omega) (by omega)) (by omega) | exact zkk (zK_list (by omega)) (by omega) | assumption); (case r51 => first | exact hR.1 _ _ _ rfl | assumption)
      refine zx_il2 zd92_181 ?_
      refine zx_c zd92_182 ?_
      first | ((with_reducible refine zx_divN zd92_183 ?h54 ?_); (case h54 => omega)) | refine zx_div zd92_183 (by decide) ?_
      (with_reducible refine' zx_ialdN zd92_184 ?k55 ?j55 ?_); (case k55 => first | exact zkk rfl (by omega) | exact zkk (zK_B0 (by omega)) (by omega) | exact zkk ((zK_B (by omega) (by decide)).trans rfl) (by omega) | exact zkk (zK_row (by omega) (by omega)) (by omega) | exact zkk (zK_file (by omega) (by omega)) (by omega) | exact zkk (zK_byte (by omega) (by omega)) (by omega) | exact zkk (zK_list (by omega)) (by omega) | assumption); (case j55 => omega)
      refine zx_c zd92_185 ?_
      refine zx_c zd92_187 ?_
      refine zx_il2 zd92_189 ?_
      refine zx_c zd92_190 ?_
      first | ((with_reducible refine zx_remN zd92_191 ?h60 ?_); (case h60 => omega)) | refine zx_rem zd92_191 (by decide) ?_
      first | with_reducible refine zx_mulN zd92_192 ?_ | refine zx_mul zd92_192 ?_
      first | ((with_reducible refine zx_subN zd92_193 ?h62 ?_); (case h62 => omega)) | refine zx_sub zd92_193 ?_
      first | ((with_reducible refine zx_shrN zd92_194 ?h63 ?_); (case h63 => omega)) | refine zx_shr zd92_194 ?_
      refine zx_c zd92_195 ?_
      first | with_reducible refine zx_andN zd92_198 ?_ | refine zx_and zd92_198 ?_
      rw [zmask _ (s := 24 - 8 * (i % 4)) (by omega)]
      (with_reducible refine' zx_iastN zd92_199 ?k66 ?j66 ?a66 ?_); (case k66 => first | exact zkk rfl (by omega) | exact zkk (zK_B0 (by omega)) (by omega) | exact zkk ((zK_B (by omega) (by decide)).trans rfl) (by omega) | exact zkk (zK_row (by omega) (by omega)) (by omega) | exact zkk (zK_file (by omega) (by omega)) (by omega) | exact zkk (zK_byte (by omega) (by omega)) (by omega) | exact zkk (zK_list (by omega)) (by omega) | assumption); (case j66 => omega); (case a66 => omega)
      first | with_reducible refine zx_iin2 zd92_200 ?_ | refine zx_ii2 zd92_200 ?_
      refine zx_goto zd92_203 ?_
      have e := zfill_succ (I 629) 0 i (zoutb (I 627))
      rw [Nat.zero_add] at e
      have k := ih (i + 1) (by omega)
      rw [← e] at k
      rw [zu_rw, zrw_rw, zrw_at, zrw_ne _ _ (show 627 ≠ 629 by decide)]
      exact k
theorem zst_eq : ∀ j, j < 8 → (zup (zup (zup (zup (zup (zup (zup (zup (fun _ : Nat => (0 : Int32)) 0 (Int32.ofNat 1779033703)) 1 (-1150833019)) 2 (Int32.ofNat 1013904242)) 3 (-1521486534)) 4 (Int32.ofNat 1359893119)) 5 (-1694144372)) 6 (Int32.ofNat 528734635)) 7 (Int32.ofNat 1541459225)) j = zHs j := by
  decide
/-- what a digest leaves of the reference -/
def zFd (I I' : zI) : Prop := (∀ b, b ≠ 623 → b ≠ 625 → b ≠ 626 → b ≠ 627 → b ≠ 628 → b ≠ 629 → I' b = I b) ∧ ∀ f, f ≠ 2 → I' 623 f = I 623 f
theorem zFd.refl (I : zI) : zFd I I := ⟨fun _ _ _ _ _ _ _ => rfl, fun _ _ => rfl⟩
theorem zFd.trans {I I' I'' : zI} (h : zFd I I') (h' : zFd I' I'') : zFd I I'' := ⟨fun b h1 h2 h3 h4 h5 h6 => (h'.1 b h1 h2 h3 h4 h5 h6).trans (h.1 b h1 h2 h3 h4 h5 h6), fun f hf => (h'.2 f hf).trans (h.2 f hf)⟩
theorem zF2.to {I I' : zI} (h : zF2 I I') : zFd I I' := ⟨fun b h1 h2 _ _ _ _ => h.1 b h1 h2, h.2⟩
theorem zs_mdig (hR : zRs R) (hN : 646 ≤ N) (hK : ∀ j, j < 64 → I 624 j = zKr j) (hm : zMg m I) (hs : m.length ≤ 300) :
    ∃ I', zRet L 92 [.ref 623] (N, U, I, J, R) none (N, U, I', J, R) ∧ I' 629 = zfill (I 629) 0 32 (zsha m) ∧ zMg [] I' ∧ zFd I I' := by
  have w : zW L 92 0 (zent 92 [.ref 623]) [] (N, U, I, J, R) (fun o k => o = .inl none ∧ ∃ I' : zI, k = (N, U, I', J, R) ∧ I' 629 = zfill (I 629) 0 32 (zsha m) ∧ zMg [] I' ∧ zFd I I') := by
    show zW L 92 0 [some (.ref 623), none, none] [] _ _
    refine zx_al0 zd92_0 ?_
    (refine zx_gfI zd92_1 ?k70 ?_); (case k70 => first | exact zkk rfl (by omega) | exact zkk (zK_B0 (by omega)) (by omega) | exact zkk ((zK_B (by omega) (by decide)).trans rfl) (by omega) | exact zkk (zK_row (by omega) (by omega)) (by omega) | exact zkk (zK_file (by omega) (by omega)) (by omega) | exact zkk (zK_byte (by omega) (by omega)) (by omega) | exact zkk (zK_list (by omega)) (by omega) | assumption)
    rw [hm.1]
    refine zx_is1 zd92_4 rfl ?_
    refine zx_al0 zd92_5 ?_
    refine zx_c zd92_6 ?_
    obtain ⟨I1, hr1, hm1, hf1⟩ := zs_mput2 (L := L) (U := U) (J := J) hR hN hm (by omega) (Int32.ofNat 128)
    (refine zx_cv1V zd92_9 ?k74 (hr1) ?_); (case k74 => first | exact zkk rfl (by omega) | exact zkk (zK_B0 (by omega)) (by omega) | exact zkk ((zK_B (by omega) (by decide)).trans rfl) (by omega) | exact zkk (zK_row (by omega) (by omega)) (by omega) | exact zkk (zK_file (by omega) (by omega)) (by omega) | exact zkk (zK_byte (by omega) (by omega)) (by omega) | exact zkk (zK_list (by omega)) (by omega) | assumption)
    have el : (m ++ [Int32.ofNat 128]).length = m.length + 1 := by simp
    refine zm_d1 (m := m ++ [Int32.ofNat 128]) hR hN (I0 := I1) (z := (119 - m.length % 64) % 64) (by omega) (by rw [el]; omega) (by rw [el]; omega) ?_ _ 0 I1 (by rw [Nat.zero_add]) (by show zMg (_ ++ []) I1; rw [List.append_nil]; exact hm1) (zF2.refl I1)
    intro I2 hm2 hf2
    have el2 : (m ++ [Int32.ofNat 128] ++ List.replicate ((119 - m.length % 64) % 64) (Int32.ofNat 0)).length = m.length + 1 + (119 - m.length % 64) % 64 := by
      rw [List.length_append, el, List.length_replicate]
    refine zx_c zd92_32 ?_
    refine zx_is2 zd92_33 rfl ?_
    refine zm_d2 (m := m ++ [Int32.ofNat 128] ++ List.replicate ((119 - m.length % 64) % 64) (Int32.ofNat 0)) hR hN (I0 := I2) (by rw [el2]; omega) ?_ 4 0 I2 rfl (by show zMg (_ ++ []) I2; rw [List.append_nil]; exact hm2) (zF2.refl I2)
    intro I3 hm3 hf3
    have el3 : (m ++ [Int32.ofNat 128] ++ List.replicate ((119 - m.length % 64) % 64) (Int32.ofNat 0) ++ List.replicate 4 (Int32.ofNat 0)).length = m.length + 5 + (119 - m.length % 64) % 64 := by
      rw [List.length_append, el2, List.length_replicate]; omega
    refine zx_c zd92_50 ?_
    refine zx_is2 zd92_52 rfl ?_
    refine zx_il2 zd92_53 ?_
    first | ((with_reducible refine zx_ifltN zd92_54 ?s80 (fun hc => ?_) (fun hc => ?_)); (case s80 => omega)) | refine zx_iflt zd92_54 (fun hc => ?_) (fun hc => ?_)
    · omega
    refine zx_al0 zd92_57 ?_
    refine zx_c zd92_58 ?_
    refine zx_il1 zd92_60 ?_
    first | with_reducible refine zx_mulN zd92_61 ?_ | refine zx_mul zd92_61 ?_
    refine zx_il2 zd92_62 ?_
    first | ((with_reducible refine zx_shrN zd92_63 ?h86 ?_); (case h86 => omega)) | refine zx_shr zd92_63 ?_
    refine zx_c zd92_64 ?_
    first | with_reducible refine zx_andN zd92_67 ?_ | refine zx_and zd92_67 ?_
    obtain ⟨I4, hr4, hm4, hf4⟩ := zs_mput2 (L := L) (U := U) (J := J) hR hN hm3 (by rw [el3]; omega) (Int32.ofNat ((8 * m.length) >>> 24 &&& 255))
    (refine zx_cv1V zd92_68 ?k89 (hr4) ?_); (case k89 => first | exact zkk rfl (by omega) | exact zkk (zK_B0 (by omega)) (by omega) | exact zkk ((zK_B (by omega) (by decide)).trans rfl) (by omega) | exact zkk (zK_row (by omega) (by omega)) (by omega) | exact zkk (zK_file (by omega) (by omega)) (by omega) | exact zkk (zK_byte (by omega) (by omega)) (by omega) | exact zkk (zK_list (by omega)) (by omega) | assumption)
    first | ((with_reducible refine zx_iid2 zd92_71 ?h90 ?_); (case h90 => omega)) | refine zx_ii2 zd92_71 ?_
    refine zx_goto zd92_74 ?_
    refine zx_il2 zd92_53 ?_
    first | ((with_reducible refine zx_ifltN zd92_54 ?s93 (fun hc => ?_) (fun hc => ?_)); (case s93 => omega)) | refine zx_iflt zd92_54 (fun hc => ?_) (fun hc => ?_)
    · omega
    refine zx_al0 zd92_57 ?_
    refine zx_c zd92_58 ?_
    refine zx_il1 zd92_60 ?_
    first | with_reducible refine zx_mulN zd92_61 ?_ | refine zx_mul zd92_61 ?_
    refine zx_il2 zd92_62 ?_
    first | ((with_reducible refine zx_shrN zd92_63 ?h99 ?_); (case h99 => omega)) | refine zx_shr zd92_63 ?_
    refine zx_c zd92_64 ?_
    first | with_reducible refine zx_andN zd92_67 ?_ | refine zx_and zd92_67 ?_
    obtain ⟨I5, hr5, hm5, hf5⟩ := zs_mput2 (L := L) (U := U) (J := J) hR hN hm4 (by rw [List.length_append, el3, List.length_singleton]; omega) (Int32.ofNat ((8 * m.length) >>> 16 &&& 255))
    (refine zx_cv1V zd92_68 ?k102 (hr5) ?_); (case k102 => first | exact zkk rfl (by omega) | exact zkk (zK_B0 (by omega)) (by omega) | exact zkk ((zK_B (by omega) (by decide)).trans rfl) (by omega) | exact zkk (zK_row (by omega) (by omega)) (by omega) | exact zkk (zK_file (by omega) (by omega)) (by omega) | exact zkk (zK_byte (by omega) (by omega)) (by omega) | exact zkk (zK_list (by omega)) (by omega) | assumption)
    first | ((with_reducible refine zx_iid2 zd92_71 ?h103 ?_); (case h103 => omega)) | refine zx_ii2 zd92_71 ?_
    refine zx_goto zd92_74 ?_
    refine zx_il2 zd92_53 ?_
    first | ((with_reducible refine zx_ifltN zd92_54 ?s106 (fun hc => ?_) (fun hc => ?_)); (case s106 => omega)) | refine zx_iflt zd92_54 (fun hc => ?_) (fun hc => ?_)
    · omega
    refine zx_al0 zd92_57 ?_
    refine zx_c zd92_58 ?_
    refine zx_il1 zd92_60 ?_
    first | with_reducible refine zx_mulN zd92_61 ?_ | refine zx_mul zd92_61 ?_
    refine zx_il2 zd92_62 ?_
    first | ((with_reducible refine zx_shrN zd92_63 ?h112 ?_); (case h112 => omega)) | refine zx_shr zd92_63 ?_
    refine zx_c zd92_64 ?_
    first | with_reducible refine zx_andN zd92_67 ?_ | refine zx_and zd92_67 ?_
    obtain ⟨I6, hr6, hm6, hf6⟩ := zs_mput2 (L := L) (U := U) (J := J) hR hN hm5 (by rw [List.length_append, List.length_append, el3, List.length_singleton, List.length_singleton]; omega) (Int32.ofNat ((8 * m.length) >>> 8 &&& 255))
    (refine zx_cv1V zd92_68 ?k115 (hr6) ?_); (case k115 => first | exact zkk rfl (by omega) | exact zkk (zK_B0 (by omega)) (by omega) | exact zkk ((zK_B (by omega) (by decide)).trans rfl) (by omega) | exact zkk (zK_row (by omega) (by omega)) (by omega) | exact zkk (zK_file (by omega) (by omega)) (by omega) | exact zkk (zK_byte (by omega) (by omega)) (by omega) | exact zkk (zK_list (by omega)) (by omega) | assumption)
    first | ((with_reducible refine zx_iid2 zd92_71 ?h116 ?_); (case h116 => omega)) | refine zx_ii2 zd92_71 ?_
    refine zx_goto zd92_74 ?_
    refine zx_il2 zd92_53 ?_
    first | ((with_reducible refine zx_ifltN zd92_54 ?s119 (fun hc => ?_) (fun hc => ?_)); (case s119 => omega)) | refine zx_iflt zd92_54 (fun hc => ?_) (fun hc => ?_)
    · omega
    refine zx_al0 zd92_57 ?_
    refine zx_c zd92_58 ?_
    refine zx_il1 zd92_60 ?_
    first | with_reducible refine zx_mulN zd92_61 ?_ | refine zx_mul zd92_61 ?_
    refine zx_il2 zd92_62 ?_
    first | ((with_reducible refine zx_shrN zd92_63 ?h125 ?_); (case h125 => omega)) | refine zx_shr zd92_63 ?_
    refine zx_c zd92_64 ?_
    first | with_reducible refine zx_andN zd92_67 ?_ | refine zx_and zd92_67 ?_
    obtain ⟨I7, hr7, hm7, hf7⟩ := zs_mput2 (L := L) (U := U) (J := J) hR hN hm6 (by rw [List.length_append, List.length_append, List.length_append, el3, List.length_singleton, List.length_singleton, List.length_singleton]; omega) (Int32.ofNat ((8 * m.length) >>> 0 &&& 255))
    (refine zx_cv1V zd92_68 ?k128 (hr7) ?_); (case k128 => first | exact zkk rfl (by omega) | exact zkk (zK_B0 (by omega)) (by omega) | exact zkk ((zK_B (by omega) (by decide)).trans rfl) (by omega) | exact zkk (zK_row (by omega) (by omega)) (by omega) | exact zkk (zK_file (by omega) (by omega)) (by omega) | exact zkk (zK_byte (by omega) (by omega)) (by omega) | exact zkk (zK_list (by omega)) (by omega) | assumption)
    first | ((with_reducible refine zx_iid2 zd92_71 ?h129 ?_); (case h129 => omega)) | refine zx_ii2 zd92_71 ?_
    refine zx_goto zd92_74 ?_
    refine zx_il2 zd92_53 ?_
    refine zx_iflt zd92_54 (fun _ => ?_) (fun hc => absurd (by decide) hc)
    have hF : zF2 I I7 := (((((hf1.trans hf2).trans hf3).trans hf4).trans hf5).trans hf6).trans hf7
    have hpad : zMg (zpad m) I7 := by
      have e : zpad m = m ++ [Int32.ofNat 128] ++ List.replicate ((119 - m.length % 64) % 64) (Int32.ofNat 0) ++ List.replicate 4 (Int32.ofNat 0) ++ [Int32.ofNat ((8 * m.length) >>> 24 &&& 255)] ++ [Int32.ofNat ((8 * m.length) >>> 16 &&& 255)] ++ [Int32.ofNat ((8 * m.length) >>> 8 &&& 255)] ++ [Int32.ofNat ((8 * m.length) >>> 0 &&& 255)] := by
        unfold zpad zlb zzs
        rw [Nat.mul_comm 8 m.length, ← List.replicate_append_replicate]
        simp
      rw [e]; exact hm7
    have h64 := zpad_64 m
    have hlen := zpad_len m
    have hzz : zzs m.length ≤ 67 := by unfold zzs; omega
    refine zx_al0 zd92_77 ?_
    (refine' zx_gfA zd92_78 ?k133 ?r133 ?_); (case k133 => first | exact zkk rfl (by omega) | exact zkk (zK_B0 (by omega)) (by omega) | exact zkk ((zK_B (by omega) (by decide)).trans rfl) (by omega) | exact zkk (zK_row (by omega) (by omega)) (by omega) | exact zkk (zK_file (by omega) (by omega)) (by omega) | exact zkk (zK_byte (by omega) (by omega)) (by omega) | exact zkk (zK_list (by omega)) (by omega) | assumption); (case r133 => first | exact hR.1 _ _ _ rfl | assumption)
    refine zx_c zd92_81 ?_
    refine zx_c zd92_82 ?_
    (with_reducible refine' zx_iastN zd92_84 ?k136 ?j136 ?a136 ?_); (case k136 => first | exact zkk rfl (by omega) | exact zkk (zK_B0 (by omega)) (by omega) | exact zkk ((zK_B (by omega) (by decide)).trans rfl) (by omega) | exact zkk (zK_row (by omega) (by omega)) (by omega) | exact zkk (zK_file (by omega) (by omega)) (by omega) | exact zkk (zK_byte (by omega) (by omega)) (by omega) | exact zkk (zK_list (by omega)) (by omega) | assumption); (case j136 => omega); (case a136 => omega)
    refine zx_al0 zd92_85 ?_
    (refine' zx_gfA zd92_86 ?k138 ?r138 ?_); (case k138 => first | exact zkk rfl (by omega) | exact zkk (zK_B0 (by omega)) (by omega) | exact zkk ((zK_B (by omega) (by decide)).trans rfl) (by omega) | exact zkk (zK_row (by omega) (by omega)) (by omega) | exact zkk (zK_file (by omega) (by omega)) (by omega) | exact zkk (zK_byte (by omega) (by omega)) (by omega) | exact zkk (zK_list (by omega)) (by omega) | assumption); (case r138 => first | exact hR.1 _ _ _ rfl | assumption)
    refine zx_c zd92_89 ?_
    refine zx_c zd92_90 ?_
    (with_reducible refine' zx_iastN zd92_92 ?k141 ?j141 ?a141 ?_); (case k141 => first | exact zkk rfl (by omega) | exact zkk (zK_B0 (by omega)) (by omega) | exact zkk ((zK_B (by omega) (by decide)).trans rfl) (by omega) | exact zkk (zK_row (by omega) (by omega)) (by omega) | exact zkk (zK_file (by omega) (by omega)) (by omega) | exact zkk (zK_byte (by omega) (by omega)) (by omega) | exact zkk (zK_list (by omega)) (by omega) | assumption); (case j141 => omega); (case a141 => omega)
    refine zx_al0 zd92_93 ?_
    (refine' zx_gfA zd92_94 ?k143 ?r143 ?_); (case k143 => first | exact zkk rfl (by omega) | exact zkk (zK_B0 (by omega)) (by omega) | exact zkk ((zK_B (by omega) (by decide)).trans rfl) (by omega) | exact zkk (zK_row (by omega) (by omega)) (by omega) | exact zkk (zK_file (by omega) (by omega)) (by omega) | exact zkk (zK_byte (by omega) (by omega)) (by omega) | exact zkk (zK_list (by omega)) (by omega) | assumption); (case r143 => first | exact hR.1 _ _ _ rfl | assumption)
    refine zx_c zd92_97 ?_
    refine zx_c zd92_98 ?_
    (with_reducible refine' zx_iastN zd92_100 ?k146 ?j146 ?a146 ?_); (case k146 => first | exact zkk rfl (by omega) | exact zkk (zK_B0 (by omega)) (by omega) | exact zkk ((zK_B (by omega) (by decide)).trans rfl) (by omega) | exact zkk (zK_row (by omega) (by omega)) (by omega) | exact zkk (zK_file (by omega) (by omega)) (by omega) | exact zkk (zK_byte (by omega) (by omega)) (by omega) | exact zkk (zK_list (by omega)) (by omega) | assumption); (case j146 => omega); (case a146 => omega)
    refine zx_al0 zd92_101 ?_
    (refine' zx_gfA zd92_102 ?k148 ?r148 ?_); (case k148 => first | exact zkk rfl (by omega) | exact zkk (zK_B0 (by omega)) (by omega) | exact zkk ((zK_B (by omega) (by decide)).trans rfl) (by omega) | exact zkk (zK_row (by omega) (by omega)) (by omega) | exact zkk (zK_file (by omega) (by omega)) (by omega) | exact zkk (zK_byte (by omega) (by omega)) (by omega) | exact zkk (zK_list (by omega)) (by omega) | assumption); (case r148 => first | exact hR.1 _ _ _ rfl | assumption)
    refine zx_c zd92_105 ?_
    refine zx_c zd92_106 ?_
    (with_reducible refine' zx_iastN zd92_108 ?k151 ?j151 ?a151 ?_); (case k151 => first | exact zkk rfl (by omega) | exact zkk (zK_B0 (by omega)) (by omega) | exact zkk ((zK_B (by omega) (by decide)).trans rfl) (by omega) | exact zkk (zK_row (by omega) (by omega)) (by omega) | exact zkk (zK_file (by omega) (by omega)) (by omega) | exact zkk (zK_byte (by omega) (by omega)) (by omega) | exact zkk (zK_list (by omega)) (by omega) | assumption); (case j151 => omega); (case a151 => omega)
    refine zx_al0 zd92_109 ?_
    (refine' zx_gfA zd92_110 ?k153 ?r153 ?_); (case k153 => first | exact zkk rfl (by omega) | exact zkk (zK_B0 (by omega)) (by omega) | exact zkk ((zK_B (by omega) (by decide)).trans rfl) (by omega) | exact zkk (zK_row (by omega) (by omega)) (by omega) | exact zkk (zK_file (by omega) (by omega)) (by omega) | exact zkk (zK_byte (by omega) (by omega)) (by omega) | exact zkk (zK_list (by omega)) (by omega) | assumption); (case r153 => first | exact hR.1 _ _ _ rfl | assumption)
    refine zx_c zd92_113 ?_
    refine zx_c zd92_114 ?_
    (with_reducible refine' zx_iastN zd92_116 ?k156 ?j156 ?a156 ?_); (case k156 => first | exact zkk rfl (by omega) | exact zkk (zK_B0 (by omega)) (by omega) | exact zkk ((zK_B (by omega) (by decide)).trans rfl) (by omega) | exact zkk (zK_row (by omega) (by omega)) (by omega) | exact zkk (zK_file (by omega) (by omega)) (by omega) | exact zkk (zK_byte (by omega) (by omega)) (by omega) | exact zkk (zK_list (by omega)) (by omega) | assumption); (case j156 => omega); (case a156 => omega)
    refine zx_al0 zd92_117 ?_
    (refine' zx_gfA zd92_118 ?k158 ?r158 ?_); (case k158 => first | exact zkk rfl (by omega) | exact zkk (zK_B0 (by omega)) (by omega) | exact zkk ((zK_B (by omega) (by decide)).trans rfl) (by omega) | exact zkk (zK_row (by omega) (by omega)) (by omega) | exact zkk (zK_file (by omega) (by omega)) (by omega) | exact zkk (zK_byte (by omega) (by omega)) (by omega) | exact zkk (zK_list (by omega)) (by omega) | assumption); (case r158 => first | exact hR.1 _ _ _ rfl | assumption)
    refine zx_c zd92_121 ?_
    refine zx_c zd92_122 ?_
    (with_reducible refine' zx_iastN zd92_124 ?k161 ?j161 ?a161 ?_); (case k161 => first | exact zkk rfl (by omega) | exact zkk (zK_B0 (by omega)) (by omega) | exact zkk ((zK_B (by omega) (by decide)).trans rfl) (by omega) | exact zkk (zK_row (by omega) (by omega)) (by omega) | exact zkk (zK_file (by omega) (by omega)) (by omega) | exact zkk (zK_byte (by omega) (by omega)) (by omega) | exact zkk (zK_list (by omega)) (by omega) | assumption); (case j161 => omega); (case a161 => omega)
    refine zx_al0 zd92_125 ?_
    (refine' zx_gfA zd92_126 ?k163 ?r163 ?_); (case k163 => first | exact zkk rfl (by omega) | exact zkk (zK_B0 (by omega)) (by omega) | exact zkk ((zK_B (by omega) (by decide)).trans rfl) (by omega) | exact zkk (zK_row (by omega) (by omega)) (by omega) | exact zkk (zK_file (by omega) (by omega)) (by omega) | exact zkk (zK_byte (by omega) (by omega)) (by omega) | exact zkk (zK_list (by omega)) (by omega) | assumption); (case r163 => first | exact hR.1 _ _ _ rfl | assumption)
    refine zx_c zd92_129 ?_
    refine zx_c zd92_131 ?_
    (with_reducible refine' zx_iastN zd92_133 ?k166 ?j166 ?a166 ?_); (case k166 => first | exact zkk rfl (by omega) | exact zkk (zK_B0 (by omega)) (by omega) | exact zkk ((zK_B (by omega) (by decide)).trans rfl) (by omega) | exact zkk (zK_row (by omega) (by omega)) (by omega) | exact zkk (zK_file (by omega) (by omega)) (by omega) | exact zkk (zK_byte (by omega) (by omega)) (by omega) | exact zkk (zK_list (by omega)) (by omega) | assumption); (case j166 => omega); (case a166 => omega)
    refine zx_al0 zd92_134 ?_
    (refine' zx_gfA zd92_135 ?k168 ?r168 ?_); (case k168 => first | exact zkk rfl (by omega) | exact zkk (zK_B0 (by omega)) (by omega) | exact zkk ((zK_B (by omega) (by decide)).trans rfl) (by omega) | exact zkk (zK_row (by omega) (by omega)) (by omega) | exact zkk (zK_file (by omega) (by omega)) (by omega) | exact zkk (zK_byte (by omega) (by omega)) (by omega) | exact zkk (zK_list (by omega)) (by omega) | assumption); (case r168 => first | exact hR.1 _ _ _ rfl | assumption)
    refine zx_c zd92_138 ?_
    refine zx_c zd92_140 ?_
    (with_reducible refine' zx_iastN zd92_142 ?k171 ?j171 ?a171 ?_); (case k171 => first | exact zkk rfl (by omega) | exact zkk (zK_B0 (by omega)) (by omega) | exact zkk ((zK_B (by omega) (by decide)).trans rfl) (by omega) | exact zkk (zK_row (by omega) (by omega)) (by omega) | exact zkk (zK_file (by omega) (by omega)) (by omega) | exact zkk (zK_byte (by omega) (by omega)) (by omega) | exact zkk (zK_list (by omega)) (by omega) | assumption); (case j171 => omega); (case a171 => omega)
    refine zx_c zd92_143 ?_
    refine zx_is2 zd92_144 rfl ?_
    generalize hI8 : zu (zu (zu (zu (zu (zu (zu (zu I7 627 0 (Int32.ofNat 1779033703)) 627 1 (-1150833019)) 627 2 (Int32.ofNat 1013904242)) 627 3 (-1521486534)) 627 4 (Int32.ofNat 1359893119)) 627 5 (-1694144372)) 627 6 (Int32.ofNat 528734635)) 627 7 (Int32.ofNat 1541459225) = I8
    have h8f : ∀ b, b ≠ 627 → I8 b = I7 b := by
      intro b hb
      rw [← hI8]
      simp only [zu_rw, zrw_rw, zrw_at]
      rw [zrw_ne _ _ hb]
    have h8s : ∀ j, j < 8 → I8 627 j = zHs j := by
      intro j hj
      rw [← zst_eq j hj, ← hI8]
      match j, hj with
      | 0, _ => rfl
      | 1, _ => rfl
      | 2, _ => rfl
      | 3, _ => rfl
      | 4, _ => rfl
      | 5, _ => rfl
      | 6, _ => rfl
      | 7, _ => rfl
    have hm8 : zMg (zpad m) I8 := ⟨by rw [h8f 623 (by decide)]; exact hpad.1, fun i hi => by rw [h8f 625 (by decide)]; exact hpad.2 i hi⟩
    refine zm_d3 (m := zpad m) hR hN (I0 := I8) (fun j hj => by rw [h8f 624 (by decide), hF.1 624 (by decide) (by decide)]; exact hK j hj) (n := (zpad m).length / 64) (by omega) (by omega) ?_ _ 0 I8 (by rw [Nat.zero_add]) hm8 h8s (fun _ _ _ _ => rfl)
    intro I9 l2 h9 hf9
    refine zx_c zd92_164 ?_
    refine zx_is2 zd92_165 rfl ?_
    have k := fun kk => zm_d4 (L := L) (U := U) (I := I9) (J := J) (Q := fun o k => o = .inl none ∧ ∃ I' : zI, k = (N, U, I', J, R) ∧ I' 629 = zfill (I 629) 0 32 (zsha m) ∧ zMg [] I' ∧ zFd I I') hR hN (l1 := some (.int (Int32.ofNat m.length))) kk 32 0 rfl
    rw [zfill_zero, zrw_id] at k
    refine k ?_
    refine zx_al0 zd92_206 ?_
    refine zx_c zd92_207 ?_
    (refine zx_pfI zd92_208 ?k178 ?a178 ?_); (case k178 => first | exact zkk rfl (by omega) | exact zkk (zK_B0 (by omega)) (by omega) | exact zkk ((zK_B (by omega) (by decide)).trans rfl) (by omega) | exact zkk (zK_row (by omega) (by omega)) (by omega) | exact zkk (zK_file (by omega) (by omega)) (by omega) | exact zkk (zK_byte (by omega) (by omega)) (by omega) | exact zkk (zK_list (by omega)) (by omega) | assumption); (case a178 => omega)
    refine zx_vret zd92_211 rfl ?_
    refine ⟨rfl, _, rfl, ?_, ⟨rfl, fun i hi => absurd hi (by simp)⟩, fun b h1 h2 h3 h4 h5 h6 => ?_, fun f hf => ?_⟩
    · rw [zu_rw, zrw_ne _ _ (show 629 ≠ 623 by decide), zrw_at, hf9 629 (by decide) (by decide) (by decide), h8f 629 (by decide), hF.1 629 (by decide) (by decide)]
      funext j
      by_cases hj : j < 32
      · rw [zfill_in0 _ _ _ hj, zfill_in0 _ _ _ hj]
        unfold zoutb zsha
        rw [h9 _ (by omega)]
      · rw [zfill_out _ _ _ _ (by omega), zfill_out _ _ _ _ (by omega)]
    · rw [zu_rw, zrw_ne _ _ h1, zrw_ne _ _ h6, hf9 b h3 h4 h5, h8f b h4, hF.1 b h1 h2]
    · show (if 623 = 623 ∧ f = 2 then _ else zrw I9 629 _ 623 f) = _
      rw [if_neg (fun h => hf h.2), zrw_ne _ _ (show 623 ≠ 629 by decide), hf9 623 (by decide) (by decide) (by decide), h8f 623 (by decide), hF.2 f hf]
  obtain ⟨k, hr, I', rfl, hd, hf⟩ := zRet_of w
  exact ⟨I', hr, hd, hf⟩
/-- putDigest: 32 bytes of a row -/
def zrw0 (f : Nat → Int32) (p n : Nat) : List Int32 := (List.range n).map (fun i => f (p + i))
theorem zrw0_len (f : Nat → Int32) (p n : Nat) : (zrw0 f p n).length = n := by simp [zrw0]
theorem zrw0_succ (f : Nat → Int32) (p n : Nat) : zrw0 f p (n + 1) = zrw0 f p n ++ [f (p + n)] := by
  unfold zrw0
  rw [List.range_succ, List.map_append]; rfl
theorem zm_pd0 (hR : zRs R) (hN : 646 ≤ N) {a n p : Nat} (ha : zk L (N, U, I, J, R) a = some (.inl (.int, n))) (ha2 : a ≠ 623 ∧ a ≠ 625) (hn : n ≤ 65536) (hp : p + 32 ≤ n) (hs : m.length + 32 ≤ 512) :
    ∀ (q i : Nat) (I' : zI), i + q = 32 → zMg (m ++ zrw0 (I a) p i) I' → zF2 I I' → zW L 97 2 [some (.ref 623), some (.ref a), some (.int (Int32.ofNat p)), some (.int (Int32.ofNat i))] [] (N, U, I', J, R) (fun o k => o = .inl none ∧ ∃ I' : zI, k = (N, U, I', J, R) ∧ zMg (m ++ zrw0 (I a) p 32) I' ∧ zF2 I I') := by
  intro q
  induction q with
  | zero =>
    intro i I' hi hm hf
    obtain rfl : i = 32 := by omega
    refine zx_il3 zd97_2 ?_
    refine zx_c zd97_3 ?_
    first | ((with_reducible refine zx_icmpgeN zd97_5 ?s182 (fun hc => ?_) (fun hc => ?_)); (case s182 => omega)) | refine zx_icmpge zd97_5 (fun hc => ?_) (fun hc => ?_)
    · refine zx_vret zd97_23 rfl ?_
      exact ⟨rfl, I', rfl, hm, hf⟩
    · omega
  | succ q ih =>
    intro i I' hi hm hf
    have ha' : zk L (N, U, I', J, R) a = some (.inl (.int, n)) := ha
    refine zx_il3 zd97_2 ?_
    refine zx_c zd97_3 ?_
    first | ((with_reducible refine zx_icmpgeN zd97_5 ?s186 (fun hc => ?_) (fun hc => ?_)); (case s186 => omega)) | refine zx_icmpge zd97_5 (fun hc => ?_) (fun hc => ?_)
    · omega
    · refine zx_al0 zd97_8 ?_
      refine zx_al1 zd97_9 ?_
      refine zx_il2 zd97_10 ?_
      refine zx_il3 zd97_11 ?_
      first | with_reducible refine zx_addN zd97_12 ?_ | refine zx_add zd97_12 ?_
      (with_reducible refine' zx_ialdN zd97_13 ?k192 ?j192 ?_); (case k192 => first | exact zkk rfl (by omega) | exact zkk (zK_B0 (by omega)) (by omega) | exact zkk ((zK_B (by omega) (by decide)).trans rfl) (by omega) | exact zkk (zK_row (by omega) (by omega)) (by omega) | exact zkk (zK_file (by omega) (by omega)) (by omega) | exact zkk (zK_byte (by omega) (by omega)) (by omega) | exact zkk (zK_list (by omega)) (by omega) | assumption); (case j192 => omega)
      obtain ⟨I2, hr, hm2, hf2⟩ := zs_mput2 (L := L) (U := U) (J := J) hR hN hm (by rw [List.length_append, zrw0_len]; omega) (I' a (p + i))
      (refine zx_cv1V zd97_14 ?k193 (hr) ?_); (case k193 => first | exact zkk rfl (by omega) | exact zkk (zK_B0 (by omega)) (by omega) | exact zkk ((zK_B (by omega) (by decide)).trans rfl) (by omega) | exact zkk (zK_row (by omega) (by omega)) (by omega) | exact zkk (zK_file (by omega) (by omega)) (by omega) | exact zkk (zK_byte (by omega) (by omega)) (by omega) | exact zkk (zK_list (by omega)) (by omega) | assumption)
      first | with_reducible refine zx_iin3 zd97_17 ?_ | refine zx_ii3 zd97_17 ?_
      refine zx_goto zd97_20 ?_
      refine ih (i + 1) I2 (by omega) ?_ (hf.trans hf2)
      rw [zrw0_succ, ← List.append_assoc]
      rw [hf.1 a ha2.1 ha2.2] at hm2
      exact hm2
theorem zs_mpd (hR : zRs R) (hN : 646 ≤ N) {a n p : Nat} (ha : zk L (N, U, I, J, R) a = some (.inl (.int, n))) (ha2 : a ≠ 623 ∧ a ≠ 625) (hn : n ≤ 65536) (hp : p + 32 ≤ n) (hm : zMg m I) (hs : m.length + 32 ≤ 512) : ∃ I', zRet L 97 [.ref 623, .ref a, .int (Int32.ofNat p)] (N, U, I, J, R) none (N, U, I', J, R) ∧ zMg (m ++ zrw0 (I a) p 32) I' ∧ zF2 I I' := by
  have w : zW L 97 0 (zent 97 [.ref 623, .ref a, .int (Int32.ofNat p)]) [] (N, U, I, J, R) (fun o k => o = .inl none ∧ ∃ I' : zI, k = (N, U, I', J, R) ∧ zMg (m ++ zrw0 (I a) p 32) I' ∧ zF2 I I') := by
    show zW L 97 0 [some (.ref 623), some (.ref a), some (.int (Int32.ofNat p)), none] [] _ _
    refine zx_c zd97_0 ?_
    refine zx_is3 zd97_1 rfl ?_
    exact zm_pd0 hR hN ha ha2 hn hp hs 32 0 I rfl (by show zMg (m ++ []) I; rw [List.append_nil]; exact hm) (zF2.refl I)
  obtain ⟨k, hr, I', rfl, hd, hf⟩ := zRet_of w
  exact ⟨I', hr, hd, hf⟩
end ZMD
end
section
theorem zlast : True := trivial
end
