section
-- ===== PART A: goes FIRST, ahead of the names: the tables' words, and 'selects' of the private methods out of them =====
/-- a private method of a class that the tables say can be made, by its rows of tables_1 -/
def lw_okq (q : MethodName × Nat) : Prop := (q.1.cls ≠ "java/lang/invoke/MethodHandle" ∧ q.1.cls ≠ "java/lang/invoke/VarHandle") ∧ Cond.instantiable q.1.cls q.2 ∈ tables_1 ∧ Cond.privateMethod q.1 ∈ tables_1 ∧ Cond.instanceMethod q.1 ∈ tables_1
theorem lw_p0 : lw_okq (⟨"ReleaseLeaves$Digester", "spreadSchedule", "()V"⟩, 3) := ⟨⟨by decide +kernel, by decide +kernel⟩, List.mem_of_getElem? (i := 25) (by decide +kernel), List.mem_of_getElem? (i := 126) (by decide +kernel), List.mem_of_getElem? (i := 127) (by decide +kernel)⟩
theorem lw_p1 : lw_okq (⟨"ReleaseLeaves$Digester", "mixBlock", "()V"⟩, 3) := ⟨⟨by decide +kernel, by decide +kernel⟩, List.mem_of_getElem? (i := 25) (by decide +kernel), List.mem_of_getElem? (i := 133) (by decide +kernel), List.mem_of_getElem? (i := 134) (by decide +kernel)⟩
theorem lw_p2 : lw_okq (⟨"ReleaseLeaves$Tree", "pairUp", "(ILReleaseLeaves$Digester;)V"⟩, 3) := ⟨⟨by decide +kernel, by decide +kernel⟩, List.mem_of_getElem? (i := 53) (by decide +kernel), List.mem_of_getElem? (i := 235) (by decide +kernel), List.mem_of_getElem? (i := 236) (by decide +kernel)⟩
theorem lw_p3 : lw_okq (⟨"ReleaseLeaves$Claim", "stepCountAt", "()I"⟩, 2) := ⟨⟨by decide +kernel, by decide +kernel⟩, List.mem_of_getElem? (i := 159) (by decide +kernel), List.mem_of_getElem? (i := 273) (by decide +kernel), List.mem_of_getElem? (i := 274) (by decide +kernel)⟩
theorem lw_p4 : lw_okq (⟨"ReleaseLeaves$Claim", "stepAt", "(I)I"⟩, 2) := ⟨⟨by decide +kernel, by decide +kernel⟩, List.mem_of_getElem? (i := 159) (by decide +kernel), List.mem_of_getElem? (i := 277) (by decide +kernel), List.mem_of_getElem? (i := 278) (by decide +kernel)⟩
theorem lw_p5 : lw_okq (⟨"ReleaseLeaves$Claim", "climbStep", "(ILReleaseLeaves$Digester;[I)V"⟩, 2) := ⟨⟨by decide +kernel, by decide +kernel⟩, List.mem_of_getElem? (i := 159) (by decide +kernel), List.mem_of_getElem? (i := 293) (by decide +kernel), List.mem_of_getElem? (i := 294) (by decide +kernel)⟩
theorem lw_p6 : lw_okq (⟨"java/lang/Throwable", "fillInStackTrace", "(I)Ljava/lang/Throwable;"⟩, 6) := ⟨⟨by decide +kernel, by decide +kernel⟩, List.mem_of_getElem? (i := 359) (by decide +kernel), List.mem_of_getElem? (i := 357) (by decide +kernel), List.mem_of_getElem? (i := 358) (by decide +kernel)⟩
theorem lw_p7 : lw_okq (⟨"ReleaseLeaves", "closedRelease", "(I)LReleaseLeaves$Release;"⟩, 10) := ⟨⟨by decide +kernel, by decide +kernel⟩, List.mem_of_getElem? (i := 17) (by decide +kernel), List.mem_of_getElem? (i := 437) (by decide +kernel), List.mem_of_getElem? (i := 438) (by decide +kernel)⟩
theorem lw_p8 : lw_okq (⟨"ReleaseLeaves", "releaseWithLeaf", "(II)LReleaseLeaves$Release;"⟩, 10) := ⟨⟨by decide +kernel, by decide +kernel⟩, List.mem_of_getElem? (i := 17) (by decide +kernel), List.mem_of_getElem? (i := 453) (by decide +kernel), List.mem_of_getElem? (i := 454) (by decide +kernel)⟩
theorem lw_p9 : lw_okq (⟨"ReleaseLeaves$Tree", "countSteps", "(I)I"⟩, 3) := ⟨⟨by decide +kernel, by decide +kernel⟩, List.mem_of_getElem? (i := 53) (by decide +kernel), List.mem_of_getElem? (i := 463) (by decide +kernel), List.mem_of_getElem? (i := 464) (by decide +kernel)⟩
theorem lw_p10 : lw_okq (⟨"ReleaseLeaves$Tree", "hasOther", "(II)Z"⟩, 3) := ⟨⟨by decide +kernel, by decide +kernel⟩, List.mem_of_getElem? (i := 53) (by decide +kernel), List.mem_of_getElem? (i := 467) (by decide +kernel), List.mem_of_getElem? (i := 468) (by decide +kernel)⟩
theorem lw_p11 : lw_okq (⟨"ReleaseLeaves$Tree", "findStepRow", "(II)I"⟩, 3) := ⟨⟨by decide +kernel, by decide +kernel⟩, List.mem_of_getElem? (i := 53) (by decide +kernel), List.mem_of_getElem? (i := 474) (by decide +kernel), List.mem_of_getElem? (i := 475) (by decide +kernel)⟩
theorem lw_p12 : lw_okq (⟨"ReleaseLeavesModel", "tell", "(IJJJJ)V"⟩, 32) := ⟨⟨by decide +kernel, by decide +kernel⟩, List.mem_of_getElem? (i := 569) (by decide +kernel), List.mem_of_getElem? (i := 579) (by decide +kernel), List.mem_of_getElem? (i := 580) (by decide +kernel)⟩
theorem lw_p13 : lw_okq (⟨"ReleaseLeavesModel", "tellTwo", "(IJ)V"⟩, 32) := ⟨⟨by decide +kernel, by decide +kernel⟩, List.mem_of_getElem? (i := 569) (by decide +kernel), List.mem_of_getElem? (i := 583) (by decide +kernel), List.mem_of_getElem? (i := 584) (by decide +kernel)⟩
theorem lw_p14 : lw_okq (⟨"ReleaseLeavesModel", "fileWith", "(II)I"⟩, 32) := ⟨⟨by decide +kernel, by decide +kernel⟩, List.mem_of_getElem? (i := 569) (by decide +kernel), List.mem_of_getElem? (i := 722) (by decide +kernel), List.mem_of_getElem? (i := 723) (by decide +kernel)⟩
theorem lw_p15 : lw_okq (⟨"ReleaseLeavesModel", "nextFile", "(I)I"⟩, 32) := ⟨⟨by decide +kernel, by decide +kernel⟩, List.mem_of_getElem? (i := 569) (by decide +kernel), List.mem_of_getElem? (i := 737) (by decide +kernel), List.mem_of_getElem? (i := 738) (by decide +kernel)⟩
def lw_privs_1 : List (MethodName × Nat) := [(⟨"ReleaseLeaves$Digester", "spreadSchedule", "()V"⟩, 3), (⟨"ReleaseLeaves$Digester", "mixBlock", "()V"⟩, 3), (⟨"ReleaseLeaves$Tree", "pairUp", "(ILReleaseLeaves$Digester;)V"⟩, 3), (⟨"ReleaseLeaves$Claim", "stepCountAt", "()I"⟩, 2), (⟨"ReleaseLeaves$Claim", "stepAt", "(I)I"⟩, 2), (⟨"ReleaseLeaves$Claim", "climbStep", "(ILReleaseLeaves$Digester;[I)V"⟩, 2), (⟨"java/lang/Throwable", "fillInStackTrace", "(I)Ljava/lang/Throwable;"⟩, 6), (⟨"ReleaseLeaves", "closedRelease", "(I)LReleaseLeaves$Release;"⟩, 10), (⟨"ReleaseLeaves", "releaseWithLeaf", "(II)LReleaseLeaves$Release;"⟩, 10), (⟨"ReleaseLeaves$Tree", "countSteps", "(I)I"⟩, 3), (⟨"ReleaseLeaves$Tree", "hasOther", "(II)Z"⟩, 3), (⟨"ReleaseLeaves$Tree", "findStepRow", "(II)I"⟩, 3), (⟨"ReleaseLeavesModel", "tell", "(IJJJJ)V"⟩, 32), (⟨"ReleaseLeavesModel", "tellTwo", "(IJ)V"⟩, 32), (⟨"ReleaseLeavesModel", "fileWith", "(II)I"⟩, 32), (⟨"ReleaseLeavesModel", "nextFile", "(I)I"⟩, 32)]
theorem lw_r1 : ∀ q ∈ lw_privs_1, lw_okq q := List.forall_mem_cons.mpr ⟨lw_p0, List.forall_mem_cons.mpr ⟨lw_p1, List.forall_mem_cons.mpr ⟨lw_p2, List.forall_mem_cons.mpr ⟨lw_p3, List.forall_mem_cons.mpr ⟨lw_p4, List.forall_mem_cons.mpr ⟨lw_p5, List.forall_mem_cons.mpr ⟨lw_p6, List.forall_mem_cons.mpr ⟨lw_p7, List.forall_mem_cons.mpr ⟨lw_p8, List.forall_mem_cons.mpr ⟨lw_p9, List.forall_mem_cons.mpr ⟨lw_p10, List.forall_mem_cons.mpr ⟨lw_p11, List.forall_mem_cons.mpr ⟨lw_p12, List.forall_mem_cons.mpr ⟨lw_p13, List.forall_mem_cons.mpr ⟨lw_p14, List.forall_mem_cons.mpr ⟨lw_p15, fun _ h => absurd h List.not_mem_nil⟩⟩⟩⟩⟩⟩⟩⟩⟩⟩⟩⟩⟩⟩⟩⟩
theorem lw_p16 : lw_okq (⟨"ReleaseLeavesModel", "digestLeaf", "(I)V"⟩, 32) := ⟨⟨by decide +kernel, by decide +kernel⟩, List.mem_of_getElem? (i := 569) (by decide +kernel), List.mem_of_getElem? (i := 741) (by decide +kernel), List.mem_of_getElem? (i := 742) (by decide +kernel)⟩
theorem lw_p17 : lw_okq (⟨"ReleaseLeavesModel", "put", "(I)V"⟩, 32) := ⟨⟨by decide +kernel, by decide +kernel⟩, List.mem_of_getElem? (i := 569) (by decide +kernel), List.mem_of_getElem? (i := 745) (by decide +kernel), List.mem_of_getElem? (i := 746) (by decide +kernel)⟩
theorem lw_p18 : lw_okq (⟨"ReleaseLeavesModel", "digestInput", "()V"⟩, 32) := ⟨⟨by decide +kernel, by decide +kernel⟩, List.mem_of_getElem? (i := 569) (by decide +kernel), List.mem_of_getElem? (i := 749) (by decide +kernel), List.mem_of_getElem? (i := 750) (by decide +kernel)⟩
theorem lw_p19 : lw_okq (⟨"ReleaseLeavesModel", "block", "(I)V"⟩, 32) := ⟨⟨by decide +kernel, by decide +kernel⟩, List.mem_of_getElem? (i := 569) (by decide +kernel), List.mem_of_getElem? (i := 761) (by decide +kernel), List.mem_of_getElem? (i := 762) (by decide +kernel)⟩
theorem lw_p20 : lw_okq (⟨"ReleaseLeavesModel", "layRow", "(I)V"⟩, 32) := ⟨⟨by decide +kernel, by decide +kernel⟩, List.mem_of_getElem? (i := 569) (by decide +kernel), List.mem_of_getElem? (i := 768) (by decide +kernel), List.mem_of_getElem? (i := 769) (by decide +kernel)⟩
theorem lw_p21 : lw_okq (⟨"ReleaseLeavesModel", "goUp", "()V"⟩, 32) := ⟨⟨by decide +kernel, by decide +kernel⟩, List.mem_of_getElem? (i := 569) (by decide +kernel), List.mem_of_getElem? (i := 772) (by decide +kernel), List.mem_of_getElem? (i := 773) (by decide +kernel)⟩
theorem lw_p22 : lw_okq (⟨"ReleaseLeavesModel", "putDigest", "([II)V"⟩, 32) := ⟨⟨by decide +kernel, by decide +kernel⟩, List.mem_of_getElem? (i := 569) (by decide +kernel), List.mem_of_getElem? (i := 776) (by decide +kernel), List.mem_of_getElem? (i := 777) (by decide +kernel)⟩
theorem lw_p23 : lw_okq (⟨"ReleaseLeavesModel", "isRelease", "(I)Z"⟩, 32) := ⟨⟨by decide +kernel, by decide +kernel⟩, List.mem_of_getElem? (i := 569) (by decide +kernel), List.mem_of_getElem? (i := 788) (by decide +kernel), List.mem_of_getElem? (i := 789) (by decide +kernel)⟩
theorem lw_p24 : lw_okq (⟨"ReleaseLeavesModel", "isLeaf", "(II)Z"⟩, 32) := ⟨⟨by decide +kernel, by decide +kernel⟩, List.mem_of_getElem? (i := 569) (by decide +kernel), List.mem_of_getElem? (i := 796) (by decide +kernel), List.mem_of_getElem? (i := 797) (by decide +kernel)⟩
theorem lw_p25 : lw_okq (⟨"ReleaseLeavesModel", "begin", "(I)V"⟩, 32) := ⟨⟨by decide +kernel, by decide +kernel⟩, List.mem_of_getElem? (i := 569) (by decide +kernel), List.mem_of_getElem? (i := 804) (by decide +kernel), List.mem_of_getElem? (i := 805) (by decide +kernel)⟩
theorem lw_p26 : lw_okq (⟨"ReleaseLeavesModel", "say", "(I)V"⟩, 32) := ⟨⟨by decide +kernel, by decide +kernel⟩, List.mem_of_getElem? (i := 569) (by decide +kernel), List.mem_of_getElem? (i := 811) (by decide +kernel), List.mem_of_getElem? (i := 812) (by decide +kernel)⟩
theorem lw_p27 : lw_okq (⟨"ReleaseLeavesModel", "holds", "()Z"⟩, 32) := ⟨⟨by decide +kernel, by decide +kernel⟩, List.mem_of_getElem? (i := 569) (by decide +kernel), List.mem_of_getElem? (i := 831) (by decide +kernel), List.mem_of_getElem? (i := 832) (by decide +kernel)⟩
theorem lw_p28 : lw_okq (⟨"ReleaseLeavesModel", "note", "(IIII)V"⟩, 32) := ⟨⟨by decide +kernel, by decide +kernel⟩, List.mem_of_getElem? (i := 569) (by decide +kernel), List.mem_of_getElem? (i := 839) (by decide +kernel), List.mem_of_getElem? (i := 840) (by decide +kernel)⟩
theorem lw_p29 : lw_okq (⟨"ReleaseLeavesModel", "isApproved", "(I)Z"⟩, 32) := ⟨⟨by decide +kernel, by decide +kernel⟩, List.mem_of_getElem? (i := 569) (by decide +kernel), List.mem_of_getElem? (i := 843) (by decide +kernel), List.mem_of_getElem? (i := 844) (by decide +kernel)⟩
theorem lw_p30 : lw_okq (⟨"ReleaseLeavesModel", "digestList", "(I)V"⟩, 32) := ⟨⟨by decide +kernel, by decide +kernel⟩, List.mem_of_getElem? (i := 569) (by decide +kernel), List.mem_of_getElem? (i := 863) (by decide +kernel), List.mem_of_getElem? (i := 864) (by decide +kernel)⟩
def lw_privs_2 : List (MethodName × Nat) := [(⟨"ReleaseLeavesModel", "digestLeaf", "(I)V"⟩, 32), (⟨"ReleaseLeavesModel", "put", "(I)V"⟩, 32), (⟨"ReleaseLeavesModel", "digestInput", "()V"⟩, 32), (⟨"ReleaseLeavesModel", "block", "(I)V"⟩, 32), (⟨"ReleaseLeavesModel", "layRow", "(I)V"⟩, 32), (⟨"ReleaseLeavesModel", "goUp", "()V"⟩, 32), (⟨"ReleaseLeavesModel", "putDigest", "([II)V"⟩, 32), (⟨"ReleaseLeavesModel", "isRelease", "(I)Z"⟩, 32), (⟨"ReleaseLeavesModel", "isLeaf", "(II)Z"⟩, 32), (⟨"ReleaseLeavesModel", "begin", "(I)V"⟩, 32), (⟨"ReleaseLeavesModel", "say", "(I)V"⟩, 32), (⟨"ReleaseLeavesModel", "holds", "()Z"⟩, 32), (⟨"ReleaseLeavesModel", "note", "(IIII)V"⟩, 32), (⟨"ReleaseLeavesModel", "isApproved", "(I)Z"⟩, 32), (⟨"ReleaseLeavesModel", "digestList", "(I)V"⟩, 32)]
theorem lw_r2 : ∀ q ∈ lw_privs_2, lw_okq q := List.forall_mem_cons.mpr ⟨lw_p16, List.forall_mem_cons.mpr ⟨lw_p17, List.forall_mem_cons.mpr ⟨lw_p18, List.forall_mem_cons.mpr ⟨lw_p19, List.forall_mem_cons.mpr ⟨lw_p20, List.forall_mem_cons.mpr ⟨lw_p21, List.forall_mem_cons.mpr ⟨lw_p22, List.forall_mem_cons.mpr ⟨lw_p23, List.forall_mem_cons.mpr ⟨lw_p24, List.forall_mem_cons.mpr ⟨lw_p25, List.forall_mem_cons.mpr ⟨lw_p26, List.forall_mem_cons.mpr ⟨lw_p27, List.forall_mem_cons.mpr ⟨lw_p28, List.forall_mem_cons.mpr ⟨lw_p29, List.forall_mem_cons.mpr ⟨lw_p30, fun _ h => absurd h List.not_mem_nil⟩⟩⟩⟩⟩⟩⟩⟩⟩⟩⟩⟩⟩⟩⟩
def lw_privs : List (MethodName × Nat) := lw_privs_1 ++ (lw_privs_2)
def lw_tbl : List Cond := k2_sels lw_privs ++ tables_1
theorem lw_privs_ok : ∀ q ∈ lw_privs, lw_okq q := by
  show ∀ q ∈ lw_privs_1 ++ (lw_privs_2), lw_okq q
  exact List.forall_mem_append.mpr ⟨lw_r1, lw_r2⟩
end
section
/-! TABLES of this claim for the logical machine, written by program (wip/whole/gen/tables.py) out of the Statement's words and javap's listing. -/
def zcnL : List String := ["ReleaseLeaves", "ReleaseLeaves$Digester", "ReleaseLeaves$Release", "ReleaseLeaves$Tree", "ReleaseLeaves$StoredFile", "ReleaseLeaves$EventLog", "ReleaseLeaves$Claim", "ReleaseLeavesModel", "ReleaseLeavesLaw", "java/lang/Math"]
def zcn (i : Nat) : String := zcnL.getD i ""
abbrev zNc : Nat := 8
abbrev zNm : Nat := 121
def zfTL : List (List (String × String × String × Bool)) := [[("ReleaseLeaves", "digester", "LReleaseLeaves$Digester;", true), ("ReleaseLeaves", "releases", "[LReleaseLeaves$Release;", true), ("ReleaseLeaves", "closedCount", "I", false), ("ReleaseLeaves", "lists", "[[I", true), ("ReleaseLeaves", "withdrawnCount", "I", false), ("ReleaseLeaves", "serialReleases", "[I", true), ("ReleaseLeaves", "serialCount", "I", false), ("ReleaseLeaves", "log", "LReleaseLeaves$EventLog;", true), ("ReleaseLeaves", "claim", "LReleaseLeaves$Claim;", true), ("ReleaseLeaves", "climbed", "[I", true)], [("ReleaseLeaves$Digester", "state", "[I", true), ("ReleaseLeaves$Digester", "schedule", "[I", true), ("ReleaseLeaves$Digester", "length", "I", false)], [("ReleaseLeaves$Release", "files", "[LReleaseLeaves$StoredFile;", true), ("ReleaseLeaves$Release", "fileCount", "I", false), ("ReleaseLeaves$Release", "tree", "LReleaseLeaves$Tree;", true), ("ReleaseLeaves$Release", "roles", "[I", true), ("ReleaseLeaves$Release", "withdrawn", "Z", false)], [("ReleaseLeaves$Tree", "nodes", "[[I", true), ("ReleaseLeaves$Tree", "widths", "[I", true), ("ReleaseLeaves$Tree", "topRow", "I", false)], [("ReleaseLeaves$StoredFile", "name", "I", false), ("ReleaseLeaves$StoredFile", "bytes", "[I", true), ("ReleaseLeaves$StoredFile", "length", "I", false)], [("ReleaseLeaves$EventLog", "owners", "[I", true), ("ReleaseLeaves$EventLog", "kinds", "[I", true), ("ReleaseLeaves$EventLog", "subjects", "[I", true), ("ReleaseLeaves$EventLog", "roles", "[I", true), ("ReleaseLeaves$EventLog", "count", "I", false)], [("ReleaseLeaves$Claim", "bytes", "[I", true), ("ReleaseLeaves$Claim", "count", "I", false)], [("ReleaseLeavesModel", "thrown", "I", false), ("ReleaseLeavesModel", "constants", "[I", true), ("ReleaseLeavesModel", "size", "I", false), ("ReleaseLeavesModel", "input", "[I", true), ("ReleaseLeavesModel", "words", "[I", true), ("ReleaseLeavesModel", "state", "[I", true), ("ReleaseLeavesModel", "work", "[I", true), ("ReleaseLeavesModel", "output", "[I", true), ("ReleaseLeavesModel", "releases", "I", false), ("ReleaseLeavesModel", "counts", "[I", true), ("ReleaseLeavesModel", "names", "[I", true), ("ReleaseLeavesModel", "lengths", "[I", true), ("ReleaseLeavesModel", "bytes", "[I", true), ("ReleaseLeavesModel", "leafDigests", "[I", true), ("ReleaseLeavesModel", "roots", "[I", true), ("ReleaseLeavesModel", "width", "I", false), ("ReleaseLeavesModel", "row", "[I", true), ("ReleaseLeavesModel", "checkSize", "I", false), ("ReleaseLeavesModel", "check", "[I", true), ("ReleaseLeavesModel", "roles", "[I", true), ("ReleaseLeavesModel", "withdrawn", "[Z", true), ("ReleaseLeavesModel", "withdrawals", "I", false), ("ReleaseLeavesModel", "serials", "I", false), ("ReleaseLeavesModel", "serialOf", "[I", true), ("ReleaseLeavesModel", "events", "I", false), ("ReleaseLeavesModel", "eventRelease", "[I", true), ("ReleaseLeavesModel", "eventKind", "[I", true), ("ReleaseLeavesModel", "eventA", "[I", true), ("ReleaseLeavesModel", "eventB", "[I", true), ("ReleaseLeavesModel", "wanted", "I", false), ("ReleaseLeavesModel", "written", "I", false), ("ReleaseLeavesModel", "found", "I", false)]]
def zfT (ci : Nat) : u_T := fun k => (zfTL.getD ci []).getD k ("", "", "", false)
def zfNL : List Nat := [10, 3, 5, 3, 3, 5, 2, 32]
def zfN (ci : Nat) : Nat := zfNL.getD ci 0
def zftL : List (List FieldType) := [[.object "ReleaseLeaves$Digester", .array (.object "ReleaseLeaves$Release"), .int, .array (.array .int), .int, .array .int, .int, .object "ReleaseLeaves$EventLog", .object "ReleaseLeaves$Claim", .array .int], [.array .int, .array .int, .int], [.array (.object "ReleaseLeaves$StoredFile"), .int, .object "ReleaseLeaves$Tree", .array .int, .boolean], [.array (.array .int), .array .int, .int], [.int, .array .int, .int], [.array .int, .array .int, .array .int, .array .int, .int], [.array .int, .int], [.int, .array .int, .int, .array .int, .array .int, .array .int, .array .int, .array .int, .int, .array .int, .array .int, .array .int, .array .int, .array .int, .array .int, .int, .array .int, .int, .array .int, .array .int, .array .boolean, .int, .int, .array .int, .int, .array .int, .array .int, .array .int, .array .int, .int, .int, .int]]
def zft (ci k : Nat) : FieldType := (zftL.getD ci []).getD k .int
abbrev zcls : List vw_C := [(zcn 0, zfT 0, zfN 0), (zcn 1, zfT 1, zfN 1), (zcn 2, zfT 2, zfN 2), (zcn 3, zfT 3, zfN 3), (zcn 4, zfT 4, zfN 4), (zcn 5, zfT 5, zfN 5), (zcn 6, zfT 6, zfN 6), (zcn 7, zfT 7, zfN 7)]
def zlayP : List (List Nat) := [[212, 214, 216, 218, 220, 222, 224, 226, 228, 230], [66, 68, 70], [127, 129, 131, 133, 135], [94, 96, 98], [111, 113, 115], [178, 180, 182, 184, 186], [197, 199], [677, 679, 681, 683, 685, 687, 689, 691, 693, 695, 697, 699, 701, 703, 705, 707, 709, 711, 713, 715, 717, 719, 721, 723, 725, 727, 729, 731, 733, 735, 737, 739]]
def zyL : List MethodName := [⟨"ReleaseLeavesLaw", "law", "([I)Z"⟩, ⟨"ReleaseLeaves", "<init>", "()V"⟩, ⟨"ReleaseLeaves$Digester", "<init>", "()V"⟩, ⟨"ReleaseLeaves$Release", "<init>", "()V"⟩, ⟨"ReleaseLeaves$Tree", "<init>", "()V"⟩, ⟨"ReleaseLeaves$StoredFile", "<init>", "()V"⟩, ⟨"ReleaseLeaves$Digester", "begin", "()V"⟩, ⟨"ReleaseLeaves$Digester", "finish", "([I)V"⟩, ⟨"ReleaseLeaves$Digester", "put", "(I)V"⟩, ⟨"ReleaseLeaves$Digester", "spreadSchedule", "()V"⟩, ⟨"ReleaseLeaves$Digester", "turn", "(II)I"⟩, ⟨"ReleaseLeaves$Digester", "mixBlock", "()V"⟩, ⟨"ReleaseLeaves$EventLog", "<init>", "()V"⟩, ⟨"ReleaseLeaves$Claim", "<init>", "()V"⟩, ⟨"ReleaseLeaves", "close", "()I"⟩, ⟨"ReleaseLeaves$Release", "sortFiles", "()V"⟩, ⟨"ReleaseLeaves$Tree", "grow", "([LReleaseLeaves$StoredFile;ILReleaseLeaves$Digester;)V"⟩, ⟨"ReleaseLeaves$Tree", "node", "(II)[I"⟩, ⟨"ReleaseLeaves$StoredFile", "digestInto", "(LReleaseLeaves$Digester;[I)V"⟩, ⟨"ReleaseLeaves$Digester", "putPart", "([III)V"⟩, ⟨"ReleaseLeaves$Tree", "pairUp", "(ILReleaseLeaves$Digester;)V"⟩, ⟨"ReleaseLeaves$Digester", "putAll", "([I)V"⟩, ⟨"ReleaseLeaves$Tree", "top", "()[I"⟩, ⟨"ReleaseLeaves", "check", "(I)Z"⟩, ⟨"ReleaseLeaves", "isByte", "(I)Z"⟩, ⟨"ReleaseLeaves$Claim", "addByte", "(I)Z"⟩, ⟨"ReleaseLeaves", "checked", "()I"⟩, ⟨"ReleaseLeaves$Claim", "isWellFormed", "()Z"⟩, ⟨"ReleaseLeaves$Claim", "hasByte", "(I)Z"⟩, ⟨"ReleaseLeaves$Claim", "stepCountAt", "()I"⟩, ⟨"ReleaseLeaves$Claim", "stepAt", "(I)I"⟩, ⟨"ReleaseLeaves$Claim", "releaseNumber", "()I"⟩, ⟨"ReleaseLeaves$Claim", "climb", "(LReleaseLeaves$Digester;[I)V"⟩, ⟨"ReleaseLeaves$Claim", "climbStep", "(ILReleaseLeaves$Digester;[I)V"⟩, ⟨"ReleaseLeaves", "sameNumbers", "([I[II)Z"⟩, ⟨"ReleaseLeaves", "made", "()I"⟩, ⟨"ReleaseLeaves", "clearCheck", "()V"⟩, ⟨"ReleaseLeaves$Claim", "empty", "()V"⟩, ⟨"ReleaseLeavesLaw", "file", "(LReleaseLeaves;I[J)I"⟩, ⟨"ReleaseLeaves", "file", "(I)I"⟩, ⟨"ReleaseLeaves$Release", "addFile", "(I)I"⟩, ⟨"ReleaseLeaves$Release", "findName", "(I)I"⟩, ⟨"ReleaseLeavesLaw", "byteOf", "(LReleaseLeaves;II[J)I"⟩, ⟨"ReleaseLeaves", "byteOf", "(II)Z"⟩, ⟨"ReleaseLeaves$Release", "hasFile", "(I)Z"⟩, ⟨"ReleaseLeaves$StoredFile", "addByte", "(I)Z"⟩, ⟨"ReleaseLeavesLaw", "root", "(LReleaseLeaves;II[J)I"⟩, ⟨"ReleaseLeaves", "root", "(II)I"⟩, ⟨"ReleaseLeaves", "closedRelease", "(I)LReleaseLeaves$Release;"⟩, ⟨"ReleaseLeaves", "requireDigestPlace", "(I)V"⟩, ⟨"ReleaseLeavesLaw", "proof", "(LReleaseLeaves;III[J)I"⟩, ⟨"ReleaseLeaves", "proof", "(III)I"⟩, ⟨"ReleaseLeaves", "releaseWithLeaf", "(II)LReleaseLeaves$Release;"⟩, ⟨"ReleaseLeaves$Tree", "proofByte", "(II)I"⟩, ⟨"ReleaseLeaves$Tree", "countSteps", "(I)I"⟩, ⟨"ReleaseLeaves$Tree", "hasOther", "(II)Z"⟩, ⟨"ReleaseLeaves$Tree", "otherOf", "(I)I"⟩, ⟨"ReleaseLeaves$Tree", "findStepRow", "(II)I"⟩, ⟨"ReleaseLeavesLaw", "approve", "(LReleaseLeaves;III[J)I"⟩, ⟨"ReleaseLeaves", "approve", "(III)I"⟩, ⟨"ReleaseLeaves$EventLog", "record", "(IIII)V"⟩, ⟨"ReleaseLeaves$Release", "isApproved", "()Z"⟩, ⟨"ReleaseLeavesLaw", "withdraw", "(LReleaseLeaves;I[J)I"⟩, ⟨"ReleaseLeaves", "withdraw", "(I)I"⟩, ⟨"ReleaseLeavesLaw", "serial", "(LReleaseLeaves;I[J)I"⟩, ⟨"ReleaseLeaves", "serial", "(I)I"⟩, ⟨"ReleaseLeavesLaw", "history", "(LReleaseLeaves;III[J)I"⟩, ⟨"ReleaseLeaves", "history", "(III)I"⟩, ⟨"ReleaseLeaves$EventLog", "find", "(II)I"⟩, ⟨"ReleaseLeaves$EventLog", "tell", "(II)I"⟩, ⟨"ReleaseLeavesLaw", "digest", "(LReleaseLeaves;III[J)I"⟩, ⟨"ReleaseLeaves", "digest", "(III)I"⟩, ⟨"ReleaseLeavesLaw", "growth", "(LReleaseLeaves;III[J)I"⟩, ⟨"ReleaseLeaves", "growth", "(III)I"⟩, ⟨"ReleaseLeavesLaw", "poke", "(LReleaseLeaves;II[J)I"⟩, ⟨"ReleaseLeaves", "poke", "(II)Z"⟩, ⟨"ReleaseLeaves$Claim", "flip", "(II)Z"⟩, ⟨"ReleaseLeavesLaw", "changed", "(LReleaseLeaves;II[J)I"⟩, ⟨"ReleaseLeaves", "changed", "(II)I"⟩, ⟨"ReleaseLeaves$StoredFile", "hasBytesOf", "(LReleaseLeaves$StoredFile;)Z"⟩, ⟨"ReleaseLeavesModel", "<init>", "()V"⟩, ⟨"ReleaseLeavesModel", "tell", "(IJJJJ)V"⟩, ⟨"ReleaseLeavesModel", "tellTwo", "(IJ)V"⟩, ⟨"ReleaseLeavesModel", "thrown", "()I"⟩, ⟨"ReleaseLeavesModel", "file", "(I)I"⟩, ⟨"ReleaseLeavesModel", "fileWith", "(II)I"⟩, ⟨"ReleaseLeavesModel", "byteOf", "(II)Z"⟩, ⟨"ReleaseLeavesModel", "isByte", "(I)Z"⟩, ⟨"ReleaseLeavesModel", "close", "()I"⟩, ⟨"ReleaseLeavesModel", "nextFile", "(I)I"⟩, ⟨"ReleaseLeavesModel", "digestLeaf", "(I)V"⟩, ⟨"ReleaseLeavesModel", "put", "(I)V"⟩, ⟨"ReleaseLeavesModel", "digestInput", "()V"⟩, ⟨"ReleaseLeavesModel", "block", "(I)V"⟩, ⟨"ReleaseLeavesModel", "turned", "(II)I"⟩, ⟨"ReleaseLeavesModel", "layRow", "(I)V"⟩, ⟨"ReleaseLeavesModel", "goUp", "()V"⟩, ⟨"ReleaseLeavesModel", "putDigest", "([II)V"⟩, ⟨"ReleaseLeavesModel", "made", "()I"⟩, ⟨"ReleaseLeavesModel", "root", "(II)I"⟩, ⟨"ReleaseLeavesModel", "isRelease", "(I)Z"⟩, ⟨"ReleaseLeavesModel", "digest", "(III)I"⟩, ⟨"ReleaseLeavesModel", "isLeaf", "(II)Z"⟩, ⟨"ReleaseLeavesModel", "proof", "(III)I"⟩, ⟨"ReleaseLeavesModel", "begin", "(I)V"⟩, ⟨"ReleaseLeavesModel", "stepsOf", "(II)I"⟩, ⟨"ReleaseLeavesModel", "say", "(I)V"⟩, ⟨"ReleaseLeavesModel", "check", "(I)Z"⟩, ⟨"ReleaseLeavesModel", "clearCheck", "()V"⟩, ⟨"ReleaseLeavesModel", "poke", "(II)Z"⟩, ⟨"ReleaseLeavesModel", "checked", "()I"⟩, ⟨"ReleaseLeavesModel", "holds", "()Z"⟩, ⟨"ReleaseLeavesModel", "approve", "(III)I"⟩, ⟨"ReleaseLeavesModel", "note", "(IIII)V"⟩, ⟨"ReleaseLeavesModel", "isApproved", "(I)Z"⟩, ⟨"ReleaseLeavesModel", "withdraw", "(I)I"⟩, ⟨"ReleaseLeavesModel", "serial", "(I)I"⟩, ⟨"ReleaseLeavesModel", "history", "(III)I"⟩, ⟨"ReleaseLeavesModel", "growth", "(III)I"⟩, ⟨"ReleaseLeavesModel", "digestList", "(I)V"⟩, ⟨"ReleaseLeavesModel", "changed", "(II)I"⟩]
def zy (i : Nat) : MethodName := zyL.getD i x
def zcdL : List ByteArray := [code, prog_1_method_1_code, prog_3_method_1_code, prog_5_method_1_code, prog_7_method_1_code, prog_6_method_1_code, prog_3_method_2_code, prog_3_method_6_code, prog_3_method_3_code, prog_3_method_7_code, prog_3_method_9_code, prog_3_method_8_code, prog_4_method_1_code, prog_2_method_1_code, prog_1_method_4_code, prog_5_method_5_code, prog_7_method_4_code, prog_7_method_2_code, prog_6_method_4_code, prog_3_method_5_code, prog_7_method_5_code, prog_3_method_4_code, prog_7_method_3_code, prog_1_method_7_code, prog_1_method_22_code, prog_2_method_2_code, prog_1_method_8_code, prog_2_method_9_code, prog_2_method_3_code, prog_2_method_7_code, prog_2_method_8_code, prog_2_method_6_code, prog_2_method_10_code, prog_2_method_11_code, prog_1_method_23_code, prog_1_method_17_code, prog_1_method_18_code, prog_2_method_5_code, method_3_code, prog_1_method_2_code, prog_5_method_3_code, prog_5_method_4_code, method_4_code, prog_1_method_3_code, prog_5_method_2_code, prog_6_method_2_code, method_5_code, prog_1_method_5_code, prog_1_method_19_code, prog_1_method_21_code, method_6_code, prog_1_method_6_code, prog_1_method_20_code, prog_7_method_6_code, prog_7_method_7_code, prog_7_method_9_code, prog_7_method_10_code, prog_7_method_8_code, method_7_code, prog_1_method_9_code, prog_4_method_2_code, prog_5_method_6_code, method_8_code, prog_1_method_10_code, method_9_code, prog_1_method_11_code, method_10_code, prog_1_method_12_code, prog_4_method_3_code, prog_4_method_4_code, method_11_code, prog_1_method_13_code, method_12_code, prog_1_method_14_code, method_13_code, prog_1_method_15_code, prog_2_method_4_code, method_14_code, prog_1_method_16_code, prog_6_method_3_code, prog_9_method_1_code, prog_9_method_2_code, prog_9_method_3_code, prog_9_method_4_code, prog_9_method_14_code, prog_9_method_13_code, prog_9_method_15_code, prog_9_method_12_code, prog_9_method_18_code, prog_9_method_16_code, prog_9_method_17_code, prog_9_method_5_code, prog_9_method_8_code, prog_9_method_7_code, prog_9_method_6_code, prog_9_method_20_code, prog_9_method_21_code, prog_9_method_9_code, prog_9_method_19_code, prog_9_method_25_code, prog_9_method_10_code, prog_9_method_26_code, prog_9_method_11_code, prog_9_method_27_code, prog_9_method_23_code, prog_9_method_24_code, prog_9_method_22_code, prog_9_method_28_code, prog_9_method_29_code, prog_9_method_30_code, prog_9_method_32_code, prog_9_method_31_code, prog_9_method_35_code, prog_9_method_33_code, prog_9_method_34_code, prog_9_method_36_code, prog_9_method_37_code, prog_9_method_38_code, prog_9_method_40_code, prog_9_method_39_code, prog_9_method_41_code]
def zcd (i : Nat) : ByteArray := zcdL.getD i code
def zmxL : List Nat := [7, 2, 1, 2, 1, 1, 1, 5, 4, 6, 2, 15, 1, 1, 3, 4, 5, 3, 3, 6, 6, 6, 1, 2, 1, 2, 1, 3, 2, 1, 2, 1, 5, 4, 4, 1, 1, 1, 4, 2, 3, 3, 5, 4, 2, 2, 5, 4, 2, 1, 6, 5, 4, 7, 4, 3, 1, 5, 6, 5, 5, 6, 4, 3, 4, 4, 6, 5, 5, 3, 6, 5, 6, 7, 5, 3, 4, 5, 6, 2, 1, 10, 4, 1, 2, 4, 4, 1, 7, 5, 3, 2, 3, 11, 2, 3, 3, 4, 1, 3, 2, 4, 3, 7, 2, 5, 2, 2, 1, 3, 1, 5, 4, 5, 4, 2, 2, 6, 5, 3, 8]
def zmx (i : Nat) : Nat := zmxL.getD i 0
def zrtL : List (Option FieldType) := [(some .boolean), none, none, none, none, none, none, none, none, none, (some .int), none, none, none, (some .int), none, none, (some (.array .int)), none, none, none, none, (some (.array .int)), (some .boolean), (some .boolean), (some .boolean), (some .int), (some .boolean), (some .boolean), (some .int), (some .int), (some .int), none, none, (some .boolean), (some .int), none, none, (some .int), (some .int), (some .int), (some .int), (some .int), (some .boolean), (some .boolean), (some .boolean), (some .int), (some .int), (some (.object "ReleaseLeaves$Release")), none, (some .int), (some .int), (some (.object "ReleaseLeaves$Release")), (some .int), (some .int), (some .boolean), (some .int), (some .int), (some .int), (some .int), none, (some .boolean), (some .int), (some .int), (some .int), (some .int), (some .int), (some .int), (some .int), (some .int), (some .int), (some .int), (some .int), (some .int), (some .int), (some .boolean), (some .boolean), (some .int), (some .int), (some .boolean), none, none, none, (some .int), (some .int), (some .int), (some .boolean), (some .boolean), (some .int), (some .int), none, none, none, none, (some .int), none, none, none, (some .int), (some .int), (some .boolean), (some .int), (some .boolean), (some .int), none, (some .int), none, (some .boolean), none, (some .boolean), (some .int), (some .boolean), (some .int), none, (some .boolean), (some .int), (some .int), (some .int), (some .int), none, (some .int)]
def zrt (i : Nat) : Option FieldType := zrtL.getD i none
def zocL : List Nat := [8, 0, 1, 2, 3, 4, 1, 1, 1, 1, 1, 1, 5, 6, 0, 2, 3, 3, 4, 1, 3, 1, 3, 0, 0, 6, 0, 6, 6, 6, 6, 6, 6, 6, 0, 0, 0, 6, 8, 0, 2, 2, 8, 0, 2, 4, 8, 0, 0, 0, 8, 0, 0, 3, 3, 3, 3, 3, 8, 0, 5, 2, 8, 0, 8, 0, 8, 0, 5, 5, 8, 0, 8, 0, 8, 0, 6, 8, 0, 4, 7, 7, 7, 7, 7, 7, 7, 7, 7, 7, 7, 7, 7, 7, 7, 7, 7, 7, 7, 7, 7, 7, 7, 7, 7, 7, 7, 7, 7, 7, 7, 7, 7, 7, 7, 7, 7, 7, 7, 7, 7]
def zoc (i : Nat) : Nat := zocL.getD i 0
def zatL : List Bool := [true, false, false, false, false, false, false, false, false, false, true, false, false, false, false, false, false, false, false, false, false, false, false, false, true, false, false, false, false, false, false, false, false, false, true, false, false, false, true, false, false, false, true, false, false, false, true, false, false, true, true, false, false, false, false, false, true, false, true, false, false, false, true, false, true, false, true, false, false, false, true, false, true, false, true, false, false, true, false, false, false, false, false, false, false, false, false, true, false, false, false, false, false, false, true, false, false, false, false, false, false, false, false, false, false, true, false, false, false, false, false, false, false, false, false, false, false, false, false, false, false]
def zat (i : Nat) : Bool := zatL.getD i true
def znpL : List Nat := [1, 0, 0, 0, 0, 0, 0, 1, 1, 0, 2, 0, 0, 0, 0, 0, 3, 2, 2, 3, 2, 1, 0, 1, 1, 1, 0, 0, 1, 0, 1, 0, 2, 3, 3, 0, 0, 0, 3, 1, 1, 1, 4, 2, 1, 1, 4, 2, 1, 1, 5, 3, 2, 2, 1, 2, 1, 2, 5, 3, 4, 0, 3, 1, 3, 1, 5, 3, 2, 2, 5, 3, 5, 3, 4, 2, 2, 4, 2, 1, 0, 5, 2, 0, 1, 2, 2, 1, 0, 1, 1, 1, 0, 1, 2, 1, 0, 2, 0, 2, 1, 3, 2, 3, 1, 2, 1, 1, 0, 2, 0, 0, 3, 4, 1, 1, 1, 3, 3, 1, 2]
def znp (i : Nat) : Nat := znpL.getD i 0
def zrkL : List Nat := [10, 4, 1, 2, 1, 1, 1, 3, 2, 1, 0, 1, 1, 1, 6, 0, 5, 0, 4, 3, 4, 3, 1, 1, 0, 0, 6, 2, 0, 0, 1, 0, 5, 4, 0, 0, 1, 0, 7, 6, 1, 0, 7, 6, 0, 0, 8, 7, 6, 6, 9, 8, 7, 3, 2, 1, 0, 2, 8, 7, 0, 0, 8, 7, 8, 7, 7, 6, 0, 0, 9, 8, 7, 6, 7, 6, 0, 9, 8, 1, 2, 1, 0, 0, 1, 0, 1, 0, 4, 0, 3, 0, 2, 1, 0, 0, 3, 1, 0, 1, 0, 2, 1, 4, 0, 0, 0, 1, 0, 0, 4, 3, 1, 0, 0, 1, 1, 0, 4, 3, 2]
def zrk (i : Nat) : Nat := zrkL.getD i 0
def zloL : List Nat := [183, 102, 20, 40, 20, 20, 26, 78, 55, 21, 0, 21, 20, 20, 152, 0, 128, 0, 103, 78, 103, 78, 22, 21, 0, 0, 150, 41, 0, 0, 20, 0, 126, 103, 0, 0, 20, 0, 111, 90, 22, 0, 113, 90, 0, 0, 134, 111, 90, 90, 158, 134, 111, 66, 42, 20, 0, 42, 135, 111, 0, 0, 133, 111, 134, 111, 114, 90, 0, 0, 158, 134, 116, 90, 112, 90, 0, 159, 134, 23, 52, 23, 0, 0, 23, 0, 20, 0, 95, 0, 73, 0, 51, 21, 0, 0, 73, 21, 0, 21, 0, 43, 21, 95, 0, 0, 0, 20, 0, 0, 97, 73, 24, 0, 0, 24, 24, 0, 95, 73, 43]
def zlo (i : Nat) : Nat := zloL.getD i 0
/-- methods whose locals hold longs -/
def zlg (i : Nat) : Bool := i == 81 || i == 82
/-- handlers; the law itself has a row that covers nothing: nothing is thrown through it -/
def zhdL : List (List (Nat × Nat × Nat × Nat)) := [[(0, 0, 0, 0)], [], [], [], [], [], [], [], [], [], [], [], [], [], [], [], [], [], [], [], [], [], [], [], [], [], [], [], [], [], [], [], [], [], [], [], [], [], [(0, 9, 12, 13)], [], [], [], [(0, 17, 20, 19), (0, 17, 24, 13)], [], [], [], [(0, 10, 13, 19)], [], [], [], [(0, 12, 15, 19)], [], [], [], [], [], [], [], [(0, 12, 15, 19), (0, 12, 19, 13)], [], [], [], [(0, 9, 12, 19)], [], [(0, 9, 12, 19)], [], [(0, 12, 15, 19)], [], [], [], [(0, 12, 15, 19)], [], [(0, 12, 15, 19)], [], [(0, 17, 20, 19)], [], [], [(0, 10, 13, 19)], [], [], [], [], [], [], [], [], [], [], [], [], [], [], [], [], [], [], [], [], [], [], [], [], [], [], [], [], [], [], [], [], [], [], [], [], [], [], [], [], [], [], []]
def zhd (i : Nat) : List (Nat × Nat × Nat × Nat) := zhdL.getD i []
/-- links: by the owner: index, class, field, of a nest mate or not, place of the word -/
def zflL : List (List (Nat × Nat × Nat × Nat × Nat)) := [[(12, 0, 0, 0, 202), (18, 0, 1, 0, 203), (25, 0, 3, 0, 205), (35, 0, 5, 0, 207), (42, 0, 7, 0, 209), (49, 0, 8, 0, 210), (53, 0, 9, 0, 211), (64, 0, 2, 0, 204), (86, 2, 0, 1, 119), (98, 2, 2, 1, 123), (102, 2, 1, 1, 121), (157, 2, 3, 1, 125), (167, 2, 4, 1, 126), (171, 0, 4, 0, 206), (174, 0, 6, 0, 208), (204, 4, 0, 1, 108)], [(11, 1, 0, 0, 63), (18, 1, 1, 0, 64), (30, 1, 2, 0, 65)], [(11, 2, 0, 0, 118), (20, 2, 2, 0, 122), (24, 2, 3, 0, 124), (29, 2, 1, 0, 120), (37, 4, 0, 1, 106)], [(13, 3, 0, 0, 91), (16, 3, 1, 0, 92), (20, 3, 2, 0, 93)], [(9, 4, 1, 0, 109), (15, 4, 2, 0, 110), (32, 4, 0, 0, 107)], [(9, 5, 0, 0, 173), (15, 5, 1, 0, 174), (18, 5, 2, 0, 175), (21, 5, 3, 0, 176), (24, 5, 4, 0, 177)], [(9, 6, 0, 0, 195), (15, 6, 1, 0, 196)], [(7, 7, 1, 0, 646), (13, 7, 3, 0, 648), (16, 7, 4, 0, 649), (19, 7, 5, 0, 650), (22, 7, 6, 0, 651), (25, 7, 7, 0, 652), (28, 7, 9, 0, 654), (31, 7, 10, 0, 655), (34, 7, 11, 0, 656), (37, 7, 12, 0, 657), (40, 7, 13, 0, 658), (43, 7, 14, 0, 659), (46, 7, 16, 0, 661), (49, 7, 18, 0, 663), (52, 7, 19, 0, 664), (55, 7, 20, 0, 665), (59, 7, 23, 0, 668), (62, 7, 25, 0, 670), (65, 7, 26, 0, 671), (68, 7, 27, 0, 672), (71, 7, 28, 0, 673), (146, 7, 0, 0, 645), (150, 7, 2, 0, 647), (172, 7, 8, 0, 653), (199, 7, 15, 0, 660), (209, 7, 30, 0, 675), (212, 7, 29, 0, 674), (215, 7, 31, 0, 676), (231, 7, 17, 0, 662), (238, 7, 24, 0, 669), (248, 7, 21, 0, 666), (251, 7, 22, 0, 667)], [], []]
def zfl (oc k : Nat) : Option (Nat × Nat) := ((zflL.getD oc []).find? (fun q => q.1 == k)).map (fun q => (q.2.1, q.2.2.1))
def zmlL : List (List (Nat × Nat × Nat × Nat)) := [[(11, 2, 1, 57), (22, 3, 0, 77), (28, 6, 0, 139), (31, 7, 0, 148), (41, 12, 1, 169), (48, 13, 1, 191), (68, 40, 0, 419), (72, 44, 0, 435), (81, 24, 0, 284), (90, 45, 0, 456), (95, 15, 0, 237), (105, 16, 0, 241), (111, 21, 0, 275), (114, 22, 0, 276), (118, 48, 0, 467), (122, 49, 0, 472), (126, 52, 0, 483), (132, 53, 0, 489), (136, 25, 0, 287), (137, 27, 0, 295), (141, 31, 0, 311), (145, 32, 0, 315), (149, 34, 0, 328), (160, 60, 0, 517), (164, 61, 0, 521), (181, 68, 0, 548), (184, 69, 0, 552), (187, 17, 0, 563), (195, 28, 0, 580), (200, 76, 0, 582), (207, 41, 0, 593), (210, 79, 0, 594), (214, 37, 0, 339)], [(34, 9, 0, 156), (37, 11, 0, 163), (40, 8, 0, 152), (50, 10, 0, 160)], [(19, 4, 1, 85), (28, 5, 1, 102), (33, 41, 0, 423)], [(24, 17, 0, 246), (28, 6, 0, 245), (33, 7, 0, 250), (37, 18, 0, 251), (43, 20, 0, 265), (47, 8, 0, 269), (51, 21, 0, 270), (60, 54, 0, 493), (64, 57, 0, 504), (68, 56, 0, 501), (71, 55, 0, 497)], [(19, 34, 1, 598), (23, 6, 0, 255), (28, 8, 0, 256), (35, 19, 0, 257), (39, 7, 0, 264)], [], [(19, 29, 0, 303), (23, 28, 0, 299), (27, 30, 0, 307), (31, 6, 0, 319), (36, 8, 0, 320), (40, 19, 0, 321), (44, 7, 0, 322), (48, 33, 0, 323), (52, 21, 0, 327)], [(82, 81, 0, 609), (142, 82, 0, 613), (153, 94, 0, 795), (157, 91, 0, 775), (169, 93, 0, 791), (175, 100, 0, 818), (180, 85, 0, 752), (183, 87, 0, 760), (186, 92, 0, 779), (189, 89, 0, 767), (193, 90, 0, 771), (196, 95, 0, 798), (202, 96, 0, 802), (205, 97, 0, 806), (218, 102, 0, 826), (222, 104, 0, 834), (225, 105, 0, 838), (228, 106, 0, 841), (234, 111, 0, 861), (241, 113, 0, 869), (245, 114, 0, 873), (254, 119, 0, 893)], [(7, 39, 0, 347), (15, 43, 0, 431), (21, 47, 0, 463), (25, 51, 0, 479), (29, 59, 0, 511), (32, 63, 0, 528), (35, 65, 0, 535), (38, 67, 0, 542), (41, 71, 0, 559), (44, 73, 0, 567), (47, 75, 0, 576), (50, 78, 0, 589), (53, 1, 0, 49), (56, 80, 0, 601), (57, 38, 0, 343), (62, 84, 0, 747), (63, 83, 0, 743), (67, 42, 0, 427), (70, 86, 0, 756), (71, 14, 0, 233), (74, 88, 0, 763), (75, 46, 0, 460), (77, 99, 0, 814), (78, 50, 0, 476), (81, 103, 0, 830), (82, 23, 0, 280), (86, 107, 0, 845), (87, 26, 0, 291), (90, 110, 0, 857), (91, 58, 0, 508), (93, 112, 0, 865), (94, 62, 0, 525), (96, 115, 0, 877), (97, 64, 0, 532), (99, 116, 0, 881), (100, 66, 0, 539), (102, 117, 0, 885), (103, 70, 0, 556), (105, 101, 0, 822), (106, 72, 0, 564), (108, 118, 0, 889), (109, 74, 0, 573), (111, 109, 0, 853), (112, 77, 0, 586), (114, 120, 0, 897), (115, 35, 0, 331), (118, 98, 0, 810), (119, 36, 0, 335), (122, 108, 0, 849)], []]
def zml (oc k : Nat) : Option Nat := ((zmlL.getD oc []).find? (fun q => q.1 == k)).map (fun q => q.2.1)
def zclL : List (List (Nat × (Nat ⊕ Nat) × Nat)) := [[(9, .inl 1, 55), (16, .inl 2, 74), (39, .inl 5, 167), (46, .inl 6, 189), (57, .inr 0, 352), (76, .inr 1, 439)], [], [(9, .inl 4, 81), (17, .inl 3, 83)], [], [], [], [], [], [(8, .inl 0, 47), (54, .inl 7, 599)], []]
def zcl (oc k : Nat) : Option (Nat ⊕ Nat) := ((zclL.getD oc []).find? (fun q => q.1 == k)).map (fun q => q.2.1)
def zklL : List (List (Nat × Int32 × Nat)) := [[(56, 65535, 351)], [], [], [], [], [], [], [(161, 1779033703, 783), (162, -1150833019, 784), (163, 1013904242, 785), (164, -1521486534, 786), (165, 1359893119, 787), (166, -1694144372, 788), (167, 528734635, 789), (168, 1541459225, 790), (179, 65536, 751)], [], []]
def zkl (oc k : Nat) : Option Int32 := ((zklL.getD oc []).find? (fun q => q.1 == k)).map (fun q => q.2.1)
def zkLL : List (List (Nat × Int64 × Nat)) := [[], [], [], [], [], [], [], [(74, 4794697085070296209, 605), (76, -5349999486918337627, 606), (78, 4131703405765792241, 607), (80, -7908458776882290987, 608), (86, -2880145866557793535, 617), (88, 2608012711741390275, 618), (90, 8268148720858477054, 619), (92, -7215885185376849548, 620), (94, -1973867730000001146, 621), (96, 1135362055407968716, 622), (98, 3308224257782482090, 623), (100, 6679025011744409818, 624), (102, -7476448915937442195, 625), (104, -5763719354946846777, 626), (106, -4116276917527146169, 627), (108, 489312709404862823, 628), (110, 2861767655337697592, 629), (112, 5560940570391088403, 630), (114, 7280758554198936251, 631), (116, -9096487095472345979, 632), (118, -6719396338005809589, 633), (120, -4446306890599870045, 634), (122, -3345356375510677980, 635), (124, -860691633158840208, 636), (126, 1847814047869135880, 637), (128, 2830643534987574453, 638), (130, 4115178123771292234, 639), (132, 6601373596217405427, 640), (134, 8399075790807196527, 641), (136, -8878714635704401400, 642), (138, -8016688834709263125, 643), (140, -4685533652720715534, 644)], [], []]
def zkL (oc k : Nat) : Option Int64 := ((zkLL.getD oc []).find? (fun q => q.1 == k)).map (fun q => q.2.1)
def zslL : List (List (Nat × Nat × Nat × String × String × String)) := [[], [(15, 2, 61, "ReleaseLeaves$Digester", "ROUNDS", "[I"), (21, 1, 143, "ReleaseLeaves$Digester", "START", "[I")], [], [], [], [], [], [], [], []]
def zsl (oc k : Nat) : Option Nat := ((zslL.getD oc []).find? (fun q => q.1 == k)).map (fun q => q.2.1)
def zalL : List (List (Nat × String × Nat × Nat)) := [[(16, "ReleaseLeaves$Release", 74, 75)], [], [(9, "ReleaseLeaves$StoredFile", 81, 82)], [], [], [], [], [], [], []]
def zal (oc k : Nat) : Option String := ((zalL.getD oc []).find? (fun q => q.1 == k)).map (fun q => q.2.1)
def zmuL : List (Nat × Nat × Nat) := [(3, 11, 89), (0, 23, 138)]
def zmu (oc k : Nat) : Bool := zmuL.any (fun q => q.1 == oc && q.2.1 == k)
def zobL : List (Nat × Nat × Nat) := [(0, 3, 52), (1, 3, 60), (2, 3, 80), (3, 3, 88), (4, 3, 105), (5, 3, 172), (6, 3, 194), (7, 1, 604)]
def zob (oc k : Nat) : Bool := zobL.any (fun q => q.1 == oc && q.2.1 == k)
def zacL : List (Nat × Nat × Nat) := [(1, 24, 145), (3, 54, 274)]
def zac (oc k : Nat) : Bool := zacL.any (fun q => q.1 == oc && q.2.1 == k)
def zmnL : List (Nat × Nat × Nat) := [(1, 44, 261)]
def zmn (oc k : Nat) : Bool := zmnL.any (fun q => q.1 == oc && q.2.1 == k)
def zxlL : List (List (Nat × Nat × Nat)) := [[(61, 0, 393), (80, 1, 449)], [], [], [], [], [], [], [], [], []]
def zxl (oc k : Nat) : Option Nat := ((zxlL.getD oc []).find? (fun q => q.1 == k)).map (fun q => q.2.1)
def zxcL : List (List (Nat × Nat × Nat)) := [[], [], [], [], [], [], [], [], [(13, 0, 346), (19, 1, 430)], []]
/-- what a handler catches -/
def zxc (oc k : Nat) : Option Nat := ((zxcL.getD oc []).find? (fun q => q.1 == k)).map (fun q => q.2.1)
def zxsL : List (Nat × Nat × String × Nat) := [(0, 59, "no name", 392), (0, 78, "no such open file", 448), (0, 84, "no byte", 455), (0, 130, "no byte ahead of the proof", 488), (0, 153, "no person", 515), (0, 155, "no role", 516), (0, 177, "no such serial number", 546), (0, 179, "nothing such is told of an event", 547), (0, 191, "the list did not grow so", 571), (0, 193, "no byte ahead of the growth", 572), (0, 198, "no such byte of the check", 581), (0, 217, "no such release", 471), (0, 219, "no such leaf", 487), (0, 221, "no such byte of a digest", 475)]
def zxs (oc k : Nat) : Bool := zxsL.any (fun q => q.1 == oc && q.2.1 == k)
def zxnL : List String := ["java/lang/IllegalArgumentException", "java/lang/IndexOutOfBoundsException"]
def zxn (i : Nat) : String := zxnL.getD i ""
/-- where the words of a method stand: code, its class is initialised, static or (instance and selects) -/
def zmP : List (Nat × Nat × Nat × Nat) := [(0, 0, 0, 0), (51, 32, 50, 0), (59, 33, 58, 0), (79, 34, 78, 0), (87, 35, 86, 0), (104, 36, 103, 0), (142, 33, 140, 141), (151, 33, 149, 150), (155, 33, 153, 154), (159, 33, 158, 0), (162, 33, 161, 0), (166, 33, 165, 1), (171, 38, 170, 0), (193, 39, 192, 0), (236, 32, 234, 235), (240, 34, 238, 239), (244, 35, 242, 243), (249, 35, 247, 248), (254, 36, 252, 253), (260, 33, 258, 259), (268, 35, 267, 2), (273, 33, 271, 272), (279, 35, 277, 278), (283, 32, 281, 282), (286, 32, 285, 0), (290, 39, 288, 289), (294, 32, 292, 293), (298, 39, 296, 297), (302, 39, 300, 301), (306, 39, 305, 3), (310, 39, 309, 4), (314, 39, 312, 313), (318, 39, 316, 317), (326, 39, 325, 5), (330, 32, 329, 0), (334, 32, 332, 333), (338, 32, 336, 337), (342, 39, 340, 341), (345, 31, 344, 0), (350, 32, 348, 349), (422, 34, 420, 421), (426, 34, 424, 425), (429, 31, 428, 0), (434, 32, 432, 433), (438, 34, 436, 437), (459, 36, 457, 458), (462, 31, 461, 0), (466, 32, 464, 465), (470, 32, 469, 7), (474, 32, 473, 0), (478, 31, 477, 0), (482, 32, 480, 481), (486, 32, 485, 8), (492, 35, 490, 491), (496, 35, 495, 9), (500, 35, 499, 10), (503, 35, 502, 0), (507, 35, 506, 11), (510, 31, 509, 0), (514, 32, 512, 513), (520, 38, 518, 519), (524, 34, 522, 523), (527, 31, 526, 0), (531, 32, 529, 530), (534, 31, 533, 0), (538, 32, 536, 537), (541, 31, 540, 0), (545, 32, 543, 544), (551, 38, 549, 550), (555, 38, 553, 554), (558, 31, 557, 0), (562, 32, 560, 561), (566, 31, 565, 0), (570, 32, 568, 569), (575, 31, 574, 0), (579, 32, 577, 578), (585, 39, 583, 584), (588, 31, 587, 0), (592, 32, 590, 591), (597, 36, 595, 596), (603, 40, 602, 0), (612, 40, 611, 12), (616, 40, 615, 13), (746, 40, 744, 745), (750, 40, 748, 749), (755, 40, 754, 14), (759, 40, 757, 758), (762, 40, 761, 0), (766, 40, 764, 765), (770, 40, 769, 15), (774, 40, 773, 16), (778, 40, 777, 17), (782, 40, 781, 18), (794, 40, 793, 19), (797, 40, 796, 0), (801, 40, 800, 20), (805, 40, 804, 21), (809, 40, 808, 22), (813, 40, 811, 812), (817, 40, 815, 816), (821, 40, 820, 23), (825, 40, 823, 824), (829, 40, 828, 24), (833, 40, 831, 832), (837, 40, 836, 25), (840, 40, 839, 0), (844, 40, 843, 26), (848, 40, 846, 847), (852, 40, 850, 851), (856, 40, 854, 855), (860, 40, 858, 859), (864, 40, 863, 27), (868, 40, 866, 867), (872, 40, 871, 28), (876, 40, 875, 29), (880, 40, 878, 879), (884, 40, 882, 883), (888, 40, 886, 887), (892, 40, 890, 891), (896, 40, 895, 30), (900, 40, 898, 899)]
/-- the addresses: 0 the script (L ints), 1 and 2 the two static arrays, then what the law makes, in order -/
abbrev zS : Nat := 3
abbrev zTop : Nat := 646
def zK54 (k : Nat) : Option ((FieldType × Nat) ⊕ Nat) :=
  if k < 3 then (if k = 0 then some (.inr 2) else if k = 1 then some (.inl (.object "ReleaseLeaves$StoredFile", 8)) else some (.inr 3))
  else if k < 36 then (if k = 3 then some (.inl (.array .int, 32)) else some (.inl (.int, 32)))
  else if k < 38 then (if k = 36 then some (.inl (.int, 4)) else some (.inl (.int, 16)))
  else if k % 2 = 0 then some (.inr 4) else some (.inl (.int, 64))
def zKhL : List ((FieldType × Nat) ⊕ Nat) := [.inr 0, .inr 1, .inl (.int, 8), .inl (.int, 64), .inl (.object "ReleaseLeaves$Release", 11)]
def zKtL : List ((FieldType × Nat) ⊕ Nat) := [.inl (.int, 60), .inr 5, .inl (.int, 100), .inl (.int, 100), .inl (.int, 100), .inl (.int, 100), .inr 6, .inl (.int, 300), .inl (.int, 32), .inr 7, .inl (.int, 64), .inl (.int, 512), .inl (.int, 64), .inl (.int, 8), .inl (.int, 8), .inl (.int, 32), .inl (.int, 11), .inl (.int, 88), .inl (.int, 88), .inl (.int, 5632), .inl (.int, 2560), .inl (.int, 320), .inl (.int, 256), .inl (.int, 300), .inl (.int, 160), .inl (.boolean, 10), .inl (.int, 60), .inl (.int, 100), .inl (.int, 100), .inl (.int, 100), .inl (.int, 100), .inl (.long, 1)]
/-- the kinds of the cells, by their addresses -/
def zK (L a : Nat) : Option ((FieldType × Nat) ⊕ Nat) :=
  if a < 3 then (if a = 0 then some (.inl (.int, L)) else if a = 1 then some (.inl (.int, 8)) else some (.inl (.int, 64)))
  else if a < 8 then zKhL[a - 3]?
  else if a < 602 then zK54 ((a - 8) % 54)
  else if a < 614 then (if a = 602 then some (.inl (.array .int, 11)) else some (.inl (.int, 32)))
  else zKtL[a - 614]?
/-! what the tables say is said by the words: by places -/
def zgw (w : Cond) : Bool := goodWord w || (match w with
  | .fieldLinkNest .. => true
  | .methodLinkNest .. => true
  | .arrayOver _ => true
  | _ => false)
def zws : List Cond := lw_tbl.filter zgw
def zat0 (p : Nat) (w : Cond) : Bool := decide (lw_tbl[p]? = some w) && zgw w
theorem zin {p : Nat} {w : Cond} (h : zat0 p w = true) : w ∈ zws := by
  unfold zat0 at h
  rw [Bool.and_eq_true, decide_eq_true_eq] at h
  exact List.mem_filter.mpr ⟨List.mem_of_getElem? h.1, h.2⟩
end
section
/-! the tables are the words' -/
theorem zall {α : Type} {n : Nat} {T : List (List α)} {C : Nat → α → Bool} (h : (List.range n).all (fun oc => (T.getD oc []).all (C oc)) = true) (hn : T.length ≤ n) {oc : Nat} {q : α} (hq : q ∈ T.getD oc []) : C oc q = true := by
  have hlt : oc < T.length := by
    refine Nat.lt_of_not_le (fun hge => ?_)
    rw [List.getD_eq_getElem?_getD, List.getElem?_eq_none hge] at hq
    exact absurd hq List.not_mem_nil
  have h1 := List.all_eq_true.mp h oc (List.mem_range.mpr (Nat.lt_of_lt_of_le hlt hn))
  exact List.all_eq_true.mp h1 q hq
theorem zfind {α β : Type} {l : List α} {p : α → Bool} {f : α → β} {b : β} (h : (l.find? p).map f = some b) : ∃ q, q ∈ l ∧ p q = true ∧ f q = b := by
  obtain ⟨q, hq, e⟩ := Option.map_eq_some_iff.mp h
  exact ⟨q, List.mem_of_find?_eq_some hq, List.find?_some hq, e⟩
def zflC (oc : Nat) (q : Nat × Nat × Nat × Nat × Nat) : Bool :=
  (decide (q.2.1 < zNc) && decide (q.2.2.1 < zfN q.2.1)) && (if q.2.2.2.1 = 0 then zat0 q.2.2.2.2 (.fieldLink (zcn oc) q.1 (zfT q.2.1 q.2.2.1).1 (zfT q.2.1 q.2.2.1).2.1 (zfT q.2.1 q.2.2.1).2.2.1) else zat0 q.2.2.2.2 (.fieldLinkNest (zcn oc) q.1 (zfT q.2.1 q.2.2.1).1 (zfT q.2.1 q.2.2.1).2.1 (zfT q.2.1 q.2.2.1).2.2.1 "ReleaseLeaves"))
theorem zfl_all : (List.range 10).all (fun oc => (zflL.getD oc []).all (zflC oc)) = true := by decide +kernel
theorem zfl_ok {oc k ci f : Nat} (h : zfl oc k = some (ci, f)) : Cond.fieldLink (zcn oc) k (zfT ci f).1 (zfT ci f).2.1 (zfT ci f).2.2.1 ∈ zws ∨ ∃ host, Cond.fieldLinkNest (zcn oc) k (zfT ci f).1 (zfT ci f).2.1 (zfT ci f).2.2.1 host ∈ zws := by
  obtain ⟨q, hq, hk, e⟩ := zfind h
  have hc := zall zfl_all (by decide) hq
  cases e
  have hk' : q.1 = k := by simpa using hk
  subst hk'
  unfold zflC at hc
  rw [Bool.and_eq_true] at hc
  have h2 := hc.2
  split at h2
  · exact Or.inl (zin h2)
  · exact Or.inr ⟨_, zin h2⟩
theorem zfl_lt {oc k ci f : Nat} (h : zfl oc k = some (ci, f)) : ci < zNc ∧ f < zfN ci := by
  obtain ⟨q, hq, hk, e⟩ := zfind h
  have hc := zall zfl_all (by decide) hq
  cases e
  unfold zflC at hc
  rw [Bool.and_eq_true, Bool.and_eq_true, decide_eq_true_eq, decide_eq_true_eq] at hc
  exact hc.1
theorem zcls_at : ∀ ci, ci < zNc → zcls[ci]? = some (zcn ci, zfT ci, zfN ci) := by
  intro ci h
  match ci, h with
  | 0, _ => rfl
  | 1, _ => rfl
  | 2, _ => rfl
  | 3, _ => rfl
  | 4, _ => rfl
  | 5, _ => rfl
  | 6, _ => rfl
  | 7, _ => rfl
  | n + 8, h => exact absurd (show n + 8 < 8 from h) (by omega)
theorem zlay_all : (List.range zNc).all (fun ci => (List.range (zfN ci)).all (fun k => zat0 ((zlayP.getD ci []).getD k 0) (u_lay (zcn ci) (zfT ci) k))) = true := by decide +kernel
theorem zlay : ∀ ci, ci < zNc → ∀ w ∈ u_ws (zcn ci) (zfT ci) (zfN ci), w ∈ zws := by
  intro ci hci w hw
  obtain ⟨k, hk, rfl⟩ := List.mem_map.mp hw
  exact zin (List.all_eq_true.mp (List.all_eq_true.mp zlay_all ci (List.mem_range.mpr hci)) k hk)
theorem zty_all : (List.range zNc).all (fun ci => (List.range (zfN ci)).all (fun k => decide (parseFieldDescriptor (zfT ci k).2.2.1 = some (zft ci k)) && decide ((zfT ci k).1 = zcn ci))) = true := by decide +kernel
theorem zty_ok : ∀ ci, ci < zNc → ∀ k, k < zfN ci → parseFieldDescriptor (zfT ci k).2.2.1 = some (zft ci k) := by
  intro ci hci k hk
  have h := List.all_eq_true.mp (List.all_eq_true.mp zty_all ci (List.mem_range.mpr hci)) k (List.mem_range.mpr hk)
  rw [Bool.and_eq_true, decide_eq_true_eq] at h
  exact h.1
theorem zdecl : ∀ ci, ci < zNc → ∀ k, k < zfN ci → (zfT ci k).1 = zcn ci := by
  intro ci hci k hk
  have h := List.all_eq_true.mp (List.all_eq_true.mp zty_all ci (List.mem_range.mpr hci)) k (List.mem_range.mpr hk)
  rw [Bool.and_eq_true, decide_eq_true_eq, decide_eq_true_eq] at h
  exact h.2
theorem znm_all : (List.range zNc).all (fun ci => (List.range (zfN ci)).all (fun a => (List.range (zfN ci)).all (fun b => decide (a = b) || !decide ((zfT ci a).2.1 = (zfT ci b).2.1)))) = true := by decide +kernel
theorem znm_ok : ∀ ci, ci < zNc → ∀ a, a < zfN ci → ∀ b, b < zfN ci → a ≠ b → (zfT ci a).2.1 ≠ (zfT ci b).2.1 := by
  intro ci hci a ha b hb hne
  have h := List.all_eq_true.mp (List.all_eq_true.mp (List.all_eq_true.mp znm_all ci (List.mem_range.mpr hci)) a (List.mem_range.mpr ha)) b (List.mem_range.mpr hb)
  simpa [hne] using h
def zftok (t : FieldType) : Bool := match t with
  | .int => true | .boolean => true | .long => true | .object _ => true | .array _ => true | _ => false
theorem zft_all : (List.range zNc).all (fun ci => (List.range (zfN ci)).all (fun k => zftok (zft ci k))) = true := by decide +kernel
theorem zft_ok : ∀ ci, ci < zNc → ∀ k, k < zfN ci → zftok (zft ci k) = true := by
  intro ci hci k hk
  exact List.all_eq_true.mp (List.all_eq_true.mp zft_all ci (List.mem_range.mpr hci)) k (List.mem_range.mpr hk)
theorem zkl_all : (List.range 10).all (fun oc => (zklL.getD oc []).all (fun q => zat0 q.2.2 (.constant (zcn oc) q.1 q.2.1))) = true := by decide +kernel
theorem zkl_ok {oc k : Nat} {v : Int32} (h : zkl oc k = some v) : Cond.constant (zcn oc) k v ∈ zws := by
  obtain ⟨q, hq, hk, e⟩ := zfind h
  have hc := zall zkl_all (by decide) hq
  cases e
  have hk' : q.1 = k := by simpa using hk
  subst hk'
  exact zin hc
theorem zkL_all : (List.range 10).all (fun oc => (zkLL.getD oc []).all (fun q => zat0 q.2.2 (.constantLong (zcn oc) q.1 q.2.1))) = true := by decide +kernel
theorem zkL_ok {oc k : Nat} {v : Int64} (h : zkL oc k = some v) : Cond.constantLong (zcn oc) k v ∈ zws := by
  obtain ⟨q, hq, hk, e⟩ := zfind h
  have hc := zall zkL_all (by decide) hq
  cases e
  have hk' : q.1 = k := by simpa using hk
  subst hk'
  exact zin hc
/-- instantiable, initialised: of an own class -/
def zinsP : List (Nat × Nat) := [(48, 32), (56, 33), (76, 34), (84, 35), (101, 36), (168, 38), (190, 39), (600, 40)]
theorem zins_all : (List.range zNc).all (fun ci => zat0 (zinsP.getD ci (0, 0)).1 (.instantiable (zcn ci) (zfN ci)) && zat0 (zinsP.getD ci (0, 0)).2 (.initialized (zcn ci))) = true := by decide +kernel
def zclC (oc : Nat) (q : Nat × (Nat ⊕ Nat) × Nat) : Bool := match q.2.1 with
  | .inl ci => decide (ci < zNc) && zat0 q.2.2 (.classLink (zcn oc) q.1 (zcn ci))
  | .inr x => zat0 q.2.2 (.classLink (zcn oc) q.1 (zxn x))
theorem zcl_all : (List.range 10).all (fun oc => (zclL.getD oc []).all (zclC oc)) = true := by decide +kernel
theorem zcl_ok {oc k ci : Nat} (h : zcl oc k = some (.inl ci)) : ci < zNc ∧ Cond.classLink (zcn oc) k (zcn ci) ∈ zws ∧ Cond.instantiable (zcn ci) (zfN ci) ∈ zws ∧ Cond.initialized (zcn ci) ∈ zws := by
  obtain ⟨q, hq, hk, e⟩ := zfind h
  have hc := zall zcl_all (by decide) hq
  have hk' : q.1 = k := by simpa using hk
  subst hk'
  unfold zclC at hc
  rw [e] at hc
  rw [Bool.and_eq_true, decide_eq_true_eq] at hc
  have h2 := List.all_eq_true.mp zins_all ci (List.mem_range.mpr hc.1)
  rw [Bool.and_eq_true] at h2
  exact ⟨hc.1, zin hc.2, zin h2.1, zin h2.2⟩
theorem zclx_ok {oc k x : Nat} (h : zcl oc k = some (.inr x)) : Cond.classLink (zcn oc) k (zxn x) ∈ zws := by
  obtain ⟨q, hq, hk, e⟩ := zfind h
  have hc := zall zcl_all (by decide) hq
  have hk' : q.1 = k := by simpa using hk
  subst hk'
  unfold zclC at hc
  rw [e] at hc
  exact zin hc
theorem zal_all : (List.range 10).all (fun oc => (zalL.getD oc []).all (fun q => zat0 q.2.2.1 (.classLink (zcn oc) q.1 q.2.1) && zat0 q.2.2.2 (.arrayOver (.object q.2.1)))) = true := by decide +kernel
theorem zal_ok {oc k : Nat} {A : String} (h : zal oc k = some A) : Cond.classLink (zcn oc) k A ∈ zws ∧ Cond.arrayOver (.object A) ∈ zws := by
  obtain ⟨q, hq, hk, e⟩ := zfind h
  have hc := zall zal_all (by decide) hq
  cases e
  have hk' : q.1 = k := by simpa using hk
  subst hk'
  rw [Bool.and_eq_true] at hc
  exact ⟨zin hc.1, zin hc.2⟩
theorem zany {l : List (Nat × Nat × Nat)} {C : Nat × Nat × Nat → Bool} (h : l.all C = true) {oc k : Nat} (ha : l.any (fun q => q.1 == oc && q.2.1 == k) = true) : ∃ p, C (oc, k, p) = true := by
  obtain ⟨q, hq, e⟩ := List.any_eq_true.mp ha
  obtain ⟨a, b, p⟩ := q
  simp only [Bool.and_eq_true, beq_iff_eq] at e
  obtain ⟨rfl, rfl⟩ := e
  exact ⟨p, List.all_eq_true.mp h _ hq⟩
theorem zmu_all : zmuL.all (fun q => zat0 q.2.2 (.classLink (zcn q.1) q.2.1 "[[I")) = true := by decide +kernel
theorem zmu_ok {oc k : Nat} (h : zmu oc k = true) : Cond.classLink (zcn oc) k "[[I" ∈ zws := by
  obtain ⟨p, hp⟩ := zany zmu_all h
  exact zin hp
theorem zarr_all : ((zat0 90 (.arrayOver (.array .int)) && zat0 73 (.arrayClass .int)) && (zat0 742 (.arrayClass .boolean) && zat0 901 (.arrayClass .long))) = true := by decide +kernel
theorem zarr_ok : (Cond.arrayOver (.array .int) ∈ zws ∧ Cond.arrayClass .int ∈ zws) ∧ (Cond.arrayClass .boolean ∈ zws ∧ Cond.arrayClass .long ∈ zws) := by
  have h := zarr_all
  rw [Bool.and_eq_true, Bool.and_eq_true, Bool.and_eq_true] at h
  exact ⟨⟨zin h.1.1, zin h.1.2⟩, zin h.2.1, zin h.2.2⟩
theorem zob_all : (zobL.all (fun q => zat0 q.2.2 (.methodLink (zcn q.1) q.2.1 objectInit)) && (zat0 53 (.instanceMethod objectInit) && zat0 54 (.code objectInit ⟨#[0xb1]⟩ 1 none))) = true := by decide +kernel
theorem zob_ok {oc k : Nat} (h : zob oc k = true) : Cond.methodLink (zcn oc) k objectInit ∈ zws ∧ Cond.instanceMethod objectInit ∈ zws ∧ Cond.code objectInit ⟨#[0xb1]⟩ 1 none ∈ zws := by
  have ha := zob_all
  rw [Bool.and_eq_true, Bool.and_eq_true] at ha
  obtain ⟨p, hp⟩ := zany ha.1 h
  exact ⟨zin hp, zin ha.2.1, zin ha.2.2⟩
theorem zac_all : (zacL.all (fun q => zat0 q.2.2 (.methodLink (zcn q.1) q.2.1 arraycopyName)) && ((zat0 147 (.native arraycopyName) && zat0 146 (.static arraycopyName)) && zat0 37 (.initialized "java/lang/System"))) = true := by decide +kernel
theorem zac_ok {oc k : Nat} (h : zac oc k = true) : Cond.methodLink (zcn oc) k arraycopyName ∈ zws ∧ Cond.native arraycopyName ∈ zws ∧ Cond.static arraycopyName ∈ zws ∧ Cond.initialized "java/lang/System" ∈ zws := by
  have ha := zac_all
  rw [Bool.and_eq_true, Bool.and_eq_true, Bool.and_eq_true] at ha
  obtain ⟨p, hp⟩ := zany ha.1 h
  exact ⟨zin hp, zin ha.2.1.1, zin ha.2.1.2, zin ha.2.2⟩
def zmlC (oc : Nat) (q : Nat × Nat × Nat × Nat) : Bool :=
  decide (q.2.1 < zNm) && (if q.2.2.1 = 0 then zat0 q.2.2.2 (.methodLink (zcn oc) q.1 (zy q.2.1)) else zat0 q.2.2.2 (.methodLinkNest (zcn oc) q.1 (zy q.2.1) "ReleaseLeaves"))
theorem zml_all : (List.range 10).all (fun oc => (zmlL.getD oc []).all (zmlC oc)) = true := by decide +kernel
theorem zml_ok {oc k mj : Nat} (h : zml oc k = some mj) : mj < zNm ∧ (Cond.methodLink (zcn oc) k (zy mj) ∈ zws ∨ ∃ host, Cond.methodLinkNest (zcn oc) k (zy mj) host ∈ zws) := by
  obtain ⟨q, hq, hk, e⟩ := zfind h
  have hc := zall zml_all (by decide) hq
  cases e
  have hk' : q.1 = k := by simpa using hk
  subst hk'
  unfold zmlC at hc
  rw [Bool.and_eq_true, decide_eq_true_eq] at hc
  refine ⟨hc.1, ?_⟩
  have h2 := hc.2
  split at h2
  · exact Or.inl (zin h2)
  · exact Or.inr ⟨_, zin h2⟩
/-- the words of a method (not of the law itself), but for its code -/
def zmC (mj : Nat) : Bool :=
  zat0 (zmP.getD mj (0, 0, 0, 0)).2.1 (.initialized (zy mj).cls) &&
  ((if zat mj = true then zat0 (zmP.getD mj (0, 0, 0, 0)).2.2.1 (.static (zy mj)) else (zat0 (zmP.getD mj (0, 0, 0, 0)).2.2.1 (.instanceMethod (zy mj)) && (decide ((zy mj).name = "<init>") || zat0 (zmP.getD mj (0, 0, 0, 0)).2.2.2 (.selects (zy mj).cls (zy mj) (zy mj))))) &&
   (decide ((zy mj).cls = zcn (zoc mj)) && decide ((parseMethodDescriptor (zy mj).desc).map (fun d => d.parameters.length) = some (znp mj)) && Jvm.plainName (zy mj).cls && decide ((zy mj).cls ≠ "java/lang/invoke/MethodHandle" ∧ (zy mj).cls ≠ "java/lang/invoke/VarHandle")))
theorem zm_all : ((List.range zNm).drop 1).all zmC = true := by decide +kernel
theorem zm_ok {mj : Nat} (h0 : mj ≠ 0) (h : mj < zNm) : zmC mj = true := by
  refine List.all_eq_true.mp zm_all mj ?_
  obtain ⟨k, rfl⟩ : ∃ k, mj = k + 1 := ⟨mj - 1, by omega⟩
  refine List.mem_of_getElem? (i := k) ?_
  rw [List.getElem?_drop, List.getElem?_range (by omega)]
  congr 1; omega
theorem zmn_all : (zmnL.all (fun q => zat0 q.2.2 (.methodLink (zcn q.1) q.2.1 Lib.Math.min.name)) && ((zat0 262 (.static Lib.Math.min.name) && zat0 46 (.initialized "java/lang/Math")) && zat0 263 (.code Lib.Math.min.name Lib.Math.min.code 2 (some .int)))) = true := by decide +kernel
theorem zmn_ok {oc k : Nat} (h : zmn oc k = true) : Cond.methodLink (zcn oc) k Lib.Math.min.name ∈ zws ∧ Cond.static Lib.Math.min.name ∈ zws ∧ Cond.initialized "java/lang/Math" ∈ zws ∧ Cond.code Lib.Math.min.name Lib.Math.min.code 2 (some .int) ∈ zws := by
  have ha := zmn_all
  rw [Bool.and_eq_true, Bool.and_eq_true, Bool.and_eq_true] at ha
  obtain ⟨p, hp⟩ := zany ha.1 h
  exact ⟨zin hp, zin ha.2.1.1, zin ha.2.1.2, zin ha.2.2⟩
end
section
/-! the codes of the methods, by program -/
theorem zco_1 : lw_tbl[51]? = some (Cond.code (zy 1) (zcd 1) (zmx 1) (zrt 1)) := by decide +kernel
theorem zco_2 : lw_tbl[59]? = some (Cond.code (zy 2) (zcd 2) (zmx 2) (zrt 2)) := by decide +kernel
theorem zco_3 : lw_tbl[79]? = some (Cond.code (zy 3) (zcd 3) (zmx 3) (zrt 3)) := by decide +kernel
theorem zco_4 : lw_tbl[87]? = some (Cond.code (zy 4) (zcd 4) (zmx 4) (zrt 4)) := by decide +kernel
theorem zco_5 : lw_tbl[104]? = some (Cond.code (zy 5) (zcd 5) (zmx 5) (zrt 5)) := by decide +kernel
theorem zco_6 : lw_tbl[142]? = some (Cond.code (zy 6) (zcd 6) (zmx 6) (zrt 6)) := by decide +kernel
theorem zco_7 : lw_tbl[151]? = some (Cond.code (zy 7) (zcd 7) (zmx 7) (zrt 7)) := by decide +kernel
theorem zco_8 : lw_tbl[155]? = some (Cond.code (zy 8) (zcd 8) (zmx 8) (zrt 8)) := by decide +kernel
theorem zco_9 : lw_tbl[159]? = some (Cond.code (zy 9) (zcd 9) (zmx 9) (zrt 9)) := by decide +kernel
theorem zco_10 : lw_tbl[162]? = some (Cond.code (zy 10) (zcd 10) (zmx 10) (zrt 10)) := by decide +kernel
theorem zco_11 : lw_tbl[166]? = some (Cond.code (zy 11) (zcd 11) (zmx 11) (zrt 11)) := by decide +kernel
theorem zco_12 : lw_tbl[171]? = some (Cond.code (zy 12) (zcd 12) (zmx 12) (zrt 12)) := by decide +kernel
theorem zco_13 : lw_tbl[193]? = some (Cond.code (zy 13) (zcd 13) (zmx 13) (zrt 13)) := by decide +kernel
theorem zco_14 : lw_tbl[236]? = some (Cond.code (zy 14) (zcd 14) (zmx 14) (zrt 14)) := by decide +kernel
theorem zco_15 : lw_tbl[240]? = some (Cond.code (zy 15) (zcd 15) (zmx 15) (zrt 15)) := by decide +kernel
theorem zco_16 : lw_tbl[244]? = some (Cond.code (zy 16) (zcd 16) (zmx 16) (zrt 16)) := by decide +kernel
theorem zco_17 : lw_tbl[249]? = some (Cond.code (zy 17) (zcd 17) (zmx 17) (zrt 17)) := by decide +kernel
theorem zco_18 : lw_tbl[254]? = some (Cond.code (zy 18) (zcd 18) (zmx 18) (zrt 18)) := by decide +kernel
theorem zco_19 : lw_tbl[260]? = some (Cond.code (zy 19) (zcd 19) (zmx 19) (zrt 19)) := by decide +kernel
theorem zco_20 : lw_tbl[268]? = some (Cond.code (zy 20) (zcd 20) (zmx 20) (zrt 20)) := by decide +kernel
theorem zco_21 : lw_tbl[273]? = some (Cond.code (zy 21) (zcd 21) (zmx 21) (zrt 21)) := by decide +kernel
theorem zco_22 : lw_tbl[279]? = some (Cond.code (zy 22) (zcd 22) (zmx 22) (zrt 22)) := by decide +kernel
theorem zco_23 : lw_tbl[283]? = some (Cond.code (zy 23) (zcd 23) (zmx 23) (zrt 23)) := by decide +kernel
theorem zco_24 : lw_tbl[286]? = some (Cond.code (zy 24) (zcd 24) (zmx 24) (zrt 24)) := by decide +kernel
theorem zco_25 : lw_tbl[290]? = some (Cond.code (zy 25) (zcd 25) (zmx 25) (zrt 25)) := by decide +kernel
theorem zco_26 : lw_tbl[294]? = some (Cond.code (zy 26) (zcd 26) (zmx 26) (zrt 26)) := by decide +kernel
theorem zco_27 : lw_tbl[298]? = some (Cond.code (zy 27) (zcd 27) (zmx 27) (zrt 27)) := by decide +kernel
theorem zco_28 : lw_tbl[302]? = some (Cond.code (zy 28) (zcd 28) (zmx 28) (zrt 28)) := by decide +kernel
theorem zco_29 : lw_tbl[306]? = some (Cond.code (zy 29) (zcd 29) (zmx 29) (zrt 29)) := by decide +kernel
theorem zco_30 : lw_tbl[310]? = some (Cond.code (zy 30) (zcd 30) (zmx 30) (zrt 30)) := by decide +kernel
theorem zco_31 : lw_tbl[314]? = some (Cond.code (zy 31) (zcd 31) (zmx 31) (zrt 31)) := by decide +kernel
theorem zco_32 : lw_tbl[318]? = some (Cond.code (zy 32) (zcd 32) (zmx 32) (zrt 32)) := by decide +kernel
theorem zco_33 : lw_tbl[326]? = some (Cond.code (zy 33) (zcd 33) (zmx 33) (zrt 33)) := by decide +kernel
theorem zco_34 : lw_tbl[330]? = some (Cond.code (zy 34) (zcd 34) (zmx 34) (zrt 34)) := by decide +kernel
theorem zco_35 : lw_tbl[334]? = some (Cond.code (zy 35) (zcd 35) (zmx 35) (zrt 35)) := by decide +kernel
theorem zco_36 : lw_tbl[338]? = some (Cond.code (zy 36) (zcd 36) (zmx 36) (zrt 36)) := by decide +kernel
theorem zco_37 : lw_tbl[342]? = some (Cond.code (zy 37) (zcd 37) (zmx 37) (zrt 37)) := by decide +kernel
theorem zco_38 : lw_tbl[345]? = some (Cond.codeWith (zy 38) (zcd 38) (zmx 38) (zrt 38) (zhd 38)) := by decide +kernel
theorem zco_39 : lw_tbl[350]? = some (Cond.code (zy 39) (zcd 39) (zmx 39) (zrt 39)) := by decide +kernel
theorem zco_40 : lw_tbl[422]? = some (Cond.code (zy 40) (zcd 40) (zmx 40) (zrt 40)) := by decide +kernel
theorem zco_41 : lw_tbl[426]? = some (Cond.code (zy 41) (zcd 41) (zmx 41) (zrt 41)) := by decide +kernel
theorem zco_42 : lw_tbl[429]? = some (Cond.codeWith (zy 42) (zcd 42) (zmx 42) (zrt 42) (zhd 42)) := by decide +kernel
theorem zco_43 : lw_tbl[434]? = some (Cond.code (zy 43) (zcd 43) (zmx 43) (zrt 43)) := by decide +kernel
theorem zco_44 : lw_tbl[438]? = some (Cond.code (zy 44) (zcd 44) (zmx 44) (zrt 44)) := by decide +kernel
theorem zco_45 : lw_tbl[459]? = some (Cond.code (zy 45) (zcd 45) (zmx 45) (zrt 45)) := by decide +kernel
theorem zco_46 : lw_tbl[462]? = some (Cond.codeWith (zy 46) (zcd 46) (zmx 46) (zrt 46) (zhd 46)) := by decide +kernel
theorem zco_47 : lw_tbl[466]? = some (Cond.code (zy 47) (zcd 47) (zmx 47) (zrt 47)) := by decide +kernel
theorem zco_48 : lw_tbl[470]? = some (Cond.code (zy 48) (zcd 48) (zmx 48) (zrt 48)) := by decide +kernel
theorem zco_49 : lw_tbl[474]? = some (Cond.code (zy 49) (zcd 49) (zmx 49) (zrt 49)) := by decide +kernel
theorem zco_50 : lw_tbl[478]? = some (Cond.codeWith (zy 50) (zcd 50) (zmx 50) (zrt 50) (zhd 50)) := by decide +kernel
theorem zco_51 : lw_tbl[482]? = some (Cond.code (zy 51) (zcd 51) (zmx 51) (zrt 51)) := by decide +kernel
theorem zco_52 : lw_tbl[486]? = some (Cond.code (zy 52) (zcd 52) (zmx 52) (zrt 52)) := by decide +kernel
theorem zco_53 : lw_tbl[492]? = some (Cond.code (zy 53) (zcd 53) (zmx 53) (zrt 53)) := by decide +kernel
theorem zco_54 : lw_tbl[496]? = some (Cond.code (zy 54) (zcd 54) (zmx 54) (zrt 54)) := by decide +kernel
theorem zco_55 : lw_tbl[500]? = some (Cond.code (zy 55) (zcd 55) (zmx 55) (zrt 55)) := by decide +kernel
theorem zco_56 : lw_tbl[503]? = some (Cond.code (zy 56) (zcd 56) (zmx 56) (zrt 56)) := by decide +kernel
theorem zco_57 : lw_tbl[507]? = some (Cond.code (zy 57) (zcd 57) (zmx 57) (zrt 57)) := by decide +kernel
theorem zco_58 : lw_tbl[510]? = some (Cond.codeWith (zy 58) (zcd 58) (zmx 58) (zrt 58) (zhd 58)) := by decide +kernel
theorem zco_59 : lw_tbl[514]? = some (Cond.code (zy 59) (zcd 59) (zmx 59) (zrt 59)) := by decide +kernel
theorem zco_60 : lw_tbl[520]? = some (Cond.code (zy 60) (zcd 60) (zmx 60) (zrt 60)) := by decide +kernel
theorem zco_61 : lw_tbl[524]? = some (Cond.code (zy 61) (zcd 61) (zmx 61) (zrt 61)) := by decide +kernel
theorem zco_62 : lw_tbl[527]? = some (Cond.codeWith (zy 62) (zcd 62) (zmx 62) (zrt 62) (zhd 62)) := by decide +kernel
theorem zco_63 : lw_tbl[531]? = some (Cond.code (zy 63) (zcd 63) (zmx 63) (zrt 63)) := by decide +kernel
theorem zco_64 : lw_tbl[534]? = some (Cond.codeWith (zy 64) (zcd 64) (zmx 64) (zrt 64) (zhd 64)) := by decide +kernel
theorem zco_65 : lw_tbl[538]? = some (Cond.code (zy 65) (zcd 65) (zmx 65) (zrt 65)) := by decide +kernel
theorem zco_66 : lw_tbl[541]? = some (Cond.codeWith (zy 66) (zcd 66) (zmx 66) (zrt 66) (zhd 66)) := by decide +kernel
theorem zco_67 : lw_tbl[545]? = some (Cond.code (zy 67) (zcd 67) (zmx 67) (zrt 67)) := by decide +kernel
theorem zco_68 : lw_tbl[551]? = some (Cond.code (zy 68) (zcd 68) (zmx 68) (zrt 68)) := by decide +kernel
theorem zco_69 : lw_tbl[555]? = some (Cond.code (zy 69) (zcd 69) (zmx 69) (zrt 69)) := by decide +kernel
theorem zco_70 : lw_tbl[558]? = some (Cond.codeWith (zy 70) (zcd 70) (zmx 70) (zrt 70) (zhd 70)) := by decide +kernel
theorem zco_71 : lw_tbl[562]? = some (Cond.code (zy 71) (zcd 71) (zmx 71) (zrt 71)) := by decide +kernel
theorem zco_72 : lw_tbl[566]? = some (Cond.codeWith (zy 72) (zcd 72) (zmx 72) (zrt 72) (zhd 72)) := by decide +kernel
theorem zco_73 : lw_tbl[570]? = some (Cond.code (zy 73) (zcd 73) (zmx 73) (zrt 73)) := by decide +kernel
theorem zco_74 : lw_tbl[575]? = some (Cond.codeWith (zy 74) (zcd 74) (zmx 74) (zrt 74) (zhd 74)) := by decide +kernel
theorem zco_75 : lw_tbl[579]? = some (Cond.code (zy 75) (zcd 75) (zmx 75) (zrt 75)) := by decide +kernel
theorem zco_76 : lw_tbl[585]? = some (Cond.code (zy 76) (zcd 76) (zmx 76) (zrt 76)) := by decide +kernel
theorem zco_77 : lw_tbl[588]? = some (Cond.codeWith (zy 77) (zcd 77) (zmx 77) (zrt 77) (zhd 77)) := by decide +kernel
theorem zco_78 : lw_tbl[592]? = some (Cond.code (zy 78) (zcd 78) (zmx 78) (zrt 78)) := by decide +kernel
theorem zco_79 : lw_tbl[597]? = some (Cond.code (zy 79) (zcd 79) (zmx 79) (zrt 79)) := by decide +kernel
theorem zco_80 : lw_tbl[603]? = some (Cond.code (zy 80) (zcd 80) (zmx 80) (zrt 80)) := by decide +kernel
theorem zco_81 : lw_tbl[612]? = some (Cond.code (zy 81) (zcd 81) (zmx 81) (zrt 81)) := by decide +kernel
theorem zco_82 : lw_tbl[616]? = some (Cond.code (zy 82) (zcd 82) (zmx 82) (zrt 82)) := by decide +kernel
theorem zco_83 : lw_tbl[746]? = some (Cond.code (zy 83) (zcd 83) (zmx 83) (zrt 83)) := by decide +kernel
theorem zco_84 : lw_tbl[750]? = some (Cond.code (zy 84) (zcd 84) (zmx 84) (zrt 84)) := by decide +kernel
theorem zco_85 : lw_tbl[755]? = some (Cond.code (zy 85) (zcd 85) (zmx 85) (zrt 85)) := by decide +kernel
theorem zco_86 : lw_tbl[759]? = some (Cond.code (zy 86) (zcd 86) (zmx 86) (zrt 86)) := by decide +kernel
theorem zco_87 : lw_tbl[762]? = some (Cond.code (zy 87) (zcd 87) (zmx 87) (zrt 87)) := by decide +kernel
theorem zco_88 : lw_tbl[766]? = some (Cond.code (zy 88) (zcd 88) (zmx 88) (zrt 88)) := by decide +kernel
theorem zco_89 : lw_tbl[770]? = some (Cond.code (zy 89) (zcd 89) (zmx 89) (zrt 89)) := by decide +kernel
theorem zco_90 : lw_tbl[774]? = some (Cond.code (zy 90) (zcd 90) (zmx 90) (zrt 90)) := by decide +kernel
theorem zco_91 : lw_tbl[778]? = some (Cond.code (zy 91) (zcd 91) (zmx 91) (zrt 91)) := by decide +kernel
theorem zco_92 : lw_tbl[782]? = some (Cond.code (zy 92) (zcd 92) (zmx 92) (zrt 92)) := by decide +kernel
theorem zco_93 : lw_tbl[794]? = some (Cond.code (zy 93) (zcd 93) (zmx 93) (zrt 93)) := by decide +kernel
theorem zco_94 : lw_tbl[797]? = some (Cond.code (zy 94) (zcd 94) (zmx 94) (zrt 94)) := by decide +kernel
theorem zco_95 : lw_tbl[801]? = some (Cond.code (zy 95) (zcd 95) (zmx 95) (zrt 95)) := by decide +kernel
theorem zco_96 : lw_tbl[805]? = some (Cond.code (zy 96) (zcd 96) (zmx 96) (zrt 96)) := by decide +kernel
theorem zco_97 : lw_tbl[809]? = some (Cond.code (zy 97) (zcd 97) (zmx 97) (zrt 97)) := by decide +kernel
theorem zco_98 : lw_tbl[813]? = some (Cond.code (zy 98) (zcd 98) (zmx 98) (zrt 98)) := by decide +kernel
theorem zco_99 : lw_tbl[817]? = some (Cond.code (zy 99) (zcd 99) (zmx 99) (zrt 99)) := by decide +kernel
theorem zco_100 : lw_tbl[821]? = some (Cond.code (zy 100) (zcd 100) (zmx 100) (zrt 100)) := by decide +kernel
theorem zco_101 : lw_tbl[825]? = some (Cond.code (zy 101) (zcd 101) (zmx 101) (zrt 101)) := by decide +kernel
theorem zco_102 : lw_tbl[829]? = some (Cond.code (zy 102) (zcd 102) (zmx 102) (zrt 102)) := by decide +kernel
theorem zco_103 : lw_tbl[833]? = some (Cond.code (zy 103) (zcd 103) (zmx 103) (zrt 103)) := by decide +kernel
theorem zco_104 : lw_tbl[837]? = some (Cond.code (zy 104) (zcd 104) (zmx 104) (zrt 104)) := by decide +kernel
theorem zco_105 : lw_tbl[840]? = some (Cond.code (zy 105) (zcd 105) (zmx 105) (zrt 105)) := by decide +kernel
theorem zco_106 : lw_tbl[844]? = some (Cond.code (zy 106) (zcd 106) (zmx 106) (zrt 106)) := by decide +kernel
theorem zco_107 : lw_tbl[848]? = some (Cond.code (zy 107) (zcd 107) (zmx 107) (zrt 107)) := by decide +kernel
theorem zco_108 : lw_tbl[852]? = some (Cond.code (zy 108) (zcd 108) (zmx 108) (zrt 108)) := by decide +kernel
theorem zco_109 : lw_tbl[856]? = some (Cond.code (zy 109) (zcd 109) (zmx 109) (zrt 109)) := by decide +kernel
theorem zco_110 : lw_tbl[860]? = some (Cond.code (zy 110) (zcd 110) (zmx 110) (zrt 110)) := by decide +kernel
theorem zco_111 : lw_tbl[864]? = some (Cond.code (zy 111) (zcd 111) (zmx 111) (zrt 111)) := by decide +kernel
theorem zco_112 : lw_tbl[868]? = some (Cond.code (zy 112) (zcd 112) (zmx 112) (zrt 112)) := by decide +kernel
theorem zco_113 : lw_tbl[872]? = some (Cond.code (zy 113) (zcd 113) (zmx 113) (zrt 113)) := by decide +kernel
theorem zco_114 : lw_tbl[876]? = some (Cond.code (zy 114) (zcd 114) (zmx 114) (zrt 114)) := by decide +kernel
theorem zco_115 : lw_tbl[880]? = some (Cond.code (zy 115) (zcd 115) (zmx 115) (zrt 115)) := by decide +kernel
theorem zco_116 : lw_tbl[884]? = some (Cond.code (zy 116) (zcd 116) (zmx 116) (zrt 116)) := by decide +kernel
theorem zco_117 : lw_tbl[888]? = some (Cond.code (zy 117) (zcd 117) (zmx 117) (zrt 117)) := by decide +kernel
theorem zco_118 : lw_tbl[892]? = some (Cond.code (zy 118) (zcd 118) (zmx 118) (zrt 118)) := by decide +kernel
theorem zco_119 : lw_tbl[896]? = some (Cond.code (zy 119) (zcd 119) (zmx 119) (zrt 119)) := by decide +kernel
theorem zco_120 : lw_tbl[900]? = some (Cond.code (zy 120) (zcd 120) (zmx 120) (zrt 120)) := by decide +kernel
end
section
/-! THE LOGICAL MACHINE: a small interpreter of the same bytecode over three tables (ints, longs, references) by address and place; its kinds of cells are fixed ahead (zK). -/
abbrev zI : Type := Nat → Nat → Int32
abbrev zJ : Type := Nat → Nat → Int64
abbrev zR : Type := Nat → Nat → Option Nat
abbrev zKd : Type := (FieldType × Nat) ⊕ Nat
abbrev zLv : Type := List (Option Value)
/-- next address, slots made so far, the three tables -/
abbrev zHp : Type := Nat × Nat × zI × zJ × zR
abbrev zOut : Type := Option Value ⊕ (Nat × Nat)
/-- goes on (pc, locals, stack, heap) | calls (method, arguments, rest of the stack, length of the instruction) | ends -/
abbrev zRes : Type := (Nat × zLv × List Value × zHp) ⊕ ((Nat × List Value × List Value × Nat) ⊕ (zOut × zHp))
def zu {α : Type} (I : Nat → Nat → α) (a k : Nat) (v : α) : Nat → Nat → α := fun b j => if b = a ∧ j = k then v else I b j
/-- a new cell's places -/
def zc {α : Type} (I : Nat → Nat → α) (a : Nat) (v : α) : Nat → Nat → α := fun b j => if b = a then v else I b j
def zn (pc : Nat) (lv : zLv) (st : List Value) (h : zHp) : Option zRes := some (.inl (pc, lv, st, h))
def zval (ty : FieldType) (h : zHp) (a k : Nat) : Value := match ty with
  | .long => .long (h.2.2.2.1 a k)
  | .object _ => va_rf (h.2.2.2.2 a k)
  | .array _ => va_rf (h.2.2.2.2 a k)
  | _ => .int (h.2.2.1 a k)
/-- what a store of v at place k of the cell a leaves, where v is of the type -/
def zput (ty : FieldType) (h : zHp) (a k : Nat) (v : Value) : Option zHp := match ty, v with
  | .long, .long x => some (h.1, h.2.1, h.2.2.1, zu h.2.2.2.1 a k x, h.2.2.2.2)
  | .object _, .ref x => some (h.1, h.2.1, h.2.2.1, h.2.2.2.1, zu h.2.2.2.2 a k (some x))
  | .object _, .null => some (h.1, h.2.1, h.2.2.1, h.2.2.2.1, zu h.2.2.2.2 a k none)
  | .array _, .ref x => some (h.1, h.2.1, h.2.2.1, h.2.2.2.1, zu h.2.2.2.2 a k (some x))
  | .array _, .null => some (h.1, h.2.1, h.2.2.1, h.2.2.2.1, zu h.2.2.2.2 a k none)
  | .int, .int x => some (h.1, h.2.1, zu h.2.2.1 a k x, h.2.2.2.1, h.2.2.2.2)
  | .boolean, .int x => if x = 0 ∨ x = 1 then some (h.1, h.2.1, zu h.2.2.1 a k x, h.2.2.2.1, h.2.2.2.2) else none
  | _, _ => none
def zcmp (c : ClassFile.Cond) (x y : Int32) : Bool := match c with
  | .eq => decide (x = y) | .ne => !decide (x = y) | .lt => decide (x < y) | .ge => decide (y ≤ x) | .gt => decide (y < x) | .le => decide (x ≤ y)
def ztake (n : Nat) (st : List Value) : Option (List Value × List Value) := if n ≤ st.length then some ((st.take n).reverse, st.drop n) else none
def zcat (vs : List Value) : Nat := (vs.map fun v => v.category).sum
/-- the kind of a cell that is there -/
def zk (L : Nat) (h : zHp) (a : Nat) : Option zKd := if a < h.1 then zK L a else none
def zjmp (pc : Nat) (off : Int) : Nat := ((pc : Int) + off).toNat
def zbin (i : Instr) (x y : Int32) : Option Int32 := match i with
  | .iadd => some (x + y) | .isub => some (x - y) | .imul => some (x * y) | .iand => some (x &&& y) | .ior => some (x ||| y) | .ixor => some (x ^^^ y)
  | .ishl => some (x <<< (y &&& 31)) | .ishr => some (x >>> (y &&& 31)) | .iushr => some ((x.toUInt32 >>> (y.toUInt32 &&& Int32.toUInt32 31)).toInt32)
  | .idiv => if y = 0 then none else some (x / y)
  | .irem => if y = 0 then none else some (x - x / y * y)
  | _ => none
/-- arrays: a load -/
def zald (L : Nat) (ty : FieldType → Bool) (h : zHp) (a : Nat) (j : Int32) : Option Value := match zk L h a with
  | some (.inl (t, n)) => if ty t = true ∧ 0 ≤ j ∧ j.toNatClampNeg < n then some (zval t h a j.toNatClampNeg) else none
  | _ => none
def zast (L : Nat) (ty : FieldType → Bool) (h : zHp) (a : Nat) (j : Int32) (v : Value) : Option zHp := match zk L h a with
  | some (.inl (t, n)) => if ty t = true ∧ 0 ≤ j ∧ j.toNatClampNeg < n ∧ zS ≤ a then zput t h a j.toNatClampNeg v else none
  | _ => none
def zisI (t : FieldType) : Bool := match t with | .int => true | _ => false
def zisZ (t : FieldType) : Bool := match t with | .boolean => true | _ => false
def zisL (t : FieldType) : Bool := match t with | .long => true | _ => false
def zisR (t : FieldType) : Bool := match t with | .object _ => true | .array _ => true | _ => false
def zo (h : Option zHp) (pc : Nat) (lv : zLv) (st : List Value) : Option zRes := match h with
  | some h => zn pc lv st h
  | none => none
/-- a new cell: its places are blank -/
def znew (h : zHp) (n : Nat) : zHp := (h.1 + 1, h.2.1 + n, zc h.2.2.1 h.1 0, zc h.2.2.2.1 h.1 0, zc h.2.2.2.2 h.1 none)
/-- n rows behind the cell a, which names them -/
def zrows (h : zHp) (n k : Nat) : zHp := (h.1 + 1 + n, h.2.1 + n + n * k, (fun b j => if h.1 ≤ b ∧ b ≤ h.1 + n then 0 else h.2.2.1 b j), (fun b j => if h.1 ≤ b ∧ b ≤ h.1 + n then 0 else h.2.2.2.1 b j),
  (fun b j => if b = h.1 then (if j < n then some (h.1 + 1 + j) else none) else if h.1 ≤ b ∧ b ≤ h.1 + n then none else h.2.2.2.2 b j))
/-- 0: an int, 1: a reference, 2: a long -/
def zld (v : Option (Option Value)) (i : Nat) : Option Value := match v, i with
  | some (some (.int x)), 0 => some (.int x)
  | some (some (.ref x)), 1 => some (.ref x)
  | some (some (.long x)), 2 => some (.long x)
  | _, _ => none
def zstv (i : Bool) (v : Value) : Bool := match v with
  | .int _ => i
  | .ref _ => !i
  | _ => false
def zpush (v : Option Value) (pc : Nat) (lv : zLv) (st : List Value) (h : zHp) : Option zRes := match v with
  | some v => zn pc lv (v :: st) h
  | none => none
/-- constants; loads; stores; array loads and stores: which kind, which place -/
def zcst (i : Instr) : Option Value := match i with
  | .iconst n => some (.int (Int32.ofInt n))
  | .bipush n => some (.int (Int8.ofInt n).toInt32)
  | .sipush n => some (.int (Int16.ofInt n).toInt32)
  | .lconst n => some (.long (Int64.ofNat (n : Nat)))
  | _ => none
def zldi (i : Instr) : Option (Nat × Nat) := match i with
  | .iload k => some (k, 0) | .iload_n k => some ((k : Nat), 0) | .aload k => some (k, 1) | .aload_n k => some ((k : Nat), 1) | .lload k => some (k, 2) | .lload_n k => some ((k : Nat), 2) | _ => none
def zsti (i : Instr) : Option (Nat × Bool) := match i with
  | .istore k => some (k, true) | .istore_n k => some ((k : Nat), true) | .astore k => some (k, false) | .astore_n k => some ((k : Nat), false) | _ => none
def zaldi (i : Instr) : Option (FieldType → Bool) := match i with
  | .iaload => some zisI | .baload => some zisZ | .laload => some zisL | .aaload => some zisR | _ => none
def zasti (i : Instr) : Option (FieldType → Bool) := match i with
  | .iastore => some zisI | .bastore => some zisZ | .lastore => some zisL | _ => none
def zstk (i : Instr) (st : List Value) : Option (List Value) := match i, st with
  | .ineg, .int x :: r => some (.int (-x) :: r)
  | .i2l, .int x :: r => some (.long x.toInt64 :: r)
  | .l2i, .long x :: r => some (.int x.toInt32 :: r)
  | .lshr, .int y :: .long x :: r => some (.long (x >>> (y.toInt64 &&& 63)) :: r)
  | .lcmp, .long y :: .long x :: r => some (.int (lg_cmp x y) :: r)
  | .dup, .int x :: r => some (.int x :: .int x :: r)
  | .dup, .ref x :: r => some (.ref x :: .ref x :: r)
  | .dup2, .int x :: .ref y :: r => some (.int x :: .ref y :: .int x :: .ref y :: r)
  | .dup_x1, .int x :: .ref y :: r => some (.int x :: .ref y :: .int x :: r)
  | .pop, .int _ :: r => some r
  | .pop, .ref _ :: r => some r
  | _, _ => none
def zlen (i : Instr) : Nat := match i with
  | .bipush _ | .ldc _ | .iload _ | .aload _ | .lload _ | .istore _ | .astore _ | .newarray _ => 2
  | .sipush _ | .ldc2_w _ | .iinc _ _ | .goto _ | .ifCond _ _ | .if_icmp _ _ | .getfield _ | .putfield _ | .getstatic _ | .new _ | .anewarray _ | .invokespecial _ | .invokevirtual _ | .invokestatic _ => 3
  | .multianewarray _ _ => 4
  | _ => 1
def zlok (i : Instr) (len : Nat) : Bool := match i with
  | .tableswitch _ _ _ _ => true
  | i => len == zlen i
/-- arrays that newarray makes here -/
def zna (t : ArrayType) : Bool := match t with
  | .int => true | .long => true | .boolean => true | _ => false
def zsw (lo hi d : Int) (offs : Array Int) (x : Int) : Int := if x < lo ∨ hi < x then d else (offs[(x - lo).toNat]?).getD d
/-- the locals at a method's entry -/
def zexp (as : List Value) : zLv := match as with
  | [] => []
  | v :: r => if v.category = 2 then some v :: none :: zexp r else some v :: zexp r
def zent (mj : Nat) (as : List Value) : zLv := zexp as ++ List.replicate (zmx mj - (zexp as).length) none
/-- a call: the arguments are taken off; what is left is light; the callee stands lower -/
def zcall (mi mj : Nat) (recv : Bool) (L : Nat) (h : zHp) (st : List Value) : Option zRes :=
  if (zrk mj < zrk mi ∧ 8 + (zmx mj + 11) + zlo mj ≤ zlo mi) ∧ (zat mj = !recv ∧ mj < zNm) then (match ztake (znp mj) st with
    | some (as, rest) =>
      if (zlg mj || as.all (fun v => v.category == 1)) = true ∧ (zexp as).length + 1 ≤ zmx mj + (if recv then 0 else 1) then (match recv with
        | true => (match rest with
          | .ref b :: r => if zk L h b = some (.inr (zoc mj)) ∧ zcat r ≤ 8 then some (.inr (.inl (mj, .ref b :: as, r, 3))) else none
          | _ => none)
        | false => if zcat rest ≤ 8 then some (.inr (.inl (mj, as, rest, 3))) else none)
      else none
    | none => none)
  else none
def zret (mi : Nat) (st : List Value) (h : zHp) : Option zRes := match st, zrt mi with
  | [.int v], some .int => some (.inr (.inr (.inl (some (.int v)), h)))
  | [.int v], some .boolean => if v = 0 ∨ v = 1 then some (.inr (.inr (.inl (some (.int v)), h))) else none
  | _, _ => none
def zaret (mi : Nat) (st : List Value) (h : zHp) : Option zRes := match st, zrt mi with
  | [.ref v], some (.object _) => some (.inr (.inr (.inl (some (.ref v)), h)))
  | [.ref v], some (.array _) => some (.inr (.inr (.inl (some (.ref v)), h)))
  | _, _ => none
def zvret (mi : Nat) (st : List Value) (h : zHp) : Option zRes := match st, zrt mi with
  | [], none => some (.inr (.inr (.inl none, h)))
  | _, _ => none
def zacopy (L mi pc : Nat) (lv : zLv) (st : List Value) (h : zHp) : Option zRes := match st with
  | .int n :: .int dp :: .ref d :: .int sp :: .ref s :: r => (match zk L h s, zk L h d with
    | some (.inl (.int, n0)), some (.inl (.int, n1)) =>
      if ((0 ≤ n ∧ 0 ≤ dp ∧ 0 ≤ sp) ∧ (sp.toNatClampNeg + n.toNatClampNeg ≤ n0 ∧ dp.toNatClampNeg + n.toNatClampNeg ≤ n1)) ∧ ((zS ≤ d ∧ zcat r ≤ 8) ∧ (1 ≤ zrk mi ∧ 26 ≤ zlo mi)) then
        zn (pc + 3) lv r (h.1, h.2.1, (fun b j => if b = d then va_cpy (h.2.2.1 s) (h.2.2.1 d) sp.toNatClampNeg dp.toNatClampNeg n.toNatClampNeg j else h.2.2.1 b j), h.2.2.2.1, h.2.2.2.2)
      else none
    | _, _ => none)
  | _ => none
/-- new E(a text), thrown at once: a cell comes that no table tells of -/
def zthrow (L mi pc : Nat) (x : Nat) (st : List Value) (h : zHp) : Option zRes :=
  match decode (zcd mi) (pc + 3), decode (zcd mi) (pc + 4), decode (zcd mi) (pc + 6), decode (zcd mi) (pc + 9) with
  | .ok (.dup, 1), .ok (.ldc is, 2), .ok (.invokespecial ic, 3), .ok (.athrow, 1) =>
    if ((zxl (zoc mi) ic = some x ∧ zK L h.1 = none) ∧ (zhd mi = [] ∧ zxs (zoc mi) is = true)) ∧ ((6 ≤ zrk mi ∧ 90 ≤ zlo mi) ∧ zcat st ≤ 8) then some (.inr (.inr (.inr (x, h.1), (h.1 + 1, h.2.1 + 6, h.2.2)))) else none
  | _, _, _, _ => none
def zins2 (L mi pc : Nat) (lv : zLv) (st : List Value) (h : zHp) (i : Instr) (len : Nat) : Option zRes := match i with
  | .ldc k => (match zkl (zoc mi) k with
    | some v => zn (pc + len) lv (.int v :: st) h
    | none => none)
  | .ldc2_w k => (match zkL (zoc mi) k with
    | some v => zn (pc + len) lv (.long v :: st) h
    | none => none)
  | .iinc k n => if zlg mi = true then none else (match lv[k]? with
    | some (some (.int x)) => zn (pc + len) (lv.set k (some (.int (x + Int32.ofInt n)))) st h
    | _ => none)
  | .goto off => if 0 ≤ (pc : Int) + off then zn (zjmp pc off) lv st h else none
  | .ifCond c off => (match st with
    | .int x :: r => if 0 ≤ (pc : Int) + off then zn (if zcmp c x 0 = true then zjmp pc off else pc + len) lv r h else none
    | _ => none)
  | .if_icmp c off => (match st with
    | .int y :: .int x :: r => if 0 ≤ (pc : Int) + off then zn (if zcmp c x y = true then zjmp pc off else pc + len) lv r h else none
    | _ => none)
  | .tableswitch d lo hi offs => (match st with
    | .int x :: r => if (hi - lo).toNat < offs.size ∧ 0 ≤ (pc : Int) + zsw lo hi d offs x.toInt then zn (zjmp pc (zsw lo hi d offs x.toInt)) lv r h else none
    | _ => none)
  | .getfield k => (match st, zfl (zoc mi) k with
    | .ref a :: r, some (ci, f) => if zk L h a = some (.inr ci) ∧ f < zfN ci then zn (pc + len) lv (zval (zft ci f) h a f :: r) h else none
    | _, _ => none)
  | .putfield k => (match st, zfl (zoc mi) k with
    | v :: .ref a :: r, some (ci, f) => if (zk L h a = some (.inr ci) ∧ f < zfN ci ∧ zS ≤ a) ∧ ((zfT ci f).2.2.2 = true → (zoc mi = ci ∧ (zy mi).name = "<init>")) then zo (zput (zft ci f) h a f v) (pc + len) lv r else none
    | _, _ => none)
  | .getstatic k => (match zsl (zoc mi) k with
    | some a => zn (pc + len) lv (.ref a :: st) h
    | none => none)
  | .aastore => (match st with
    | .ref v :: .int j :: .ref a :: r => (match zk L h v, zk L h a with
      | some (.inr ci), some (.inl (.object C, n)) => if (C = zcn ci ∧ 0 ≤ j) ∧ (j.toNatClampNeg < n ∧ zS ≤ a) then zn (pc + len) lv r (h.1, h.2.1, h.2.2.1, h.2.2.2.1, zu h.2.2.2.2 a j.toNatClampNeg (some v)) else none
      | _, _ => none)
    | _ => none)
  | .arraylength => (match st with
    | .ref a :: r => (match zk L h a with
      | some (.inl (_, n)) => zn (pc + len) lv (.int (Int32.ofNat n) :: r) h
      | _ => none)
    | _ => none)
  | .new k => (match zcl (zoc mi) k with
    | some (.inl ci) => if zK L h.1 = some (.inr ci) then zn (pc + len) lv (.ref h.1 :: st) (znew h (zfN ci)) else none
    | some (.inr x) => zthrow L mi pc x st h
    | none => none)
  | .newarray t => (match st with
    | .int n :: r => if (0 ≤ n ∧ zna t = true) ∧ (zK L h.1 = some (.inl (newarray.typeOf t, n.toNatClampNeg)) ∧ n.toNatClampNeg ≤ 65536) then zn (pc + len) lv (.ref h.1 :: r) (znew h n.toNatClampNeg) else none
    | _ => none)
  | .anewarray k => (match st, zal (zoc mi) k with
    | .int n :: r, some C => if 0 ≤ n ∧ zK L h.1 = some (.inl (.object C, n.toNatClampNeg)) ∧ n.toNatClampNeg ≤ 65536 then zn (pc + len) lv (.ref h.1 :: r) (znew h n.toNatClampNeg) else none
    | _, _ => none)
  | .multianewarray k 2 => (match st with
    | .int w :: .int n :: r => if (zmu (zoc mi) k = true ∧ 0 ≤ n ∧ 0 ≤ w) ∧ (zK L h.1 = some (.inl (.array .int, n.toNatClampNeg)) ∧ (List.range n.toNatClampNeg).all (fun i => decide (zK L (h.1 + 1 + i) = some (.inl (.int, w.toNatClampNeg)))) = true) ∧ (n.toNatClampNeg ≤ 65536 ∧ w.toNatClampNeg ≤ 65536) then zn (pc + len) lv (.ref h.1 :: r) (zrows h n.toNatClampNeg w.toNatClampNeg) else none
    | _ => none)
  | .invokespecial k => if zob (zoc mi) k = true then (match st with
      | .ref _ :: r => if zcat r ≤ 8 ∧ (1 ≤ zrk mi ∧ 20 ≤ zlo mi) then zn (pc + len) lv r h else none
      | _ => none)
    else (match zml (zoc mi) k with
      | some mj => if (zy mj).name = "<init>" then zcall mi mj true L h st else none
      | none => none)
  | .invokevirtual k => (match zml (zoc mi) k with
      | some mj => if (zy mj).name = "<init>" then none else zcall mi mj true L h st
      | none => none)
  | .invokestatic k => if zac (zoc mi) k = true then zacopy L mi pc lv st h else if zmn (zoc mi) k = true then (match st with
      | .int y :: .int x :: r => if zcat r ≤ 8 ∧ (1 ≤ zrk mi ∧ 21 ≤ zlo mi) then zn (pc + len) lv (.int (if y < x then y else x) :: r) h else none
      | _ => none)
    else (match zml (zoc mi) k with
      | some mj => zcall mi mj false L h st
      | none => none)
  | .ireturn => zret mi st h
  | .areturn => zaret mi st h
  | .return_ => zvret mi st h
  | i => (match st with
    | .int y :: .int x :: r => (match zbin i x y with
      | some v => zn (pc + len) lv (.int v :: r) h
      | none => none)
    | _ => none)
def zins (L mi pc : Nat) (lv : zLv) (st : List Value) (h : zHp) (i : Instr) (len : Nat) : Option zRes := match zcst i with
  | some v => zn (pc + len) lv (v :: st) h
  | none => match zldi i with
    | some q => zpush (zld lv[q.1]? q.2) (pc + len) lv st h
    | none => match zsti i with
      | some q => (match st with
        | v :: r => if (zstv q.2 v = true ∧ q.1 < lv.length) ∧ zlg mi = false then zn (pc + len) (lv.set q.1 (some v)) r h else none
        | _ => none)
      | none => match zaldi i with
        | some ty => (match st with
          | .int j :: .ref a :: r => zpush (zald L ty h a j) (pc + len) lv r h
          | _ => none)
        | none => match zasti i with
          | some ty => (match st with
            | v :: .int j :: .ref a :: r => zo (zast L ty h a j v) (pc + len) lv r
            | _ => none)
          | none => match zstk i st with
            | some st' => zn (pc + len) lv st' h
            | none => zins2 L mi pc lv st h i len
def zstep (L mi pc : Nat) (lv : zLv) (st : List Value) (h : zHp) : Option zRes := match decode (zcd mi) pc with
  | .ok (i, len) => if zlok i len = true then zins L mi pc lv st h i len else none
  | _ => none
def zcatch (mi pc x : Nat) : Option Nat := ((zhd mi).find? (fun q => decide (q.1 ≤ pc ∧ pc < q.2.1) && decide (zxc (zoc mi) q.2.2.2 = some x))).map (fun q => q.2.2.1)
end
section
/-- the runs: by fuel -/
def zev (L : Nat) : Nat → Nat → Nat → zLv → List Value → zHp → Option (zOut × zHp)
  | 0, _, _, _, _, _ => none
  | n + 1, mi, pc, lv, st, h => match zstep L mi pc lv st h with
    | some (.inl (pc', lv', st', h')) => zev L n mi pc' lv' st' h'
    | some (.inr (.inl (mj, as, rest, len))) => (match zev L n mj 0 (zent mj as) [] h with
      | some (.inl v, h') => zev L n mi (pc + len) lv (v.toList ++ rest) h'
      | some (.inr x, h') => (match zcatch mi pc x.1 with
        | some pc' => zev L n mi pc' lv [.ref x.2] h'
        | none => if zhd mi = [] then some (.inr x, h') else none)
      | none => none)
    | some (.inr (.inr (o, h'))) => some (o, h')
    | none => none
theorem zev_succ (L : Nat) : ∀ (n mi pc : Nat) (lv : zLv) (st : List Value) (h : zHp) (r : zOut × zHp), zev L n mi pc lv st h = some r → zev L (n + 1) mi pc lv st h = some r := by
  intro n
  induction n with
  | zero => intro mi pc lv st h r hr; simp [zev] at hr
  | succ n ih =>
    intro mi pc lv st h r hr
    rw [zev] at hr ⊢
    revert hr
    cases hs : zstep L mi pc lv st h with
    | none => intro hr; exact hr
    | some q =>
      rcases q with ⟨pc', lv', st', h'⟩ | ⟨mj, as, rest, len⟩ | ⟨o, h'⟩
      · intro hr; exact ih _ _ _ _ _ _ hr
      · intro hr
        dsimp only at hr ⊢
        cases hc : zev L n mj 0 (zent mj as) [] h with
        | none => rw [hc] at hr; cases hr
        | some w =>
          rw [hc] at hr
          rw [ih _ _ _ _ _ _ hc]
          rcases w with ⟨v | x, h'⟩
          · exact ih _ _ _ _ _ _ hr
          · dsimp only at hr ⊢
            cases hk : zcatch mi pc x.1 with
            | none => rw [hk] at hr; exact hr
            | some pc' => rw [hk] at hr; exact ih _ _ _ _ _ _ hr
      · intro hr; exact hr
theorem zev_le (L : Nat) {n k : Nat} (hk : n ≤ k) {mi pc : Nat} {lv : zLv} {st : List Value} {h : zHp} {r : zOut × zHp} (hr : zev L n mi pc lv st h = some r) : zev L k mi pc lv st h = some r := by
  induction hk with
  | refl => exact hr
  | step _ ih => exact zev_succ L _ _ _ _ _ _ _ ih
/-- THE RUN ENDS WELL: it ends, and what it ends with is of Q -/
def zW (L mi pc : Nat) (lv : zLv) (st : List Value) (h : zHp) (Q : zOut → zHp → Prop) : Prop := ∃ (n : Nat) (o : zOut) (h' : zHp), zev L n mi pc lv st h = some (o, h') ∧ Q o h'
section ZW
variable {L mi pc : Nat} {lv : zLv} {st : List Value} {h : zHp} {Q : zOut → zHp → Prop}
theorem zW.mono {Q' : zOut → zHp → Prop} (w : zW L mi pc lv st h Q) (hq : ∀ o h', Q o h' → Q' o h') : zW L mi pc lv st h Q' := by
  obtain ⟨n, o, h', e, q⟩ := w
  exact ⟨n, o, h', e, hq _ _ q⟩
theorem zw_next {pc' : Nat} {lv' : zLv} {st' : List Value} {h' : zHp} (hs : zstep L mi pc lv st h = some (.inl (pc', lv', st', h'))) : zW L mi pc lv st h Q ↔ zW L mi pc' lv' st' h' Q := by
  constructor
  · rintro ⟨n, o, k, e, q⟩
    cases n with
    | zero => simp [zev] at e
    | succ n => rw [zev, hs] at e; exact ⟨n, o, k, e, q⟩
  · rintro ⟨n, o, k, e, q⟩
    exact ⟨n + 1, o, k, by rw [zev, hs]; exact e, q⟩
theorem zw_end {o : zOut} {h' : zHp} (hs : zstep L mi pc lv st h = some (.inr (.inr (o, h')))) : zW L mi pc lv st h Q ↔ Q o h' := by
  constructor
  · rintro ⟨n, o', k, e, q⟩
    cases n with
    | zero => simp [zev] at e
    | succ n => rw [zev, hs] at e; cases e; exact q
  · intro q
    exact ⟨1, o, h', by rw [zev, hs], q⟩
theorem zw_call {mj : Nat} {as rest : List Value} {len : Nat} (hs : zstep L mi pc lv st h = some (.inr (.inl (mj, as, rest, len))))
    (w : zW L mj 0 (zent mj as) [] h (fun o h' => match o with
      | .inl v => zW L mi (pc + len) lv (v.toList ++ rest) h' Q
      | .inr x => (match zcatch mi pc x.1 with
        | some pc' => zW L mi pc' lv [.ref x.2] h' Q
        | none => zhd mi = [] ∧ Q (.inr x) h'))) : zW L mi pc lv st h Q := by
  obtain ⟨n, o, h', e, q⟩ := w
  rcases o with v | x
  · obtain ⟨k, o2, h2, e2, q2⟩ := q
    refine ⟨max n k + 1, o2, h2, ?_, q2⟩
    rw [zev, hs]
    dsimp only
    rw [zev_le L (Nat.le_max_left n k) e]
    exact zev_le L (Nat.le_max_right n k) e2
  · dsimp only at q
    cases hk : zcatch mi pc x.1 with
    | none =>
      rw [hk] at q
      refine ⟨n + 1, .inr x, h', ?_, q.2⟩
      rw [zev, hs]
      dsimp only
      rw [e]
      dsimp only
      rw [hk]
      exact if_pos q.1
    | some pc' =>
      rw [hk] at q
      obtain ⟨k, o2, h2, e2, q2⟩ := q
      refine ⟨max n k + 1, o2, h2, ?_, q2⟩
      rw [zev, hs]
      dsimp only
      rw [zev_le L (Nat.le_max_left n k) e]
      dsimp only
      rw [hk]
      exact zev_le L (Nat.le_max_right n k) e2
end ZW
end
section
/-! SOUNDNESS: what the logical machine does, the machine does. S0: the state at the law's entry; B = S0.heap.size; logical addresses from zS on are the cells from B on, in order. -/
def zr (S0 : State) (z : Nat → Nat) (a : Nat) : Nat := if a < zS then z a else S0.heap.size + (a - zS)
def zv (S0 : State) (z : Nat → Nat) (v : Value) : Value := match v with
  | .ref a => .ref (zr S0 z a)
  | v => v
/-- so many places, as its length says (a static's array is known by its length alone) -/
def zsz (k n : Nat) : Prop := n ≤ k ∧ k.toInt32 = Int32.ofNat n
theorem zsz_of {k n : Nat} (h : k = n) : zsz k n := ⟨by omega, by rw [h]⟩
def zcell (S0 : State) (D : va_G) (z : Nat → Nat) (h : zHp) (a : Nat) (kd : zKd) (cell : Cell) : Prop := match kd with
  | .inl (ty, n) => cell.vm ≠ .unknown ∧ S0.isArrayOf cell ty ∧ zsz cell.slots.size n ∧ (∀ j, j < n → cell.slots[j]? = some (zv S0 z (zval ty h a j))) ∧
      ∀ C, ty = .object C → ∃ (k : Class) (comp : ClassId), S0.vm.classes[cell.cls]? = some k ∧ k.kind = .array comp ty ∧ S0.vm.findClass C = some comp
  | .inr ci => ci < zNc ∧ cell.vm = .none ∧ cell.cls = D.1 ci ∧ ∀ k, k < zfN ci → cell.slots[D.2 ci k]? = some (zv S0 z (zval (zft ci k) h a k))
def zRl (S0 : State) (D : va_G) (z : Nat → Nat) (L : Nat) (h : zHp) (H : Heap) : Prop :=
  zS ≤ h.1 ∧ H.size = S0.heap.size + (h.1 - zS) ∧ (∀ q : Nat, q < S0.heap.size → H[q]? = S0.heap[q]?) ∧ (∀ a : Nat, a < zS → z a < S0.heap.size) ∧
  (∀ (a : Nat) (kd : zKd), a < h.1 → zK L a = some kd → ∃ cell : Cell, H[zr S0 z a]? = some cell ∧ zcell S0 D z h a kd cell) ∧
  ∀ (q : Nat) (cell : Cell), S0.heap.size ≤ q → H[q]? = some cell → cell.vm.isStatics = false
/-- what is fixed of the start -/
def zFix (S0 : State) (D : va_G) (z : Nat → Nat) : Prop :=
  (∀ w ∈ zws, ∀ (a : Array Value) (U : State), S0.WarmedH U.vm → w.before a U = true) ∧ va_K D zcls [] S0 ∧
  ∀ (oc k a : Nat), zsl oc k = some a → a < zS ∧ ∃ (C n d : String), Cond.fieldLink (zcn oc) k C n d ∈ zws ∧ va_Z C n d (.ref (z a)) (fun q => S0.heap.size ≤ q) S0 S0.heap
/-- the method that runs -/
def zCx (S0 : State) (p : Program) (s : State) (m : MethodId) (meth : Method) (c : Code) (mi : Nat) : Prop :=
  p.tables.exec = Jvm.exec ∧ c.code = zcd mi ∧ c.maxLocals = zmx mi ∧ s.vm.findClass (zcn (zoc mi)) = some m.cls ∧ meth.locks = false ∧ meth.sig.returnType = zrt mi ∧ meth.name = (zy mi).name ∧
  S0.WarmedH s.vm ∧ S0.heap.size ≤ s.heap.size ∧ (zhd mi = [(0, 0, 0, 0)] ∨ c.exceptionTable.toList.map (fun h => (h.startPc, h.endPc, h.handlerPc, h.catchType)) = zhd mi) ∧
  (∀ q : Nat, q < S0.heap.size → s.heap[q]? = S0.heap[q]?) ∧ ∀ (q : Nat) (cell : Cell), S0.heap.size ≤ q → s.heap[q]? = some cell → cell.vm.isStatics = false
theorem zv_cat (S0 : State) (z : Nat → Nat) (v : Value) : (zv S0 z v).category = v.category := by cases v <;> rfl
/-- as the kit's rows have it -/
def zal0 (S0 : State) (z : Nat → Nat) (lv : zLv) : List (Nat × Value) := (List.range lv.length).filterMap (fun i => match lv[i]? with
  | some (some v) => some (i, zv S0 z v)
  | _ => none)
def zLs (S0 : State) (z : Nat → Nat) (mi : Nat) (lv : zLv) (ls : Array Slot) : Prop :=
  lv.length = zmx mi ∧ lv_has ls (zmx mi) (zal0 S0 z lv) ∧ (zlg mi = false → ∀ (i : Nat) (v : Value), lv[i]? = some (some v) → v.category = 1)
theorem zal0_mem {S0 : State} {z : Nat → Nat} {lv : zLv} {i : Nat} {v : Value} (h : lv[i]? = some (some v)) : (i, zv S0 z v) ∈ zal0 S0 z lv := by
  refine List.mem_filterMap.mpr ⟨i, List.mem_range.mpr ?_, by rw [h]⟩
  exact (List.getElem?_eq_some_iff.mp h).1
theorem zal0_of {S0 : State} {z : Nat → Nat} {lv : zLv} {q : Nat × Value} (h : q ∈ zal0 S0 z lv) : ∃ v, lv[q.1]? = some (some v) ∧ q.2 = zv S0 z v := by
  obtain ⟨i, -, hi⟩ := List.mem_filterMap.mp h
  split at hi
  next v hv => cases hi; exact ⟨v, hv, rfl⟩
  next => cases hi
theorem zLs.get {S0 : State} {z : Nat → Nat} {mi : Nat} {lv : zLv} {ls : Array Slot} (h : zLs S0 z mi lv ls) {i : Nat} {v : Value} (hv : lv[i]? = some (some v)) : ls[i]? = some (.val (zv S0 z v)) := h.2.1.2.2 _ (zal0_mem hv)
theorem zLs.store {S0 : State} {z : Nat → Nat} {mi : Nat} {lv : zLv} {ls ls' : Array Slot} (h : zLs S0 z mi lv ls) (hg : zlg mi = false) {i : Nat} {v : Value} (hc : v.category = 1)
    (h' : lv_has ls' (zmx mi) ((i, zv S0 z v) :: (zal0 S0 z lv).filter (fun q => !(q.1 == i) && !(q.1 + 1 == i && q.2.category == 2)))) : zLs S0 z mi (lv.set i (some v)) ls' := by
  have key : ∀ (j : Nat) (w : Value), (lv.set i (some v))[j]? = some (some w) → w.category = 1 ∧ (j, zv S0 z w) ∈ ((i, zv S0 z v) :: (zal0 S0 z lv).filter (fun q => !(q.1 == i) && !(q.1 + 1 == i && q.2.category == 2))) := by
    intro j w hw
    rw [List.getElem?_set] at hw
    by_cases hj : i = j
    · subst hj
      rw [if_pos rfl] at hw
      split at hw
      next => cases hw; exact ⟨hc, List.mem_cons_self⟩
      next => cases hw
    · rw [if_neg hj] at hw
      have h1 : w.category = 1 := h.2.2 hg j w hw
      refine ⟨h1, List.mem_cons_of_mem _ (List.mem_filter.mpr ⟨zal0_mem hw, ?_⟩)⟩
      have h2 : (zv S0 z w).category = 1 := by rw [zv_cat]; exact h1
      simp [h2, Ne.symm hj]
  refine ⟨by rw [List.length_set]; exact h.1, ⟨h'.1, h'.2.1, fun q hq => ?_⟩, fun _ j w hw => (key j w hw).1⟩
  obtain ⟨w, e1, e2⟩ := zal0_of hq
  have := h'.2.2 _ (key q.1 w e1).2
  rw [e2]
  exact this
theorem zLs.size {S0 : State} {z : Nat → Nat} {mi : Nat} {lv : zLv} {ls : Array Slot} (h : zLs S0 z mi lv ls) : ls.size = zmx mi := h.2.1.1
theorem zargs {S0 : State} {z : Nat → Nat} : ∀ (as : List Value) (off i : Nat) (v : Value), (zexp as)[i]? = some (some v) → (off + i, zv S0 z v) ∈ lv_args off (as.map (zv S0 z))
  | [], off, i, v, h => by simp [zexp] at h
  | w :: r, off, i, v, h => by
    show _ ∈ (off, zv S0 z w) :: lv_args (if (zv S0 z w).category = 2 then off + 2 else off + 1) (r.map (zv S0 z))
    rw [zv_cat]
    unfold zexp at h
    by_cases hw : w.category = 2
    · rw [if_pos hw] at h
      rw [if_pos hw]
      match i, h with
      | 0, h => cases h; exact List.mem_cons_self
      | 1, h => cases h
      | i + 2, h =>
        refine List.mem_cons_of_mem _ ?_
        have := zargs (S0 := S0) (z := z) r (off + 2) i v (by simpa using h)
        rw [show off + (i + 2) = off + 2 + i by omega]; exact this
    · rw [if_neg hw] at h
      rw [if_neg hw]
      match i, h with
      | 0, h => cases h; exact List.mem_cons_self
      | i + 1, h =>
        refine List.mem_cons_of_mem _ ?_
        have := zargs (S0 := S0) (z := z) r (off + 1) i v (by simpa using h)
        rw [show off + (i + 1) = off + 1 + i by omega]; exact this
theorem zexp_len (S0 : State) (z : Nat → Nat) : ∀ as : List Value, (lg_sl (as.map (zv S0 z))).length = (zexp as).length
  | [] => rfl
  | w :: r => by
    have ih := zexp_len S0 z r
    have e : lg_sl ((w :: r).map (zv S0 z)) = (if (zv S0 z w).category = 2 then [.val (zv S0 z w), .second] else [.val (zv S0 z w)]) ++ lg_sl (r.map (zv S0 z)) := rfl
    rw [e, List.length_append, ih, zv_cat]
    by_cases hw : w.category = 2
    · simp [zexp, hw]; omega
    · simp [zexp, hw]; omega
theorem zexp_cat : ∀ (as : List Value), (∀ v ∈ as, v.category = 1) → ∀ (i : Nat) (v : Value), (zexp as)[i]? = some (some v) → v.category = 1
  | [], _, i, v, h => by simp [zexp] at h
  | w :: r, hc, i, v, h => by
    have hw : w.category = 1 := hc w List.mem_cons_self
    unfold zexp at h
    rw [if_neg (by omega)] at h
    match i, h with
    | 0, h => cases h; exact hw
    | i + 1, h => exact zexp_cat r (fun u hu => hc u (List.mem_cons_of_mem _ hu)) i v (by simpa using h)
theorem zLs.entry {S0 : State} {z : Nat → Nat} {mj : Nat} {as : List Value} (hc : zlg mj = false → ∀ v ∈ as, v.category = 1) (hn : (zexp as).length ≤ zmx mj) (mk : MethodId) :
    ∃ ls : Array Slot, entryFrame mk (as.map (zv S0 z)).toArray (zmx mj) = F0 mk 0 ls [] ∧ zLs S0 z mj (zent mj as) ls := by
  have hl := lv_entry (as.map (zv S0 z)) (n := zmx mj) (by rw [zexp_len]; exact hn)
  have hg : ∀ (i : Nat) (v : Value), (zent mj as)[i]? = some (some v) → (zexp as)[i]? = some (some v) := by
    intro i v hv
    unfold zent at hv
    by_cases hi : i < (zexp as).length
    · rw [List.getElem?_append_left hi] at hv; exact hv
    · rw [List.getElem?_append_right (by omega), List.getElem?_replicate] at hv
      split at hv
      next => cases hv
      next => cases hv
  refine ⟨_, lg_entry_eq mk (as.map (zv S0 z)) (zmx mj), ?_, ⟨hl.1, hl.2.1, fun q hq => ?_⟩, fun h1 i v hv => zexp_cat as (hc h1) i v (hg i v hv)⟩
  · unfold zent
    rw [List.length_append, List.length_replicate]
    omega
  · obtain ⟨v, e1, e2⟩ := zal0_of hq
    have := hl.2.2 _ (zargs (S0 := S0) (z := z) as 0 q.1 v (hg _ _ e1))
    rw [Nat.zero_add] at this
    rw [e2]; exact this
/-! ### the tables and the heap -/
section ZRL
variable {S0 : State} {D : va_G} {z : Nat → Nat} {L : Nat} {h h' : zHp} {H H' : Heap}
theorem zRl.at (hR : zRl S0 D z L h H) {a : Nat} {kd : zKd} (hk : zk L h a = some kd) : ∃ cell : Cell, H[zr S0 z a]? = some cell ∧ zcell S0 D z h a kd cell := by
  unfold zk at hk
  split at hk
  next hl => exact hR.2.2.2.2.1 a kd hl hk
  next => cases hk
theorem zr_big (hR : zRl S0 D z L h H) {a : Nat} (ha : zS ≤ a) : S0.heap.size ≤ zr S0 z a := by
  unfold zr
  rw [if_neg (by omega)]
  omega
theorem zr_ne (hR : zRl S0 D z L h H) {a b : Nat} (ha : zS ≤ a) (hne : b ≠ a) : zr S0 z b ≠ zr S0 z a := by
  unfold zr
  rw [if_neg (show ¬ a < zS by omega)]
  by_cases hb : b < zS
  · rw [if_pos hb]
    have := hR.2.2.2.1 b hb
    omega
  · rw [if_neg hb]
    omega
theorem zcell.congr {a : Nat} {kd : zKd} {cell : Cell} (hv : ∀ (t : FieldType) (j : Nat), zval t h' a j = zval t h a j) (hc : zcell S0 D z h a kd cell) : zcell S0 D z h' a kd cell := by
  rcases kd with ⟨ty, n⟩ | ci
  · obtain ⟨h1, h2, h3, h4, h5⟩ := hc
    exact ⟨h1, h2, h3, fun j hj => by rw [hv]; exact h4 j hj, h5⟩
  · obtain ⟨h1, h2, h3, h4⟩ := hc
    exact ⟨h1, h2, h3, fun k hk => by rw [hv]; exact h4 k hk⟩
theorem zstat_of {x : VmData} (h : ∀ k, x ≠ .statics k) : x.isStatics = false := by
  cases x <;> first | rfl | exact absurd rfl (h _)
theorem zcell.stat {a : Nat} {kd : zKd} {cell : Cell} (hc : zcell S0 D z h a kd cell) : cell.vm.isStatics = false := by
  rcases kd with ⟨ty, n⟩ | ci
  · exact zstat_of hc.2.1.1
  · rw [hc.2.1]; rfl
/-- one cell has changed -/
theorem zRl.set (hR : zRl S0 D z L h H) {a : Nat} {kd : zKd} (ha : zS ≤ a) (hk : zk L h a = some kd) (h1 : h'.1 = h.1) (hv : ∀ b, b ≠ a → ∀ (t : FieldType) (j : Nat), zval t h' b j = zval t h b j)
    {cell : Cell} (hc : H'[zr S0 z a]? = some cell) (hok : zcell S0 D z h' a kd cell) (hsz : H'.size = H.size) (ho : ∀ q, q ≠ zr S0 z a → H'[q]? = H[q]?) : zRl S0 D z L h' H' := by
  have hka : zK L a = some kd := by
    unfold zk at hk
    split at hk
    next => exact hk
    next => cases hk
  refine ⟨by rw [h1]; exact hR.1, by rw [h1, hsz]; exact hR.2.1, fun q hq => ?_, hR.2.2.2.1, fun b kb hb hkb => ?_, fun q cq hq hcq => ?_⟩
  · rw [ho q (fun e => by have := zr_big hR ha; omega)]
    exact hR.2.2.1 q hq
  · by_cases hba : b = a
    · subst hba
      rw [hka] at hkb
      cases hkb
      exact ⟨cell, hc, hok⟩
    · obtain ⟨cb, g1, g2⟩ := hR.2.2.2.2.1 b kb (by rw [← h1]; exact hb) hkb
      exact ⟨cb, by rw [ho _ (zr_ne hR ha hba)]; exact g1, g2.congr (hv b hba)⟩
  · by_cases hqa : q = zr S0 z a
    · subst hqa
      rw [hc] at hcq
      cases hcq
      exact hok.stat
    · rw [ho q hqa] at hcq
      exact hR.2.2.2.2.2 q cq hq hcq
/-- a cell has come -/
theorem zRl.new (hR : zRl S0 D z L h H) (h1 : h'.1 = h.1 + 1) (hv : ∀ b, b < h.1 → ∀ (t : FieldType) (j : Nat), zval t h' b j = zval t h b j)
    {cell : Cell} (hc : H'[H.size]? = some cell) (hstat : cell.vm.isStatics = false) (hok : ∀ kd, zK L h.1 = some kd → zcell S0 D z h' h.1 kd cell) (hsz : H'.size = H.size + 1) (ho : ∀ q, q < H.size → H'[q]? = H[q]?) : zRl S0 D z L h' H' := by
  have hz := hR.1
  have hs := hR.2.1
  refine ⟨by rw [h1]; omega, by rw [h1, hsz, hs]; omega, fun q hq => ?_, hR.2.2.2.1, fun b kb hb hkb => ?_, fun q cq hq hcq => ?_⟩
  · rw [ho q (by omega)]
    exact hR.2.2.1 q hq
  · by_cases hba : b = h.1
    · subst hba
      have e : zr S0 z h.1 = H.size := by
        unfold zr
        rw [if_neg (by omega), hs]
      exact ⟨cell, by rw [e]; exact hc, hok kb hkb⟩
    · obtain ⟨cb, g1, g2⟩ := hR.2.2.2.2.1 b kb (by omega) hkb
      exact ⟨cb, by rw [ho _ (Array.getElem?_eq_some_iff.mp g1).1]; exact g1, g2.congr (hv b (by omega))⟩
  · have hlt := (Array.getElem?_eq_some_iff.mp hcq).1
    by_cases hqa : q = H.size
    · subst hqa
      rw [hc] at hcq
      cases hcq
      exact hstat
    · rw [ho q (by omega)] at hcq
      exact hR.2.2.2.2.2 q cq hq hcq
theorem zr_new (hR : zRl S0 D z L h H) : zr S0 z h.1 = H.size := by
  have hz := hR.1
  unfold zr
  rw [if_neg (by omega), hR.2.1]
theorem zput_facts {ty : FieldType} {a k : Nat} {v : Value} (hp : zput ty h a k v = some h') :
    h'.1 = h.1 ∧ h'.2.1 = h.2.1 ∧ (∀ b, b ≠ a → ∀ (t : FieldType) (j : Nat), zval t h' b j = zval t h b j) ∧ (∀ (t : FieldType) (j : Nat), j ≠ k → zval t h' a j = zval t h a j) ∧ zval ty h' a k = v ∧ narrow ty (zv S0 z v) = zv S0 z v ∧ fits ty (zv S0 z v) = true := by
  unfold zput at hp
  split at hp
  case h_7 =>
    split at hp
    next hx =>
      cases hp
      refine ⟨rfl, rfl, fun b hb t j => ?_, fun t j hj => ?_, ?_, ?_, ?_⟩
      · cases t <;> simp [zval, zu, hb]
      · cases t <;> simp [zval, zu, hj]
      · simp [zval, zu]
      · rcases hx with rfl | rfl <;> rfl
      · rcases hx with rfl | rfl <;> rfl
    next => cases hp
  all_goals first
    | (cases hp
       refine ⟨rfl, rfl, fun b hb t j => ?_, fun t j hj => ?_, ?_, ?_, ?_⟩
       · cases t <;> simp [zval, zu, hb]
       · cases t <;> simp [zval, zu, hj]
       · simp [zval, zu, va_rf]
       · rfl
       · rfl)
    | cases hp
end ZRL
end
section
section ZST
variable {p : Program} {l : Launch} {e : Env} {Rm : Room} {s : State} {m : MethodId} {args : Array Value} {below : List Frame} {meth : Method} {c : Code} {H : Heap} {locs : List Loc} {cells slots : Nat} {Q : State → Prop}
variable {S0 : State} {D : va_G} {z : Nat → Nat} {L mi pc : Nat} {lv : zLv} {st : List Value} {h : zHp} {ls : Array Slot}
/-- at a logical point: from every state that holds it, the machine comes to Q -/
def zG (p : Program) (l : Launch) (e : Env) (Rm : Room) (s : State) (m : MethodId) (args : Array Value) (below : List Frame) (meth : Method) (c : Code) (Q : State → Prop) (S0 : State) (D : va_G) (z : Nat → Nat) (L mi : Nat) (pc : Nat) (lv : zLv) (st : List Value) (h : zHp) (cells slots : Nat) : Prop :=
  ∀ (H : Heap) (locs : List Loc) (ls : Array Slot), zRl S0 D z L h H → zLs S0 z mi lv ls → (∀ q ∈ locs, S0.heap.size ≤ q.base) → W p l e Rm s m args below meth c H locs cells slots Q (F0 m pc ls (st.map (zv S0 z)))
theorem zg_w (kk : zG p l e Rm s m args below meth c Q S0 D z L mi pc lv st h cells slots) (hR : zRl S0 D z L h H) (hl : zLs S0 z mi lv ls) (hq : ∀ q ∈ locs, S0.heap.size ≤ q.base) : W p l e Rm s m args below meth c H locs cells slots Q (F0 m pc ls (st.map (zv S0 z))) := kk H locs ls hR hl hq
theorem zs_const (C : zCx S0 p s m meth c mi) {i : Instr} {len : Nat} {v : Value} (hd : decode (zcd mi) pc = .ok (i, len)) (hlen : zlok i len = true) (hv : zcst i = some v) (kk : zG p l e Rm s m args below meth c Q S0 D z L mi (pc + len) lv (v :: st) h cells slots) : zG p l e Rm s m args below meth c Q S0 D z L mi pc lv st h cells slots := by
  intro H locs ls hR hl hq
  obtain ⟨hx, hb, -⟩ := C
  have k := zg_w kk hR hl hq
  cases i
  case iconst n => cases hv; simp only [zlok, zlen, beq_iff_eq] at hlen; subst hlen; exact lv_iconst hx hb hd rfl k
  case bipush n => cases hv; simp only [zlok, zlen, beq_iff_eq] at hlen; subst hlen; exact lv_bipush hx hb hd rfl k
  case sipush n => cases hv; simp only [zlok, zlen, beq_iff_eq] at hlen; subst hlen; exact lv_sipush hx hb hd rfl k
  case lconst n => cases hv; simp only [zlok, zlen, beq_iff_eq] at hlen; subst hlen; exact lv_lconst hx hb hd rfl k
  all_goals cases hv
theorem zs_bin (C : zCx S0 p s m meth c mi) {i : Instr} {len : Nat} {x y v : Int32} (hd : decode (zcd mi) pc = .ok (i, len)) (hlen : zlok i len = true) (hv : zbin i x y = some v) (kk : zG p l e Rm s m args below meth c Q S0 D z L mi (pc + len) lv (.int v :: st) h cells slots) : zG p l e Rm s m args below meth c Q S0 D z L mi pc lv (.int y :: .int x :: st) h cells slots := by
  intro H locs ls hR hl hq
  obtain ⟨hx, hb, -⟩ := C
  have k := zg_w kk hR hl hq
  cases i <;> simp only [zbin, reduceCtorEq] at hv
  case iadd => cases hv; simp only [zlok, zlen, beq_iff_eq] at hlen; subst hlen; exact lv_iadd hx hb hd k
  case isub => cases hv; simp only [zlok, zlen, beq_iff_eq] at hlen; subst hlen; exact lv_isub hx hb hd k
  case imul => cases hv; simp only [zlok, zlen, beq_iff_eq] at hlen; subst hlen; exact lv_imul hx hb hd k
  case iand => cases hv; simp only [zlok, zlen, beq_iff_eq] at hlen; subst hlen; exact lv_iand hx hb hd k
  case ior => cases hv; simp only [zlok, zlen, beq_iff_eq] at hlen; subst hlen; exact lv_ior hx hb hd k
  case ixor => cases hv; simp only [zlok, zlen, beq_iff_eq] at hlen; subst hlen; exact lv_ixor hx hb hd k
  case ishl => cases hv; simp only [zlok, zlen, beq_iff_eq] at hlen; subst hlen; exact lv_ishl hx hb hd k
  case ishr => cases hv; simp only [zlok, zlen, beq_iff_eq] at hlen; subst hlen; exact lv_ishr hx hb hd k
  case iushr => cases hv; simp only [zlok, zlen, beq_iff_eq] at hlen; subst hlen; exact lv_iushr hx hb hd rfl k
  case idiv =>
    split at hv
    next => cases hv
    next hne => cases hv; simp only [zlok, zlen, beq_iff_eq] at hlen; subst hlen; exact lv_idiv hx hb hd hne k
  case irem =>
    split at hv
    next => cases hv
    next hne => cases hv; simp only [zlok, zlen, beq_iff_eq] at hlen; subst hlen; exact lv_irem hx hb hd hne k
theorem zs_load (C : zCx S0 p s m meth c mi) {i : Instr} {len k b : Nat} {v : Value} (hd : decode (zcd mi) pc = .ok (i, len)) (hlen : zlok i len = true) (hi : zldi i = some (k, b)) (hv : zld lv[k]? b = some v) (kk : zG p l e Rm s m args below meth c Q S0 D z L mi (pc + len) lv (v :: st) h cells slots) : zG p l e Rm s m args below meth c Q S0 D z L mi pc lv st h cells slots := by
  intro H locs ls hR hl hq
  obtain ⟨hx, hb, -⟩ := C
  have kw := zg_w kk hR hl hq
  unfold zld at hv
  split at hv
  next x hlv =>
    cases hv
    have g := hl.get hlv
    cases i
    case iload k' => cases hi; simp only [zlok, zlen, beq_iff_eq] at hlen; subst hlen; exact lv_iload hx hb hd g kw
    case iload_n k' => cases hi; simp only [zlok, zlen, beq_iff_eq] at hlen; subst hlen; exact lv_iload_n hx hb hd rfl g kw
    all_goals cases hi
  next x hlv =>
    cases hv
    have g := hl.get hlv
    cases i
    case aload k' => cases hi; simp only [zlok, zlen, beq_iff_eq] at hlen; subst hlen; exact lv_aload hx hb hd g kw
    case aload_n k' => cases hi; simp only [zlok, zlen, beq_iff_eq] at hlen; subst hlen; exact lv_aload_n hx hb hd rfl g kw
    all_goals cases hi
  next x hlv =>
    cases hv
    have g := hl.get hlv
    cases i
    case lload k' => cases hi; simp only [zlok, zlen, beq_iff_eq] at hlen; subst hlen; exact lv_lload hx hb hd g kw
    case lload_n k' => cases hi; simp only [zlok, zlen, beq_iff_eq] at hlen; subst hlen; exact lv_lload_n hx hb hd rfl g kw
    all_goals cases hi
  next => cases hv
theorem zs_store (C : zCx S0 p s m meth c mi) {i : Instr} {len k : Nat} {b : Bool} {v : Value} (hd : decode (zcd mi) pc = .ok (i, len)) (hlen : zlok i len = true) (hi : zsti i = some (k, b)) (hv : zstv b v = true) (hk : k < lv.length) (hg : zlg mi = false) (kk : zG p l e Rm s m args below meth c Q S0 D z L mi (pc + len) (lv.set k (some v)) st h cells slots) : zG p l e Rm s m args below meth c Q S0 D z L mi pc lv (v :: st) h cells slots := by
  intro H locs ls hR hl hq
  obtain ⟨hx, hb, -⟩ := C
  have hk' : k < zmx mi := by rw [← hl.1]; exact hk
  unfold zstv at hv
  split at hv
  next x =>
    subst hv
    cases i
    case istore k' => cases hi; simp only [zlok, zlen, beq_iff_eq] at hlen; subst hlen; exact lv_istore hx hb hd hl.2.1 hk' rfl (fun ls' h' => zg_w kk hR (hl.store hg rfl h') hq)
    case istore_n k' => cases hi; simp only [zlok, zlen, beq_iff_eq] at hlen; subst hlen; exact lv_istore_n hx hb hd rfl hl.2.1 hk' rfl (fun ls' h' => zg_w kk hR (hl.store hg rfl h') hq)
    all_goals cases hi
  next x =>
    have hbf : b = false := by simpa using hv
    subst hbf
    cases i
    case astore k' => cases hi; simp only [zlok, zlen, beq_iff_eq] at hlen; subst hlen; exact lv_astore hx hb hd hl.2.1 hk' rfl (fun ls' h' => zg_w kk hR (hl.store hg rfl h') hq)
    case astore_n k' => cases hi; simp only [zlok, zlen, beq_iff_eq] at hlen; subst hlen; exact lv_astore_n hx hb hd rfl hl.2.1 hk' rfl (fun ls' h' => zg_w kk hR (hl.store hg rfl h') hq)
    all_goals cases hi
  next => cases hv
theorem zs_iinc (C : zCx S0 p s m meth c mi) {len k : Nat} {n : Int} {x : Int32} (hd : decode (zcd mi) pc = .ok (.iinc k n, len)) (hlen : zlok (.iinc k n) len = true) (hg : zlg mi = false) (hv : lv[k]? = some (some (.int x))) (kk : zG p l e Rm s m args below meth c Q S0 D z L mi (pc + len) (lv.set k (some (.int (x + Int32.ofInt n)))) st h cells slots) : zG p l e Rm s m args below meth c Q S0 D z L mi pc lv st h cells slots := by
  intro H locs ls hR hl hq
  obtain ⟨hx, hb, -⟩ := C
  have hk' : k < zmx mi := by rw [← hl.1]; exact (List.getElem?_eq_some_iff.mp hv).1
  simp only [zlok, zlen, beq_iff_eq] at hlen
  subst hlen
  obtain ⟨j, hj, ej⟩ := List.getElem_of_mem (zal0_mem (S0 := S0) (z := z) hv)
  have hj2 : (zal0 S0 z lv)[j]? = some (k, .int x) := by rw [List.getElem?_eq_getElem hj, ej]; rfl
  exact lv_iinc hx hb hd hl.2.1 hj2 rfl hk' rfl (fun ls' h' => zg_w kk hR (hl.store hg (v := .int (x + Int32.ofInt n)) rfl h') hq)
theorem zs_goto (C : zCx S0 p s m meth c mi) {len : Nat} {off : Int} (hd : decode (zcd mi) pc = .ok (.goto off, len)) (hlen : zlok (.goto off) len = true) (ho : 0 ≤ (pc : Int) + off) (kk : zG p l e Rm s m args below meth c Q S0 D z L mi (zjmp pc off) lv st h cells slots) : zG p l e Rm s m args below meth c Q S0 D z L mi pc lv st h cells slots := by
  intro H locs ls hR hl hq
  obtain ⟨hx, hb, -⟩ := C
  simp only [zlok, zlen, beq_iff_eq] at hlen
  subst hlen
  exact lv_goto (tgt := zjmp pc off) hx hb hd (by unfold zjmp; omega) (zg_w kk hR hl hq)
theorem zs_if (C : zCx S0 p s m meth c mi) {len : Nat} {cd : ClassFile.Cond} {off : Int} {x : Int32} (hd : decode (zcd mi) pc = .ok (.ifCond cd off, len)) (hlen : zlok (.ifCond cd off) len = true) (ho : 0 ≤ (pc : Int) + off)
    (kk : zG p l e Rm s m args below meth c Q S0 D z L mi (if zcmp cd x 0 = true then zjmp pc off else pc + len) lv st h cells slots) : zG p l e Rm s m args below meth c Q S0 D z L mi pc lv (.int x :: st) h cells slots := by
  intro H locs ls hR hl hq
  obtain ⟨hx, hb, -⟩ := C
  simp only [zlok, zlen, beq_iff_eq] at hlen
  subst hlen
  have kw := zg_w kk hR hl hq
  have ht : (pc : Int) + off = (zjmp pc off : Nat) := by unfold zjmp; omega
  cases cd
  · exact lv_if_eq hx hb hd ht (fun q => by simpa [zcmp, q] using kw) (fun q => by simpa [zcmp, q] using kw)
  · exact lv_if_ne hx hb hd ht (fun q => by simpa [zcmp, q] using kw) (fun q => by simpa [zcmp, q] using kw)
  · exact lv_if_lt hx hb hd ht (fun q => by simpa [zcmp, q] using kw) (fun q => by simpa [zcmp, q] using kw)
  · exact lv_if_ge hx hb hd ht (fun q => by simpa [zcmp, q] using kw) (fun q => by simpa [zcmp, q] using kw)
  · exact lv_if_gt hx hb hd ht (fun q => by simpa [zcmp, q] using kw) (fun q => by simpa [zcmp, q] using kw)
  · exact lv_if_le hx hb hd ht (fun q => by simpa [zcmp, q] using kw) (fun q => by simpa [zcmp, q] using kw)
theorem zs_icmp (C : zCx S0 p s m meth c mi) {len : Nat} {cd : ClassFile.Cond} {off : Int} {x y : Int32} (hd : decode (zcd mi) pc = .ok (.if_icmp cd off, len)) (hlen : zlok (.if_icmp cd off) len = true) (ho : 0 ≤ (pc : Int) + off)
    (kk : zG p l e Rm s m args below meth c Q S0 D z L mi (if zcmp cd x y = true then zjmp pc off else pc + len) lv st h cells slots) : zG p l e Rm s m args below meth c Q S0 D z L mi pc lv (.int y :: .int x :: st) h cells slots := by
  intro H locs ls hR hl hq
  obtain ⟨hx, hb, -⟩ := C
  simp only [zlok, zlen, beq_iff_eq] at hlen
  subst hlen
  have kw := zg_w kk hR hl hq
  have ht : (pc : Int) + off = (zjmp pc off : Nat) := by unfold zjmp; omega
  cases cd
  · exact lv_icmp_eq hx hb hd ht (fun q => by simpa [zcmp, q] using kw) (fun q => by simpa [zcmp, q] using kw)
  · exact lv_icmp_ne hx hb hd ht (fun q => by simpa [zcmp, q] using kw) (fun q => by simpa [zcmp, q] using kw)
  · exact lv_icmp_lt hx hb hd ht (fun q => by simpa [zcmp, q] using kw) (fun q => by simpa [zcmp, q] using kw)
  · exact lv_icmp_ge hx hb hd ht (fun q => by simpa [zcmp, q] using kw) (fun q => by simpa [zcmp, q] using kw)
  · exact lv_icmp_gt hx hb hd ht (fun q => by simpa [zcmp, q] using kw) (fun q => by simpa [zcmp, q] using kw)
  · exact lv_icmp_le hx hb hd ht (fun q => by simpa [zcmp, q] using kw) (fun q => by simpa [zcmp, q] using kw)
theorem zs_sw (C : zCx S0 p s m meth c mi) {len : Nat} {d lo hi : Int} {offs : Array Int} {x : Int32} (hd : decode (zcd mi) pc = .ok (.tableswitch d lo hi offs, len)) (hof : ((hi - lo).toNat) < offs.size) (ho : 0 ≤ (pc : Int) + zsw lo hi d offs x.toInt)
    (kk : zG p l e Rm s m args below meth c Q S0 D z L mi (zjmp pc (zsw lo hi d offs x.toInt)) lv st h cells slots) : zG p l e Rm s m args below meth c Q S0 D z L mi pc lv (.int x :: st) h cells slots := by
  intro H locs ls hR hl hq
  obtain ⟨hx, hb, -⟩ := C
  have kw := zg_w kk hR hl hq
  have ht : (pc : Int) + zsw lo hi d offs x.toInt = (zjmp pc (zsw lo hi d offs x.toInt) : Nat) := by unfold zjmp; omega
  by_cases hin : x.toInt < lo ∨ hi < x.toInt
  · have e1 : zsw lo hi d offs x.toInt = d := by simp [zsw, hin]
    rw [e1] at ht kw
    exact lv_tableOut hx hb hd hin ht kw
  · have hlt : (x.toInt - lo).toNat < offs.size := by omega
    have e2 : offs[(x.toInt - lo).toNat]? = some (zsw lo hi d offs x.toInt) := by
      simp [zsw, hin, hlt]
    exact lv_tableIn hx hb hd (fun q => hin (Or.inl q)) (fun q => hin (Or.inr q)) e2 ht kw
theorem zs_stk (C : zCx S0 p s m meth c mi) {i : Instr} {len : Nat} {st' : List Value} (hd : decode (zcd mi) pc = .ok (i, len)) (hlen : zlok i len = true) (hi : zstk i st = some st') (kk : zG p l e Rm s m args below meth c Q S0 D z L mi (pc + len) lv st' h cells slots) : zG p l e Rm s m args below meth c Q S0 D z L mi pc lv st h cells slots := by
  intro H locs ls hR hl hq
  obtain ⟨hx, hb, -⟩ := C
  have kw := zg_w kk hR hl hq
  unfold zstk at hi
  split at hi
  all_goals first
    | (cases hi; done)
    | (cases hi; simp only [zlok, zlen, beq_iff_eq] at hlen; subst hlen; first
        | exact lv_ineg hx hb hd kw
        | exact lv_i2l hx hb hd rfl kw
        | exact lv_l2i hx hb hd rfl kw
        | exact lv_lshr hx hb hd rfl kw
        | exact W.lcmp hx hb hd kw
        | exact lv_dup hx hb hd rfl kw
        | exact lv_dup2_11 hx hb hd rfl rfl kw
        | exact lv_dup_x1 hx hb hd rfl rfl kw
        | exact lv_pop hx hb hd rfl kw)
theorem zCx.ts (F : zFix S0 D z) (C : zCx S0 p s m meth c mi) : ∀ w ∈ zws, w.before args s = true := fun w hw => F.1 w hw args s C.2.2.2.2.2.2.2.1
theorem zs_getf (F : zFix S0 D z) (C : zCx S0 p s m meth c mi) {len k ci f a : Nat} (hd : decode (zcd mi) pc = .ok (.getfield k, len)) (hlen : zlok (.getfield k) len = true) (hf : zfl (zoc mi) k = some (ci, f)) (hk : zk L h a = some (.inr ci)) (hfl : f < zfN ci)
    (kk : zG p l e Rm s m args below meth c Q S0 D z L mi (pc + len) lv (zval (zft ci f) h a f :: st) h cells slots) : zG p l e Rm s m args below meth c Q S0 D z L mi pc lv (.ref a :: st) h cells slots := by
  intro H locs ls hR hl hq
  have hts := zCx.ts (args := args) F C
  obtain ⟨hx, hb, hml, hown, hlocks, hret, hname, hW, hsz, htab, hag, hns⟩ := C
  simp only [zlok, zlen, beq_iff_eq] at hlen
  subst hlen
  have kw := zg_w kk hR hl hq
  obtain ⟨cell, g1, hci, g2, g3, g4⟩ := hR.at hk
  have hK := va_K.moved hW.alike F.2.1
  obtain ⟨hS, hfc, kC, hkC, hkind⟩ := hK.1 ci _ (zcls_at ci hci)
  obtain ⟨cf, kf, fi, fd, hi, hsl⟩ := hS f hfl
  have hlay := u_lays hts (zlay ci hci) hfl
  have hst := (u_facts hfc hkC hlay hi).1
  have hkn : cell.vm ≠ .unknown := by rw [g2]; exact fun q => by cases q
  have hv : cell.slots[fd.slot]? = some (zv S0 z (zval (zft ci f) h a f)) := by rw [hsl]; exact g4 f hfl
  rcases zfl_ok hf with hlk | ⟨host, hlk⟩
  · exact W.getf hx hb hown (hts _ hlk) hi hst g1 hkn hv rfl rfl hd kw
  · exact va_Wgetf hx hb hown (hts _ hlk) hi hst g1 hkn hv rfl rfl hd kw
theorem zs_putf (F : zFix S0 D z) (C : zCx S0 p s m meth c mi) {len k ci f a : Nat} {v : Value} {h' : zHp} (hd : decode (zcd mi) pc = .ok (.putfield k, len)) (hlen : zlok (.putfield k) len = true) (hf : zfl (zoc mi) k = some (ci, f)) (hk : zk L h a = some (.inr ci)) (hfl : f < zfN ci) (ha : zS ≤ a) (hfin : (zfT ci f).2.2.2 = true → zoc mi = ci ∧ (zy mi).name = "<init>") (hp : zput (zft ci f) h a f v = some h')
    (kk : zG p l e Rm s m args below meth c Q S0 D z L mi (pc + len) lv st h' cells slots) : zG p l e Rm s m args below meth c Q S0 D z L mi pc lv (v :: .ref a :: st) h cells slots := by
  intro H locs ls hR hl hq
  have hts := zCx.ts (args := args) F C
  obtain ⟨hx, hb, hml, hown, hlocks, hret, hname, hW, hsz, htab, hag, hns⟩ := C
  simp only [zlok, zlen, beq_iff_eq] at hlen
  subst hlen
  obtain ⟨p1, p2, p3, p4, p5, p6, p7⟩ := zput_facts (S0 := S0) (z := z) hp
  obtain ⟨cell, g1, hci, g2, g3, g4⟩ := hR.at hk
  have hK := va_K.moved hW.alike F.2.1
  have hap := va_apart (own := zcn (zoc mi)) hts (zlay ci hci) (zft ci) (zty_ok ci hci) (znm_ok ci hci) hK (zcls_at ci hci)
  obtain ⟨hS, hfc, kC, hkC, hkind⟩ := hK.1 ci _ (zcls_at ci hci)
  obtain ⟨cf, kf, fi, fd, hi, hsl⟩ := hS f hfl
  have hlay := u_lays hts (zlay ci hci) hfl
  have hst := (u_facts hfc hkC hlay hi).1
  have hkn : cell.vm ≠ .unknown := by rw [g2]; exact fun q => by cases q
  have hfit := u_fits hfc hkC hkind hlay hi (zty_ok ci hci f hfl) p6 p7
  have hlt : fd.slot < cell.slots.size := by rw [hsl]; exact k2_hasslot (g4 f hfl)
  have hfinal : hasFlag fd.accessFlags Acc.final = false ∨ (m.cls = cf ∧ meth.name = "<init>") := by
    have hlay2 := hts _ (zlay ci hci _ (u_in_lay hfl))
    unfold u_lay at hlay2
    by_cases hff : (zfT ci f).2.2.2 = true
    · rw [if_pos hff] at hlay2
      obtain ⟨e1, e2⟩ := hfin hff
      refine Or.inr ⟨?_, by rw [hname]; exact e2⟩
      obtain ⟨_, _, c', _, _, _, -, -, hf', -, -, -, hown2, -⟩ := Cond.laysFinal_spec hlay2
      have e3 : c' = cf := by have := hi.symm.trans hf'; simp at this; exact this.1.symm
      rw [zdecl ci hci f hfl, ← e1] at hown2
      rw [← e3]; exact Option.some.inj (hown.symm.trans hown2)
    · rw [if_neg hff] at hlay2
      exact Or.inl (u_store hfc hkC hkind hlay2 hi (zty_ok ci hci f hfl) p6 p7).1
  have hlt1 : zr S0 z a < H.size := (Array.getElem?_eq_some_iff.mp g1).1
  have hR' : zRl S0 D z L h' (H.setIfInBounds (zr S0 z a) (cell.setSlot fd.slot (zv S0 z v))) := by
    refine hR.set ha hk p1 p3 (cell := cell.setSlot fd.slot (zv S0 z v)) (by simp [Array.getElem?_setIfInBounds, hlt1]) ⟨hci, g2, g3, fun j hj => ?_⟩ (by simp) (fun q hq' => by simp [Array.getElem?_setIfInBounds, Ne.symm hq'])
    have e := t_set g4 hap hfl (zv S0 z v) j hj
    rw [hsl, e]
    by_cases hjf : j = f
    · subst hjf
      simp [updV, p5]
    · simp [updV, hjf, p4 _ j hjf]
  have kw := zg_w (locs := locs ++ [⟨zr S0 z a, fd.slot⟩]) kk hR' hl (fun q hq' => by
    rcases List.mem_append.mp hq' with g | g
    · exact hq q g
    · rw [List.mem_singleton.mp g]; exact zr_big hR ha)
  rcases zfl_ok hf with hlk | ⟨host, hlk⟩
  · exact W.putf hx hb hown (hts _ hlk) hi hst hfinal g1 hkn hlt hfit.1 (by rw [g2, g3]; exact hfit.2) rfl rfl hd kw
  · exact va_Wputf hx hb hown (hts _ hlk) hi hst hfinal g1 hkn hlt hfit.1 (by rw [g2, g3]; exact hfit.2) rfl rfl hd kw
theorem zs_gets (F : zFix S0 D z) (C : zCx S0 p s m meth c mi) {len k a : Nat} (hd : decode (zcd mi) pc = .ok (.getstatic k, len)) (hlen : zlok (.getstatic k) len = true) (hf : zsl (zoc mi) k = some a)
    (kk : zG p l e Rm s m args below meth c Q S0 D z L mi (pc + len) lv (.ref a :: st) h cells slots) : zG p l e Rm s m args below meth c Q S0 D z L mi pc lv st h cells slots := by
  intro H locs ls hR hl hq
  have hts := zCx.ts (args := args) F C
  obtain ⟨hx, hb, hml, hown, hlocks, hret, hname, hW, hsz, htab, hag, hns⟩ := C
  simp only [zlok, zlen, beq_iff_eq] at hlen
  subst hlen
  have kw := zg_w kk hR hl hq
  obtain ⟨haS, C1, n1, d1, hlk, hZ⟩ := F.2.2 _ _ _ hf
  obtain ⟨cf, kf, fi, fd, q, cell, e1, e2, e3, e4, e5, e6, e7, e8⟩ := va_Z.moved hW.alike hZ
  have hqlt : q < S0.heap.size := (Array.getElem?_eq_some_iff.mp e5).1
  have hkn : cell.vm ≠ .unknown := by intro q; rw [q] at e6; cases e6
  have hzr : zr S0 z a = z a := by unfold zr; rw [if_pos haS]
  refine W.gets hx hb hown (hts _ hlk) e1 e2 e3 e4 (by rw [hR.2.2.1 q hqlt]; exact e5) hkn e7 rfl hd ?_
  have kw2 : W p l e Rm s m args below meth c H locs cells slots Q (F0 m (pc + 3) ls (.ref (z a) :: st.map (zv S0 z))) := by
    have : (Value.ref a :: st).map (zv S0 z) = .ref (z a) :: st.map (zv S0 z) := by
      show Value.ref (zr S0 z a) :: _ = _
      rw [hzr]
    rw [← this]; exact kw
  exact kw2
theorem zs_ald (F : zFix S0 D z) (C : zCx S0 p s m meth c mi) {i : Instr} {len a : Nat} {j : Int32} {ty : FieldType → Bool} {v : Value} (hd : decode (zcd mi) pc = .ok (i, len)) (hlen : zlok i len = true) (hi : zaldi i = some ty) (hv : zald L ty h a j = some v)
    (kk : zG p l e Rm s m args below meth c Q S0 D z L mi (pc + len) lv (v :: st) h cells slots) : zG p l e Rm s m args below meth c Q S0 D z L mi pc lv (.int j :: .ref a :: st) h cells slots := by
  intro H locs ls hR hl hq
  obtain ⟨hx, hb, hml, hown, hlocks, hret, hname, hW, hsz, htab, hag, hns⟩ := C
  have kw := zg_w kk hR hl hq
  unfold zald at hv
  split at hv
  next t n hk =>
    split at hv
    next hc =>
      obtain ⟨h1, h2, h3⟩ := hc
      cases hv
      obtain ⟨cell, g1, g2, g3, g4, g5, -⟩ := hR.at hk
      have harr : s.isArrayOf cell t := State.isArrayOf_alike hW.alike g3
      have hin : ¬ (j < 0 ∨ cell.slots.size ≤ j.toNatClampNeg) := by
        have := g4.1
        rintro (q | q)
        · exact absurd h2 (Int32.not_le.mpr q)
        · omega
      have hvv := g5 _ h3
      cases i
      case aaload =>
        cases hi
        simp only [zlok, zlen, beq_iff_eq] at hlen; subst hlen
        cases t <;> simp only [zisR, Bool.false_eq_true] at h1
        · exact W.aald hx hb g1 harr rfl g2 hin hvv rfl rfl hd kw
        · exact W.aald hx hb g1 harr rfl g2 hin hvv rfl rfl hd kw
      case baload =>
        cases hi
        simp only [zlok, zlen, beq_iff_eq] at hlen; subst hlen
        cases t <;> simp only [zisZ, Bool.false_eq_true] at h1
        exact W.zald hx hb g1 harr g2 hin hvv rfl rfl hd kw
      case iaload =>
        cases hi
        simp only [zlok, zlen, beq_iff_eq] at hlen; subst hlen
        cases t <;> simp only [zisI, Bool.false_eq_true] at h1
        exact W.iald hx hb g1 harr g2 hin hvv rfl rfl hd kw
      case laload =>
        cases hi
        simp only [zlok, zlen, beq_iff_eq] at hlen; subst hlen
        cases t <;> simp only [zisL, Bool.false_eq_true] at h1
        exact W.lald hx hb g1 harr g2 hin hvv rfl rfl hd kw
      all_goals cases hi
    next => cases hv
  next => cases hv
theorem zcell.store {h' : zHp} {a n k : Nat} {ty : FieldType} {cell : Cell} {v : Value} (hc : zcell S0 D z h a (.inl (ty, n)) cell) (hk : k < n) (p4 : ∀ (t : FieldType) (j : Nat), j ≠ k → zval t h' a j = zval t h a j) (p5 : zval ty h' a k = v) : zcell S0 D z h' a (.inl (ty, n)) (cell.setSlot k (zv S0 z v)) := by
  obtain ⟨g2, g3, g4, g5, g6⟩ := hc
  refine ⟨g2, g3, by rw [k2_slotsz]; exact g4, fun j hj => ?_, g6⟩
  by_cases hjk : j = k
  · subst hjk
    rw [Cell.slots_setSlot_self _ (Nat.lt_of_lt_of_le hk g4.1), p5]
  · rw [slot_ne _ _ (Ne.symm hjk), g5 j hj, p4 _ j hjk]
theorem zs_ast (F : zFix S0 D z) (C : zCx S0 p s m meth c mi) {i : Instr} {len a : Nat} {j : Int32} {ty : FieldType → Bool} {v : Value} {h' : zHp} (hd : decode (zcd mi) pc = .ok (i, len)) (hlen : zlok i len = true) (hi : zasti i = some ty) (hv : zast L ty h a j v = some h')
    (kk : zG p l e Rm s m args below meth c Q S0 D z L mi (pc + len) lv st h' cells slots) : zG p l e Rm s m args below meth c Q S0 D z L mi pc lv (v :: .int j :: .ref a :: st) h cells slots := by
  intro H locs ls hR hl hq
  obtain ⟨hx, hb, hml, hown, hlocks, hret, hname, hW, hsz, htab, hag, hns⟩ := C
  unfold zast at hv
  split at hv
  next t n hk =>
    split at hv
    next hc =>
      obtain ⟨h1, h2, h3, ha⟩ := hc
      obtain ⟨p1, p2, p3, p4, p5, p6, p7⟩ := zput_facts (S0 := S0) (z := z) hv
      obtain ⟨cell, g1, gc⟩ := hR.at hk
      have gc' := gc
      obtain ⟨g2, g3, g4, g5, -⟩ := gc'
      have harr : s.isArrayOf cell t := State.isArrayOf_alike hW.alike g3
      have hin : ¬ (j < 0 ∨ cell.slots.size ≤ j.toNatClampNeg) := by
        have := g4.1
        rintro (q | q)
        · exact absurd h2 (Int32.not_le.mpr q)
        · omega
      have fin : ∀ H' : Heap, H'[zr S0 z a]? = some (cell.setSlot j.toNatClampNeg (zv S0 z v)) → H'.size = H.size → (∀ q, q ≠ zr S0 z a → H'[q]? = H[q]?) → W p l e Rm s m args below meth c H' (locs ++ [⟨zr S0 z a, j.toNatClampNeg⟩]) cells slots Q (F0 m (pc + len) ls (st.map (zv S0 z))) := fun H' e1 e2 e3 =>
        zg_w kk (hR.set ha hk p1 p3 e1 (gc.store h3 p4 p5) e2 e3) hl (fun q hq' => by
          rcases List.mem_append.mp hq' with g | g
          · exact hq q g
          · rw [List.mem_singleton.mp g]; exact zr_big hR ha)
      cases i
      case bastore =>
        cases hi
        simp only [zlok, zlen, beq_iff_eq] at hlen; subst hlen
        cases t <;> simp only [zisZ, Bool.false_eq_true] at h1
        cases v <;> simp only [zput, reduceCtorEq] at hv
        exact W.zast hx hb g1 harr g2 hin rfl rfl hd (fun H' e1 e2 e3 => fin H' (by rw [e1]; exact congrArg (fun y => some (cell.setSlot j.toNatClampNeg y)) p6) e2 e3)
      case iastore =>
        cases hi
        simp only [zlok, zlen, beq_iff_eq] at hlen; subst hlen
        cases t <;> simp only [zisI, Bool.false_eq_true] at h1
        cases v <;> simp only [zput, reduceCtorEq] at hv
        exact W.iast hx hb g1 harr g2 hin rfl rfl hd fin
      case lastore =>
        cases hi
        simp only [zlok, zlen, beq_iff_eq] at hlen; subst hlen
        cases t <;> simp only [zisL, Bool.false_eq_true] at h1
        cases v <;> simp only [zput, reduceCtorEq] at hv
        exact W.last hx hb g1 harr g2 hin rfl rfl hd fin
      all_goals cases hi
    next => cases hv
  next => cases hv
theorem zs_aast (F : zFix S0 D z) (C : zCx S0 p s m meth c mi) {len a v ci n : Nat} {j : Int32} (hd : decode (zcd mi) pc = .ok (.aastore, len)) (hlen : zlok .aastore len = true) (hkv : zk L h v = some (.inr ci)) (hka : zk L h a = some (.inl (.object (zcn ci), n))) (h2 : 0 ≤ j) (h3 : j.toNatClampNeg < n) (ha : zS ≤ a)
    (kk : zG p l e Rm s m args below meth c Q S0 D z L mi (pc + len) lv st (h.1, h.2.1, h.2.2.1, h.2.2.2.1, zu h.2.2.2.2 a j.toNatClampNeg (some v)) cells slots) : zG p l e Rm s m args below meth c Q S0 D z L mi pc lv (.ref v :: .int j :: .ref a :: st) h cells slots := by
  intro H locs ls hR hl hq
  obtain ⟨hx, hb, hml, hown, hlocks, hret, hname, hW, hsz, htab, hag, hns⟩ := C
  simp only [zlok, zlen, beq_iff_eq] at hlen
  subst hlen
  have hp : zput (.object (zcn ci)) h a j.toNatClampNeg (.ref v) = some (h.1, h.2.1, h.2.2.1, h.2.2.2.1, zu h.2.2.2.2 a j.toNatClampNeg (some v)) := rfl
  obtain ⟨p1, p2, p3, p4, p5, p6, p7⟩ := zput_facts (S0 := S0) (z := z) hp
  obtain ⟨cell, g1, gc⟩ := hR.at hka
  obtain ⟨cv, v1, vci, v2, v3, -⟩ := hR.at hkv
  have gc' := gc
  obtain ⟨g2, g3, g4, g5, g6⟩ := gc'
  obtain ⟨kA, comp, k1, k2, k3⟩ := g6 _ rfl
  have hK := va_K.moved hW.alike F.2.1
  obtain ⟨-, hfc, kC, hkC, hkind⟩ := hK.1 ci _ (zcls_at ci vci)
  obtain ⟨kA', ka1, ka2⟩ := hW.alike.2.2 _ _ k1
  have ecomp : s.vm.findClass (zcn ci) = some comp := by rw [← k3]; exact hW.alike.findClass _ _
  have ec : D.1 ci = comp := Option.some.inj (hfc.symm.trans ecomp)
  refine W.aast hx hb g1 g3.1 g2 ka1 (by rw [ka2]; exact k2) rfl (kcomp := kC) (by rw [← ec]; exact hkC) ⟨Int32.not_lt.mpr h2, Nat.lt_of_lt_of_le h3 g4.1⟩ v1 (by rw [v2]; exact fun q => by intro e; cases e) (kv := kC) (by rw [v3]; exact hkC) (by rw [v3, ec]; exact va_asg _ _) rfl rfl hd (fun H' e1 e2 e3 => ?_)
  exact zg_w kk (hR.set ha hka p1 p3 e1 (gc.store h3 p4 p5) e2 e3) hl (fun q hq' => by
          rcases List.mem_append.mp hq' with g | g
          · exact hq q g
          · rw [List.mem_singleton.mp g]; exact zr_big hR ha)
theorem zs_alen (F : zFix S0 D z) (C : zCx S0 p s m meth c mi) {len a n : Nat} {t : FieldType} (hd : decode (zcd mi) pc = .ok (.arraylength, len)) (hlen : zlok .arraylength len = true) (hk : zk L h a = some (.inl (t, n)))
    (kk : zG p l e Rm s m args below meth c Q S0 D z L mi (pc + len) lv (.int (Int32.ofNat n) :: st) h cells slots) : zG p l e Rm s m args below meth c Q S0 D z L mi pc lv (.ref a :: st) h cells slots := by
  intro H locs ls hR hl hq
  obtain ⟨hx, hb, hml, hown, hlocks, hret, hname, hW, hsz, htab, hag, hns⟩ := C
  simp only [zlok, zlen, beq_iff_eq] at hlen
  subst hlen
  obtain ⟨cell, g1, g2, g3, g4, g5, -⟩ := hR.at hk
  exact W.alen hx hb g1 (State.isArrayOf_alike hW.alike g3) g4.2 rfl rfl hd (zg_w kk hR hl hq)
def zzero (t : FieldType) : Value := match t with
  | .long => .long 0
  | .object _ => .null
  | .array _ => .null
  | _ => .int 0
theorem znew_facts (n : Nat) : (znew h n).1 = h.1 + 1 ∧ (znew h n).2.1 = h.2.1 + n ∧ (∀ b, b < h.1 → ∀ (t : FieldType) (j : Nat), zval t (znew h n) b j = zval t h b j) ∧ ∀ (t : FieldType) (j : Nat), zval t (znew h n) h.1 j = zzero t := by
  refine ⟨rfl, rfl, fun b hb t j => ?_, fun t j => ?_⟩
  · have hne : b ≠ h.1 := by omega
    cases t <;> simp [zval, znew, zc, hne]
  · cases t <;> simp [zval, znew, zc, va_rf, zzero]
theorem zdef (t : FieldType) (ht : zftok t = true) : defaultValue t = zv S0 z (zzero t) := by
  cases t <;> first | rfl | cases ht
theorem zna_ok {t : ArrayType} (h : zna t = true) : Cond.arrayClass (newarray.typeOf t) ∈ zws := by
  cases t <;> first | exact zarr_ok.1.2 | exact zarr_ok.2.1 | exact zarr_ok.2.2 | cases h
theorem zs_new (F : zFix S0 D z) (C : zCx S0 p s m meth c mi) {len k ci : Nat} (hd : decode (zcd mi) pc = .ok (.new k, len)) (hlen : zlok (.new k) len = true) (hf : zcl (zoc mi) k = some (.inl ci)) (hk : zK L h.1 = some (.inr ci)) (hc1 : cells + 1 ≤ Rm.cells) (hc2 : slots + zfN ci ≤ Rm.slots)
    (kk : zG p l e Rm s m args below meth c Q S0 D z L mi (pc + len) lv (.ref h.1 :: st) (znew h (zfN ci)) (cells + 1) (slots + zfN ci)) : zG p l e Rm s m args below meth c Q S0 D z L mi pc lv st h cells slots := by
  intro H locs ls hR hl hq
  have hts := zCx.ts (args := args) F C
  obtain ⟨hx, hb, hml, hown, hlocks, hret, hname, hW, hsz, htab, hag, hns⟩ := C
  simp only [zlok, zlen, beq_iff_eq] at hlen
  subst hlen
  obtain ⟨hci, w1, w2, w3⟩ := zcl_ok hf
  have hK := va_K.moved hW.alike F.2.1
  have hKn := hK.1 ci _ (zcls_at ci hci)
  obtain ⟨n1, n2, n3, n4⟩ := znew_facts (h := h) (zfN ci)
  refine W.newcK hx hb hown (hts _ w1) (hts _ w2) (hts _ w3) rfl hd hc1 hc2 hKn.2.1 rfl (fun H' kC e0 e1 e2 e3 => ?_)
  obtain ⟨cell, b1, b2, b3, b4⟩ := u_born (zft ci) hts (zlay ci hci) hKn e0 e1 (zty_ok ci hci)
  have hR' : zRl S0 D z L (znew h (zfN ci)) H' := by
    refine hR.new n1 n3 (cell := cell) b1 (by rw [b3]; rfl) (fun kd hkd => ?_) e2 e3
    rw [hk] at hkd
    cases hkd
    refine ⟨hci, b3, b2, fun j hj => ?_⟩
    rw [b4 j hj, n4]
    exact congrArg some (zdef _ (zft_ok ci hci j hj))
  have kw := zg_w kk hR' hl hq
  have ez : ((Value.ref h.1 :: st).map (zv S0 z)) = .ref H.size :: st.map (zv S0 z) := by
    show Value.ref (zr S0 z h.1) :: _ = _
    rw [zr_new hR]
  rw [ez] at kw
  exact kw
theorem zs_newa (F : zFix S0 D z) (C : zCx S0 p s m meth c mi) {len : Nat} {t : ArrayType} {n : Int32} (hd : decode (zcd mi) pc = .ok (.newarray t, len)) (hlen : zlok (.newarray t) len = true) (hna : zna t = true) (hn : 0 ≤ n) (hk : zK L h.1 = some (.inl (newarray.typeOf t, n.toNatClampNeg))) (hN : n.toNatClampNeg ≤ 65536) (hc1 : cells + 1 ≤ Rm.cells) (hc2 : slots + n.toNatClampNeg ≤ Rm.slots)
    (kk : zG p l e Rm s m args below meth c Q S0 D z L mi (pc + len) lv (.ref h.1 :: st) (znew h n.toNatClampNeg) (cells + 1) (slots + n.toNatClampNeg)) : zG p l e Rm s m args below meth c Q S0 D z L mi pc lv (.int n :: st) h cells slots := by
  intro H locs ls hR hl hq
  have hts := zCx.ts (args := args) F C
  obtain ⟨hx, hb, hml, hown, hlocks, hret, hname, hW, hsz, htab, hag, hns⟩ := C
  simp only [zlok, zlen, beq_iff_eq] at hlen
  subst hlen
  obtain ⟨n1, n2, n3, n4⟩ := znew_facts (h := h) n.toNatClampNeg
  have hby : n.toNatClampNeg * componentBytes (newarray.typeOf t) ≤ 536870912 := by
    cases t <;> simp only [newarray.typeOf, componentBytes] <;> omega
  refine W.newaK hx hb (hts _ (zna_ok hna)) rfl hd rfl (Int32.not_lt.mpr hn) rfl hby hc1 hc2 rfl (fun H' cA e1 e2 e3 e4 => ?_)
  have hR' : zRl S0 D z L (znew h n.toNatClampNeg) H' := by
    refine hR.new n1 n3 e1 rfl (fun kd hkd => ?_) e2 e3
    rw [hk] at hkd
    cases hkd
    refine ⟨fun q => (by cases q), State.isArrayOf_alike hW.alike.symm (e4 _ _), zsz_of (arrV_size _ _ _), fun j hj => ?_, fun C hC => ?_⟩
    · rw [arrV_read _ _ hj, n4]
      cases t <;> first | rfl | (simp [zna] at hna)
    · cases t <;> simp [newarray.typeOf] at hC
  have kw := zg_w kk hR' hl hq
  have ez : ((Value.ref h.1 :: st).map (zv S0 z)) = .ref H.size :: st.map (zv S0 z) := by
    show Value.ref (zr S0 z h.1) :: _ = _
    rw [zr_new hR]
  rw [ez] at kw
  exact kw
theorem zs_anew (F : zFix S0 D z) (C : zCx S0 p s m meth c mi) {len k : Nat} {A : String} {n : Int32} (hd : decode (zcd mi) pc = .ok (.anewarray k, len)) (hlen : zlok (.anewarray k) len = true) (hal : zal (zoc mi) k = some A) (hn : 0 ≤ n) (hk : zK L h.1 = some (.inl (.object A, n.toNatClampNeg))) (hN : n.toNatClampNeg ≤ 65536) (hc1 : cells + 1 ≤ Rm.cells) (hc2 : slots + n.toNatClampNeg ≤ Rm.slots)
    (kk : zG p l e Rm s m args below meth c Q S0 D z L mi (pc + len) lv (.ref h.1 :: st) (znew h n.toNatClampNeg) (cells + 1) (slots + n.toNatClampNeg)) : zG p l e Rm s m args below meth c Q S0 D z L mi pc lv (.int n :: st) h cells slots := by
  intro H locs ls hR hl hq
  have hts := zCx.ts (args := args) F C
  obtain ⟨hx, hb, hml, hown, hlocks, hret, hname, hW, hsz, htab, hag, hns⟩ := C
  simp only [zlok, zlen, beq_iff_eq] at hlen
  subst hlen
  obtain ⟨n1, n2, n3, n4⟩ := znew_facts (h := h) n.toNatClampNeg
  obtain ⟨w1, w2⟩ := zal_ok hal
  refine W.anew hx hb hown (hts _ w1) (hts _ w2) rfl hd rfl (Int32.not_lt.mpr hn) (by omega) hc1 hc2 (fun cA kA comp q1 q2 q3 q4 => ?_)
  obtain ⟨kA', ka1, ka2⟩ := hW.alike.symm.2.2 _ _ q2
  have hfc : S0.vm.findClass A = some comp := by rw [← q4]; exact hW.alike.symm.findClass _ _
  have hR' : zRl S0 D z L (znew h n.toNatClampNeg) (H.push { cls := cA, slots := Array.replicate n.toNatClampNeg .null, vm := .none }) := by
    refine hR.new n1 n3 (cell := { cls := cA, slots := Array.replicate n.toNatClampNeg .null, vm := .none }) (by simp) rfl (fun kd hkd => ?_) (by simp) (fun q hq' => by rw [Array.getElem?_push, if_neg (Nat.ne_of_lt hq')])
    rw [hk] at hkd
    cases hkd
    refine ⟨fun q => (by cases q), ⟨fun q e => (by cases e), kA', ka1, comp, by rw [ka2]; exact q3⟩, zsz_of (by simp), fun j hj => ?_, fun C2 hC2 => ?_⟩
    · rw [n4]
      simp [hj, zv, zzero]
    · cases hC2
      exact ⟨kA', comp, ka1, by rw [ka2]; exact q3, hfc⟩
  have kw := zg_w kk hR' hl hq
  have ez : ((Value.ref h.1 :: st).map (zv S0 z)) = .ref H.size :: st.map (zv S0 z) := by
    show Value.ref (zr S0 z h.1) :: _ = _
    rw [zr_new hR]
  rw [ez] at kw
  exact kw
theorem zs_obj (F : zFix S0 D z) (C : zCx S0 p s m meth c mi) {len k a : Nat} (hd : decode (zcd mi) pc = .ok (.invokespecial k, len)) (hlen : zlok (.invokespecial k) len = true) (hob : zob (zoc mi) k = true) (hfr : 1 ≤ Rm.frames) (hlo : zcat st + 12 ≤ Rm.locals)
    (kk : zG p l e Rm s m args below meth c Q S0 D z L mi (pc + len) lv st h cells slots) : zG p l e Rm s m args below meth c Q S0 D z L mi pc lv (.ref a :: st) h cells slots := by
  intro H locs ls hR hl hq
  have hts := zCx.ts (args := args) F C
  obtain ⟨hx, hb, hml, hown, hlocks, hret, hname, hW, hsz, htab, hag, hns⟩ := C
  simp only [zlok, zlen, beq_iff_eq] at hlen
  subst hlen
  obtain ⟨w1, w2, w3⟩ := zob_ok hob
  refine W.objInit hx hb hown (hts _ w1) (hts _ w2) (hts _ w3) rfl (by rw [hml]; exact hl.size) rfl hd hfr ?_ (zg_w kk hR hl hq)
  have e : ((st.map (zv S0 z)).map fun v => v.category) = st.map fun v => v.category := by
    rw [List.map_map]; exact List.map_congr_left (fun v _ => zv_cat S0 z v)
  show 2 * 0 + (((st.map (zv S0 z)).map fun v => v.category)).sum + 12 ≤ Rm.locals
  rw [e]
  unfold zcat at hlo
  omega
theorem zs_copy (F : zFix S0 D z) (C : zCx S0 p s m meth c mi) {len k src dst n0 n1 : Nat} {n dp sp : Int32} (hd : decode (zcd mi) pc = .ok (.invokestatic k, len)) (hlen : zlok (.invokestatic k) len = true) (hac : zac (zoc mi) k = true) (hks : zk L h src = some (.inl (.int, n0))) (hkd : zk L h dst = some (.inl (.int, n1)))
    (h1 : 0 ≤ n) (h2 : 0 ≤ dp) (h3 : 0 ≤ sp) (h4 : sp.toNatClampNeg + n.toNatClampNeg ≤ n0) (h5 : dp.toNatClampNeg + n.toNatClampNeg ≤ n1) (ha : zS ≤ dst) (hfr : 1 ≤ Rm.frames) (hlo : zcat st + 18 ≤ Rm.locals)
    (kk : zG p l e Rm s m args below meth c Q S0 D z L mi (pc + len) lv st (h.1, h.2.1, (fun b j => if b = dst then va_cpy (h.2.2.1 src) (h.2.2.1 dst) sp.toNatClampNeg dp.toNatClampNeg n.toNatClampNeg j else h.2.2.1 b j), h.2.2.2.1, h.2.2.2.2) cells slots) : zG p l e Rm s m args below meth c Q S0 D z L mi pc lv (.int n :: .int dp :: .ref dst :: .int sp :: .ref src :: st) h cells slots := by
  intro H locs ls hR hl hq
  have hts := zCx.ts (args := args) F C
  obtain ⟨hx, hb, hml, hown, hlocks, hret, hname, hW, hsz, htab, hag, hns⟩ := C
  simp only [zlok, zlen, beq_iff_eq] at hlen
  subst hlen
  obtain ⟨w1, w2, w3, w4⟩ := zac_ok hac
  obtain ⟨cs, s1, s2, s3, s4, s5, -⟩ := hR.at hks
  obtain ⟨cd, d1, dc⟩ := hR.at hkd
  have dc' := dc
  obtain ⟨d2, d3, d4, d5, -⟩ := dc'
  obtain ⟨-, ks, ks1, sComp, ks2⟩ := State.isArrayOf_alike hW.alike s3
  obtain ⟨-, kd, kd1, dComp, kd2⟩ := State.isArrayOf_alike hW.alike d3
  have nn : ∀ y : Int32, 0 ≤ y → y.toInt = (y.toNatClampNeg : Int) := fun y hy => (toNatClampNeg_of_not_neg32 y (Int32.not_lt.mpr hy)).symm
  intro T hT X
  have e : ((st.map (zv S0 z)).map fun v => v.category) = st.map fun v => v.category := by
    rw [List.map_map]; exact List.map_congr_left (fun v _ => zv_cat S0 z v)
  have hget : ∀ i, i < n.toNatClampNeg → cs.slots.getD (sp.toNatClampNeg + i) .null = .int (h.2.2.1 src (sp.toNatClampNeg + i)) := fun i hi => by
    rw [Array.getD_eq_getD_getElem?, s5 _ (by omega)]; rfl
  obtain ⟨vm', X', step⟩ := X.arraycopy hx hown (hts _ w1) (hts _ w2) (hts _ w3) (hts _ w4) (src := zr S0 z src) (dst := zr S0 z dst) (cs := cs) (cd := cd) (srcPos := sp) (destPos := dp) (n := n) (by rw [hT]; exact s1) (by rw [hT]; exact d1)
    s3.1 d3.1 s2 d2 ks1 kd1 ks2 kd2 (by decide) (Int32.not_lt.mpr h3) (Int32.not_lt.mpr h2) (Int32.not_lt.mpr h1)
    (by have := s4.1; rw [nn sp h3, nn n h1]; omega) (by have := d4.1; rw [nn dp h2, nn n h1]; omega)
    (fun vm₁ _ i hi => by rw [hget i hi]; exact ⟨rfl, trivial⟩)
    (g := F0 m pc ls (.int n :: .int dp :: .ref (zr S0 z dst) :: .int sp :: .ref (zr S0 z src) :: st.map (zv S0 z))) rfl (by rw [hml]; exact hl.size) (rest := st.map (zv S0 z)) rfl (by rw [hb]; exact hd) hfr (by
      show 2 * 0 + (((st.map (zv S0 z)).map fun v => v.category)).sum + (7 + 11) ≤ Rm.locals
      rw [e]; unfold zcat at hlo; omega)
  have hlt : zr S0 z dst < H.size := (Array.getElem?_eq_some_iff.mp d1).1
  have hheap : ((T.setVm vm').setCell (zr S0 z dst) (copied cs cd sp dp n)).heap = H.setIfInBounds (zr S0 z dst) (copied cs cd sp dp n) := by rw [← hT]; rfl
  have hF := Cell.storeRun_facts cd dp.toNatClampNeg (cs.stretch sp.toNatClampNeg n.toNatClampNeg)
  have hR' : zRl S0 D z L (h.1, h.2.1, (fun b j => if b = dst then va_cpy (h.2.2.1 src) (h.2.2.1 dst) sp.toNatClampNeg dp.toNatClampNeg n.toNatClampNeg j else h.2.2.1 b j), h.2.2.2.1, h.2.2.2.2) (H.setIfInBounds (zr S0 z dst) (copied cs cd sp dp n)) := by
    refine hR.set ha hkd rfl (fun b hb' t j => ?_) (cell := copied cs cd sp dp n) (by simp [Array.getElem?_setIfInBounds, hlt]) ?_ (by simp) (fun q hq' => by simp [Array.getElem?_setIfInBounds, Ne.symm hq'])
    · cases t <;> simp [zval, hb']
    · refine ⟨by show (cd.storeRun _ _).vm ≠ _; rw [hF.2.1]; exact d2, ⟨by show ∀ k, (cd.storeRun _ _).vm ≠ _; rw [hF.2.1]; exact d3.1, by show ∃ k, S0.vm.classes[(cd.storeRun _ _).cls]? = _ ∧ _; rw [hF.1]; exact d3.2⟩, by show zsz (cd.storeRun _ _).slots.size _; rw [hF.2.2.1]; exact d4, fun j hj => ?_, fun C2 hC2 => by cases hC2⟩
      show (cd.storeRun dp.toNatClampNeg (cs.stretch sp.toNatClampNeg n.toNatClampNeg)).slots[j]? = _
      rw [Cell.storeRun_get cd _ _ j (by rw [Cell.stretch_length]; exact Nat.le_trans h5 d4.1), Cell.stretch_length]
      by_cases hin : dp.toNatClampNeg ≤ j ∧ j < dp.toNatClampNeg + n.toNatClampNeg
      · rw [if_pos hin]
        have e1 : (cs.stretch sp.toNatClampNeg n.toNatClampNeg)[j - dp.toNatClampNeg]? = some (.int (h.2.2.1 src (sp.toNatClampNeg + (j - dp.toNatClampNeg)))) := by
          unfold Cell.stretch
          rw [List.getElem?_map, List.getElem?_range (by omega)]
          show some (cs.slots.getD _ _) = _
          rw [hget _ (by omega)]
        rw [e1]
        simp [zval, va_cpy, hin, zv]
      · rw [if_neg hin, d5 j hj]
        simp [zval, va_cpy, hin, zv]
  obtain ⟨t, a1, b1⟩ := zg_w kk hR' hl (locs := locs ++ (cs.stretch sp.toNatClampNeg n.toNatClampNeg).zipIdx.map fun q => ⟨zr S0 z dst, dp.toNatClampNeg + q.2⟩) (fun q hq' => by
    rcases List.mem_append.mp hq' with g | g
    · exact hq q g
    · obtain ⟨y, -, hy⟩ := List.mem_map.mp g
      rw [← hy]; exact zr_big hR ha) _ hheap X'
  exact ⟨t, step t a1, b1⟩
end ZST
end
section
section ZST2
variable {p : Program} {l : Launch} {e : Env} {Rm : Room} {s : State} {m : MethodId} {args : Array Value} {below : List Frame} {meth : Method} {c : Code} {H : Heap} {locs : List Loc} {cells slots : Nat} {Q : State → Prop}
variable {S0 : State} {D : va_G} {z : Nat → Nat} {L mi pc : Nat} {lv : zLv} {st : List Value} {h : zHp} {ls : Array Slot}
theorem zs_ldc (F : zFix S0 D z) (C : zCx S0 p s m meth c mi) {len k : Nat} {v : Int32} (hd : decode (zcd mi) pc = .ok (.ldc k, len)) (hlen : zlok (.ldc k) len = true) (hf : zkl (zoc mi) k = some v)
    (kk : zG p l e Rm s m args below meth c Q S0 D z L mi (pc + len) lv (.int v :: st) h cells slots) : zG p l e Rm s m args below meth c Q S0 D z L mi pc lv st h cells slots := by
  intro H locs ls hR hl hq
  have hts := zCx.ts (args := args) F C
  obtain ⟨hx, hb, hml, hown, hrest⟩ := C
  simp only [zlok, zlen, beq_iff_eq] at hlen
  subst hlen
  exact lv_ldc hx hb hown (hts _ (zkl_ok hf)) hd (zg_w kk hR hl hq)
theorem zs_ldc2 (F : zFix S0 D z) (C : zCx S0 p s m meth c mi) {len k : Nat} {v : Int64} (hd : decode (zcd mi) pc = .ok (.ldc2_w k, len)) (hlen : zlok (.ldc2_w k) len = true) (hf : zkL (zoc mi) k = some v)
    (kk : zG p l e Rm s m args below meth c Q S0 D z L mi (pc + len) lv (.long v :: st) h cells slots) : zG p l e Rm s m args below meth c Q S0 D z L mi pc lv st h cells slots := by
  intro H locs ls hR hl hq
  have hts := zCx.ts (args := args) F C
  obtain ⟨hx, hb, hml, hown, hrest⟩ := C
  simp only [zlok, zlen, beq_iff_eq] at hlen
  subst hlen
  exact lv_ldc2 hx hb hown (hts _ (zkL_ok hf)) hd (zg_w kk hR hl hq)
theorem zcat_map : ((st.map (zv S0 z)).map fun v => v.category).sum = zcat st := by
  unfold zcat
  rw [List.map_map]
  exact congrArg List.sum (List.map_congr_left (fun v _ => zv_cat S0 z v))
theorem zs_min (F : zFix S0 D z) (C : zCx S0 p s m meth c mi) {len k : Nat} {x y : Int32} (hd : decode (zcd mi) pc = .ok (.invokestatic k, len)) (hlen : zlok (.invokestatic k) len = true) (hmn : zmn (zoc mi) k = true) (hfr : 1 ≤ Rm.frames) (hlo : zcat st + 13 ≤ Rm.locals) (hc : cells ≤ Rm.cells) (hs : slots ≤ Rm.slots)
    (kk : zG p l e Rm s m args below meth c Q S0 D z L mi (pc + len) lv (.int (if y < x then y else x) :: st) h cells slots) : zG p l e Rm s m args below meth c Q S0 D z L mi pc lv (.int y :: .int x :: st) h cells slots := by
  intro H locs ls hR hl hq
  have hts := zCx.ts (args := args) F C
  obtain ⟨hx, hb, hml, hown, hrest⟩ := C
  simp only [zlok, zlen, beq_iff_eq] at hlen
  subst hlen
  obtain ⟨w1, w2, w3, w4⟩ := zmn_ok hmn
  exact va_mmin hx hb (by rw [hml]; exact hl.size.symm) hown (hts _ w1) (hts _ w2) (hts _ w3) (hts _ w4) hfr (by rw [zcat_map]; exact hlo) hc hs hd (zg_w kk hR hl hq)
theorem zrows_facts (N M : Nat) : (∀ b, b < h.1 → ∀ (t : FieldType) (j : Nat), zval t (zrows h N M) b j = zval t h b j) ∧ (∀ j, zval (.array .int) (zrows h N M) h.1 j = va_rf (if j < N then some (h.1 + 1 + j) else none)) ∧
    ∀ i, i < N → ∀ j, zval .int (zrows h N M) (h.1 + 1 + i) j = .int 0 := by
  refine ⟨fun b hb t j => ?_, fun j => ?_, fun i hi j => ?_⟩
  · have h1 : ¬ (h.1 ≤ b ∧ b ≤ h.1 + N) := by omega
    have h2 : b ≠ h.1 := by omega
    cases t <;> simp [zval, zrows, h1, h2]
  · simp [zval, zrows]
  · have h1 : h.1 ≤ h.1 + 1 + i ∧ h.1 + 1 + i ≤ h.1 + N := by omega
    simp [zval, zrows, h1]
theorem zr_add (hR : zRl S0 D z L h H) (k : Nat) : zr S0 z (h.1 + k) = H.size + k := by
  have hz := hR.1
  unfold zr
  rw [if_neg (by omega), hR.2.1]
  omega
theorem zs_multi (F : zFix S0 D z) (C : zCx S0 p s m meth c mi) {len k : Nat} {n w : Int32} (hd : decode (zcd mi) pc = .ok (.multianewarray k 2, len)) (hlen : zlok (.multianewarray k 2) len = true) (hmu : zmu (zoc mi) k = true) (hn : 0 ≤ n) (hw : 0 ≤ w)
    (hk : zK L h.1 = some (.inl (.array .int, n.toNatClampNeg))) (hki : ∀ i, i < n.toNatClampNeg → zK L (h.1 + 1 + i) = some (.inl (.int, w.toNatClampNeg))) (hN : n.toNatClampNeg ≤ 65536) (hM : w.toNatClampNeg ≤ 65536)
    (hc1 : cells + (1 + n.toNatClampNeg) ≤ Rm.cells) (hc2 : slots + (n.toNatClampNeg + n.toNatClampNeg * w.toNatClampNeg) ≤ Rm.slots)
    (kk : zG p l e Rm s m args below meth c Q S0 D z L mi (pc + len) lv (.ref h.1 :: st) (zrows h n.toNatClampNeg w.toNatClampNeg) (cells + 1 + n.toNatClampNeg) (slots + n.toNatClampNeg + n.toNatClampNeg * w.toNatClampNeg)) : zG p l e Rm s m args below meth c Q S0 D z L mi pc lv (.int w :: .int n :: st) h cells slots := by
  intro H locs ls hR hl hq
  have hts := zCx.ts (args := args) F C
  obtain ⟨hx, hb, hml, hown, hlocks, hret, hname, hW, hrest⟩ := C
  simp only [zlok, zlen, beq_iff_eq] at hlen
  subst hlen
  intro T hT X
  obtain ⟨vm₁, cA, comp, -, f1, f2, X', step⟩ := X.multianewarray2 hx hown (ty := .int) (hts _ (zmu_ok hmu)) (hts _ zarr_ok.1.1) (hts _ zarr_ok.1.2) (g := F0 m pc ls (.int w :: .int n :: st.map (zv S0 z))) rfl (by rw [hb]; exact hd) (n := n) (k := w) (rest := st.map (zv S0 z)) rfl
    (Int32.not_lt.mpr hn) (Int32.not_lt.mpr hw) (by omega) (by show _ * 4 ≤ _; omega) (by omega) rfl rfl hc1 hc2
  obtain ⟨comp2, cA2, kA, a1, a2, a3, a4, a5⟩ := arrayOverA_spec (hts _ zarr_ok.1.1)
  obtain ⟨comp3, kC, cc, b1, b2, b3⟩ := Cond.arrayClass_spec (hts _ zarr_ok.1.2)
  cases Option.some.inj (f1.symm.trans a5)
  cases Option.some.inj (f2.symm.trans b1)
  obtain ⟨kA', ka1, ka2⟩ := hW.alike.symm.2.2 _ _ a3
  obtain ⟨kC', kc1, kc2⟩ := hW.alike.symm.2.2 _ _ b2
  obtain ⟨g1, g2, g3, g4⟩ := Jvm.Free.Multi.fill_facts (T.setVm vm₁) cA comp n.toNatClampNeg w.toNatClampNeg (defaultValue .int) n.toNatClampNeg
  have hTs : (T.setVm vm₁).heap = H := hT
  have hold : ∀ q, q < H.size → (Jvm.Free.Multi.fill (T.setVm vm₁) cA comp n.toNatClampNeg w.toNatClampNeg (defaultValue .int) n.toNatClampNeg).heap[q]? = H[q]? := fun q hq' => by
    have := Jvm.Free.Multi.fill_old (T.setVm vm₁) cA comp n.toNatClampNeg w.toNatClampNeg (defaultValue .int) (a := q) (by rw [hTs]; exact hq') n.toNatClampNeg
    rw [this, hTs]
  have hin : ∀ i, i < n.toNatClampNeg → (Jvm.Free.Multi.fill (T.setVm vm₁) cA comp n.toNatClampNeg w.toNatClampNeg (defaultValue .int) n.toNatClampNeg).heap[H.size + 1 + i]? = some (Jvm.Free.Multi.innerC comp w.toNatClampNeg (defaultValue .int)) := fun i hi => by
    have := Jvm.Free.Multi.fill_inner (T.setVm vm₁) cA comp n.toNatClampNeg w.toNatClampNeg (defaultValue .int) n.toNatClampNeg i hi
    rw [hTs] at this
    exact this
  rw [hTs] at g1 g2
  obtain ⟨o1, o2, o3⟩ := Jvm.Free.Multi.outerC_facts cA n.toNatClampNeg H.size n.toNatClampNeg
  have ho := Jvm.Free.Multi.outerC_slot cA n.toNatClampNeg H.size n.toNatClampNeg
  obtain ⟨z1, z2, z3⟩ := zrows_facts (h := h) n.toNatClampNeg w.toNatClampNeg
  have hz := hR.1
  have hs := hR.2.1
  have hR' : zRl S0 D z L (zrows h n.toNatClampNeg w.toNatClampNeg) (Jvm.Free.Multi.fill (T.setVm vm₁) cA comp n.toNatClampNeg w.toNatClampNeg (defaultValue .int) n.toNatClampNeg).heap := by
    refine ⟨by show zS ≤ h.1 + 1 + _; omega, by rw [g1, hs]; show _ = _ + (h.1 + 1 + n.toNatClampNeg - zS); omega, fun q hq' => ?_, hR.2.2.2.1, fun b kb hb' hkb => ?_, fun q cq hq' hcq => ?_⟩
    · rw [hold q (by omega)]; exact hR.2.2.1 q hq'
    · have hb2 : b < h.1 + 1 + n.toNatClampNeg := hb'
      by_cases hb1 : b < h.1
      · obtain ⟨cb, q1, q2⟩ := hR.2.2.2.2.1 b kb hb1 hkb
        exact ⟨cb, by rw [hold _ (Array.getElem?_eq_some_iff.mp q1).1]; exact q1, q2.congr (z1 b hb1)⟩
      · by_cases hb3 : b = h.1
        · subst hb3
          rw [hk] at hkb
          cases hkb
          refine ⟨Jvm.Free.Multi.outerC cA n.toNatClampNeg H.size n.toNatClampNeg, by rw [zr_new hR]; exact g2, ?_⟩
          refine ⟨(by rw [o2]; exact fun q => by cases q), ⟨fun q e => (by rw [o2] at e; cases e), kA', by rw [o1]; exact ka1, comp2, by rw [ka2]; exact a4⟩, zsz_of o3, fun j hj => ?_, fun C2 hC2 => by cases hC2⟩
          rw [ho j hj, z2 j, if_pos hj, if_pos hj]
          show some (Value.ref _) = some (Value.ref (zr S0 z (h.1 + 1 + j)))
          rw [show h.1 + 1 + j = h.1 + (1 + j) by omega, zr_add hR, Nat.add_assoc]
        · obtain ⟨i, rfl⟩ : ∃ i, b = h.1 + 1 + i := ⟨b - h.1 - 1, by omega⟩
          have hi : i < n.toNatClampNeg := by omega
          rw [hki i hi] at hkb
          cases hkb
          refine ⟨Jvm.Free.Multi.innerC comp w.toNatClampNeg (defaultValue .int), by rw [show h.1 + 1 + i = h.1 + (1 + i) by omega, zr_add hR, ← Nat.add_assoc]; exact hin i hi, ?_⟩
          refine ⟨(fun q => by cases q), ⟨fun q e => (by cases e), kC', kc1, cc, by rw [kc2]; exact b3⟩, zsz_of (by simp [Jvm.Free.Multi.innerC]), fun j hj => ?_, fun C2 hC2 => by cases hC2⟩
          rw [z3 i hi j]
          simp [Jvm.Free.Multi.innerC, hj, zv, defaultValue]
    · have hlt := (Array.getElem?_eq_some_iff.mp hcq).1
      rw [g1] at hlt
      by_cases h1 : q < H.size
      · rw [hold q h1] at hcq
        exact hR.2.2.2.2.2 q cq hq' hcq
      · by_cases h2 : q = H.size
        · subst h2
          rw [g2] at hcq
          cases hcq
          rw [o2]; rfl
        · obtain ⟨i, rfl⟩ : ∃ i, q = H.size + 1 + i := ⟨q - H.size - 1, by omega⟩
          rw [hin i (by omega)] at hcq
          cases hcq
          rfl
  have hTsz : T.heap.size = H.size := by rw [hT]
  obtain ⟨t, e1, e2⟩ := zg_w kk hR' hl (locs := locs ++ (List.range n.toNatClampNeg).map fun j => ⟨T.heap.size, j⟩) (fun q hq' => by
    rcases List.mem_append.mp hq' with g | g
    · exact hq q g
    · obtain ⟨y, -, hy⟩ := List.mem_map.mp g
      rw [← hy]
      show S0.heap.size ≤ T.heap.size
      rw [hTsz, hs]; omega) _ rfl X'
  refine ⟨t, step t ?_, e2⟩
  have ez : ((Value.ref h.1 :: st).map (zv S0 z)) = .ref T.heap.size :: st.map (zv S0 z) := by
    show Value.ref (zr S0 z h.1) :: _ = _
    rw [zr_new hR, hTsz]
  rw [ez] at e1
  exact e1
end ZST2
end
section
/-! CALLS, RETURNS, THROWS -/
section ZCL
variable {p : Program} {l : Launch} {e : Env} {Rm : Room} {s : State} {m : MethodId} {args : Array Value} {below : List Frame} {meth : Method} {c : Code} {H : Heap} {locs : List Loc} {cells slots : Nat} {Q : State → Prop}
variable {S0 : State} {D : va_G} {z : Nat → Nat} {L mi pc : Nat} {lv : zLv} {st : List Value} {h : zHp} {ls : Array Slot}
theorem zweaken {tb : Tables} {mid below : List Frame} {a b : State} (h : Steps tb e (mid ++ below) a b) : Steps tb e below a b := by
  obtain ⟨n, hn, w⟩ := h
  refine ⟨n, hn, fun k hk => ?_⟩
  obtain ⟨above, h1, h2, h3⟩ := w k hk
  refine ⟨above ++ mid, by rw [h1, List.append_assoc], by simp [h2], fun x hx => ?_⟩
  match above, h2, h3, hx with
  | [], h2, _, _ => exact h2 rfl
  | [y], _, h3, hx =>
    simp only [List.cons_append, List.nil_append, List.cons.injEq] at hx
    exact h3 x (by rw [hx.1])
  | y :: y2 :: r, _, _, hx => simp at hx
/-- how a run of a method ends in the machine -/
def zEnd (S0 : State) (D : va_G) (z : Nat → Nat) (L : Nat) (s : State) (below : List Frame) (o : zOut) (h' : zHp) (cells slots : Nat) : State → Prop := fun t =>
  ∃ oc : Outcome, t.status = .running ∧ Ended t below oc ∧ s.WarmedH t.vm ∧ zRl S0 D z L h' t.heap ∧ (∃ Lc : List Loc, s.sameButNew ({ t with vm := s.vm } : State) Lc cells slots ∧ ∀ q ∈ Lc, S0.heap.size ≤ q.base) ∧
    (match o with
      | .inl v => oc = .returned (v.map (zv S0 z))
      | .inr x => oc = .threw (zr S0 z x.2) ∧ ∃ cell : Cell, t.heap[zr S0 z x.2]? = some cell ∧ cell.vm = .none ∧ S0.vm.findClass (zxn x.1) = some cell.cls)
theorem zw_mono {Q' : State → Prop} {g : JFrame} (hq : ∀ t, Q t → Q' t) (w : W p l e Rm s m args below meth c H locs cells slots Q g) : W p l e Rm s m args below meth c H locs cells slots Q' g := by
  intro T hT X
  obtain ⟨t, a, b⟩ := w T hT X
  exact ⟨t, a, hq t b⟩
theorem zs_end {v : Option Value} (hR : zRl S0 D z L h H) : ∀ t, MQ below (fun _ _ o t => o = .returned (v.map (zv S0 z)) ∧ t.heap = H) args s cells slots (fun q => S0.heap.size ≤ q) t → zEnd S0 D z L s below (.inl v) h cells slots t := by
  rintro t ⟨o, h1, h2, ⟨h3, h4⟩, Lc, ⟨-, h5, h6⟩, h7⟩
  exact ⟨o, h1, h2, h5, by rw [h4]; exact hR, ⟨Lc, h6, h7⟩, h3⟩
theorem zs_iret (C : zCx S0 p s m meth c mi) {len : Nat} {v : Int32} (hd : decode (zcd mi) pc = .ok (.ireturn, len)) (hlen : zlok .ireturn len = true) (hr : zrt mi = some .int ∨ (zrt mi = some .boolean ∧ (v = 0 ∨ v = 1))) :
    zG p l e Rm s m args below meth c (zEnd S0 D z L s below (.inl (some (.int v))) h cells slots) S0 D z L mi pc lv [.int v] h cells slots := by
  intro H locs ls hR hl hq
  obtain ⟨hx, hb, hml, hown, hlocks, hret, hrest⟩ := C
  simp only [zlok, zlen, beq_iff_eq] at hlen
  subst hlen
  refine zw_mono (zs_end (v := some (.int v)) (args := args) hR) ?_
  rcases hr with hr | ⟨hr, hv⟩
  · exact W.iret hx hb (by rw [hret]; exact hr) (fun t ht _ => ⟨rfl, ht⟩) hq hd hlocks
  · exact W.zret (ty := .boolean) hx hb (by rw [hret]; exact hr) (by rcases hv with rfl | rfl <;> rfl) (fun t ht _ => ⟨rfl, ht⟩) hq hd hlocks
theorem zs_aret (C : zCx S0 p s m meth c mi) {len a : Nat} {rt : FieldType} (hd : decode (zcd mi) pc = .ok (.areturn, len)) (hlen : zlok .areturn len = true) (hr : zrt mi = some rt) (hrt : (∃ n, rt = .object n) ∨ ∃ t, rt = .array t) :
    zG p l e Rm s m args below meth c (zEnd S0 D z L s below (.inl (some (.ref a))) h cells slots) S0 D z L mi pc lv [.ref a] h cells slots := by
  intro H locs ls hR hl hq
  obtain ⟨hx, hb, hml, hown, hlocks, hret, hrest⟩ := C
  simp only [zlok, zlen, beq_iff_eq] at hlen
  subst hlen
  refine zw_mono (zs_end (v := some (.ref a)) (args := args) hR) ?_
  exact W.aret hx hb (by rw [hret]; exact hr) hrt (Or.inr ⟨_, rfl⟩) (fun t ht _ => ⟨rfl, ht⟩) hq hd hlocks
theorem zs_vret (C : zCx S0 p s m meth c mi) {len : Nat} (hd : decode (zcd mi) pc = .ok (.return_, len)) (hlen : zlok .return_ len = true) (hr : zrt mi = none) :
    zG p l e Rm s m args below meth c (zEnd S0 D z L s below (.inl none) h cells slots) S0 D z L mi pc lv [] h cells slots := by
  intro H locs ls hR hl hq
  obtain ⟨hx, hb, hml, hown, hlocks, hret, hrest⟩ := C
  simp only [zlok, zlen, beq_iff_eq] at hlen
  subst hlen
  refine zw_mono (zs_end (v := none) (args := args) hR) ?_
  exact W.vret hx hb (by rw [hret]; exact hr) (fun t ht _ => ⟨rfl, ht⟩) hq hd hlocks
/-- INTO THE CALLEE AND OUT OF IT -/
theorem zcore {T : State} (hR : zRl S0 D z L h T.heap) (X : Stand p l e Rm s m args below meth c T locs cells slots) (hq : ∀ q ∈ locs, S0.heap.size ≤ q.base) {g : JFrame} (hg : g.method = m) (hgs : g.locals.size = c.maxLocals) {ig : Instr} {len : Nat} (hdg : decode c.code g.pc = .ok (ig, len)) (hgw : 2 * g.monitorRoom + (g.stack.map fun v => v.category).sum ≤ 8)
    {mj : Nat} {mk : MethodId} {methk : Method} {ck : Code} {as : List Value} (hmk : T.vm.method? mk = some methk) (hck : methk.code = some ck) (hlk : methk.locks = false) (hmx : ck.maxLocals = zmx mj) (hpk : T.plainMethod mk) (hac : zlg mj = false → ∀ v ∈ as, v.category = 1) (hal : (zexp as).length ≤ zmx mj)
    (Ck : zCx S0 p (T.calling g mk (as.map (zv S0 z)).toArray) mk methk ck mj) {o : zOut} {h1 : zHp} (hcells : cells + (h1.1 - h.1) ≤ Rm.cells) (hslots : slots + (h1.2.1 - h.2.1) ≤ Rm.slots) (hfr : zrk mj + 1 ≤ Rm.frames) (hlo : 8 + (zmx mj + 11) + zlo mj ≤ Rm.locals)
    (ih : ∀ (R' : Room) (s' : State) (m' : MethodId) (args' : Array Value) (below' : List Frame) (meth' : Method) (c' : Code), zCx S0 p s' m' meth' c' mj → R'.frames = zrk mj → R'.locals = zlo mj → R'.cells = h1.1 - h.1 → R'.slots = h1.2.1 - h.2.1 →
      zG p l e R' s' m' args' below' meth' c' (zEnd S0 D z L s' below' o h1 (h1.1 - h.1) (h1.2.1 - h.2.1)) S0 D z L mj 0 (zent mj as) [] h 0 0) :
    ∃ (T' : State) (Lc : List Loc), Stand p l e Rm s m args below meth c T' (locs ++ Lc) (cells + (h1.1 - h.1)) (slots + (h1.2.1 - h.2.1)) ∧ (∀ q ∈ locs ++ Lc, S0.heap.size ≤ q.base) ∧ zRl S0 D z L h1 T'.heap ∧
      (match o with
        | .inl v => ∀ target, Steps p.tables e below (T'.setTop { g with pc := g.pc + len, stack := (v.map (zv S0 z)).toList ++ g.stack }) target → Steps p.tables e below (doInvoke e (T.setTop g) [] mk (as.map (zv S0 z)).toArray).1 target
        | .inr x => (∃ cell : Cell, T'.heap[zr S0 z x.2]? = some cell ∧ cell.vm = .none ∧ S0.vm.findClass (zxn x.1) = some cell.cls) ∧
            ∀ target, Steps p.tables e below ((T'.setTop g).pushFrame (.throwing (zr S0 z x.2))) target → Steps p.tables e below (doInvoke e (T.setTop g) [] mk (as.map (zv S0 z)).toArray).1 target) := by
  obtain ⟨Y₀, hin⟩ := X.into hg hgs hdg (as.map (zv S0 z)).toArray (R' := { frames := zrk mj, cells := h1.1 - h.1, slots := h1.2.1 - h.2.1, locals := zlo mj }) hmk hck hlk hpk hfr (by rw [hmx]; show 2 * g.monitorRoom + (g.stack.map fun v => v.category).sum + (zmx mj + 11) + zlo mj ≤ Rm.locals; omega) hcells hslots
  obtain ⟨ls0, e0, hl0⟩ := zLs.entry (S0 := S0) (z := z) hac hal mk
  have w := zg_w (ih { frames := zrk mj, cells := h1.1 - h.1, slots := h1.2.1 - h.2.1, locals := zlo mj } _ mk (as.map (zv S0 z)).toArray (.java g :: below) methk ck Ck rfl rfl rfl rfl) (H := T.heap) (locs := []) hR hl0 (fun q h => by cases h)
  have e0' : entryFrame mk (as.map (zv S0 z)).toArray ck.maxLocals = F0 mk 0 ls0 [] := by rw [hmx]; exact e0
  rw [e0'] at Y₀
  obtain ⟨t, st, oc, e1, e2, e3, e4, ⟨Lc, e5, e6⟩, e7⟩ := w ((T.setTop g).pushFrame (.java (F0 mk 0 ls0 []))) rfl Y₀
  have hst : Steps p.tables e below (doInvoke e (T.setTop g) [] mk (as.map (zv S0 z)).toArray).1 t := by
    rw [hin [], e0']
    exact zweaken (mid := [.java g]) st
  have hqq : ∀ q ∈ locs ++ Lc, S0.heap.size ≤ q.base := fun q hq' => by
    rcases List.mem_append.mp hq' with g | g
    · exact hq q g
    · exact e6 q g
  cases o with
  | inl v =>
    subst e7
    obtain ⟨T', X', -, -, ht⟩ := X.outOf hg hdg e2 e3 e5
    refine ⟨T', Lc, X', hqq, by have : t.heap = T'.heap := by rw [ht]; rfl
                                rw [← this]; exact e4, fun target hs => hst.trans (by rw [ht]; exact hs)⟩
  | inr x =>
    obtain ⟨rfl, cell, q1, q2, q3⟩ := e7
    obtain ⟨T', X', -, -, ht⟩ := X.outOfThrown hg e2 e3 e5
    have hh : t.heap = T'.heap := by rw [ht]; rfl
    exact ⟨T', Lc, X', hqq, by rw [← hh]; exact e4, ⟨cell, by rw [← hh]; exact q1, q2, q3⟩, fun target hs => hst.trans (by rw [ht]; exact hs)⟩
end ZCL
end
section
/-! the code word of every method but the law, by program; what the words say of a method -/
theorem zco_ok : ∀ mj, mj ≠ 0 → mj < zNm → (zhd mj = [] ∧ Cond.code (zy mj) (zcd mj) (zmx mj) (zrt mj) ∈ zws) ∨ Cond.codeWith (zy mj) (zcd mj) (zmx mj) (zrt mj) (zhd mj) ∈ zws := by
  intro mj h0 h
  match mj, h0, h with
  | 0, h0, _ => exact absurd rfl h0
  | 1, _, _ => exact Or.inl ⟨rfl, List.mem_filter.mpr ⟨List.mem_of_getElem? zco_1, rfl⟩⟩
  | 2, _, _ => exact Or.inl ⟨rfl, List.mem_filter.mpr ⟨List.mem_of_getElem? zco_2, rfl⟩⟩
  | 3, _, _ => exact Or.inl ⟨rfl, List.mem_filter.mpr ⟨List.mem_of_getElem? zco_3, rfl⟩⟩
  | 4, _, _ => exact Or.inl ⟨rfl, List.mem_filter.mpr ⟨List.mem_of_getElem? zco_4, rfl⟩⟩
  | 5, _, _ => exact Or.inl ⟨rfl, List.mem_filter.mpr ⟨List.mem_of_getElem? zco_5, rfl⟩⟩
  | 6, _, _ => exact Or.inl ⟨rfl, List.mem_filter.mpr ⟨List.mem_of_getElem? zco_6, rfl⟩⟩
  | 7, _, _ => exact Or.inl ⟨rfl, List.mem_filter.mpr ⟨List.mem_of_getElem? zco_7, rfl⟩⟩
  | 8, _, _ => exact Or.inl ⟨rfl, List.mem_filter.mpr ⟨List.mem_of_getElem? zco_8, rfl⟩⟩
  | 9, _, _ => exact Or.inl ⟨rfl, List.mem_filter.mpr ⟨List.mem_of_getElem? zco_9, rfl⟩⟩
  | 10, _, _ => exact Or.inl ⟨rfl, List.mem_filter.mpr ⟨List.mem_of_getElem? zco_10, rfl⟩⟩
  | 11, _, _ => exact Or.inl ⟨rfl, List.mem_filter.mpr ⟨List.mem_of_getElem? zco_11, rfl⟩⟩
  | 12, _, _ => exact Or.inl ⟨rfl, List.mem_filter.mpr ⟨List.mem_of_getElem? zco_12, rfl⟩⟩
  | 13, _, _ => exact Or.inl ⟨rfl, List.mem_filter.mpr ⟨List.mem_of_getElem? zco_13, rfl⟩⟩
  | 14, _, _ => exact Or.inl ⟨rfl, List.mem_filter.mpr ⟨List.mem_of_getElem? zco_14, rfl⟩⟩
  | 15, _, _ => exact Or.inl ⟨rfl, List.mem_filter.mpr ⟨List.mem_of_getElem? zco_15, rfl⟩⟩
  | 16, _, _ => exact Or.inl ⟨rfl, List.mem_filter.mpr ⟨List.mem_of_getElem? zco_16, rfl⟩⟩
  | 17, _, _ => exact Or.inl ⟨rfl, List.mem_filter.mpr ⟨List.mem_of_getElem? zco_17, rfl⟩⟩
  | 18, _, _ => exact Or.inl ⟨rfl, List.mem_filter.mpr ⟨List.mem_of_getElem? zco_18, rfl⟩⟩
  | 19, _, _ => exact Or.inl ⟨rfl, List.mem_filter.mpr ⟨List.mem_of_getElem? zco_19, rfl⟩⟩
  | 20, _, _ => exact Or.inl ⟨rfl, List.mem_filter.mpr ⟨List.mem_of_getElem? zco_20, rfl⟩⟩
  | 21, _, _ => exact Or.inl ⟨rfl, List.mem_filter.mpr ⟨List.mem_of_getElem? zco_21, rfl⟩⟩
  | 22, _, _ => exact Or.inl ⟨rfl, List.mem_filter.mpr ⟨List.mem_of_getElem? zco_22, rfl⟩⟩
  | 23, _, _ => exact Or.inl ⟨rfl, List.mem_filter.mpr ⟨List.mem_of_getElem? zco_23, rfl⟩⟩
  | 24, _, _ => exact Or.inl ⟨rfl, List.mem_filter.mpr ⟨List.mem_of_getElem? zco_24, rfl⟩⟩
  | 25, _, _ => exact Or.inl ⟨rfl, List.mem_filter.mpr ⟨List.mem_of_getElem? zco_25, rfl⟩⟩
  | 26, _, _ => exact Or.inl ⟨rfl, List.mem_filter.mpr ⟨List.mem_of_getElem? zco_26, rfl⟩⟩
  | 27, _, _ => exact Or.inl ⟨rfl, List.mem_filter.mpr ⟨List.mem_of_getElem? zco_27, rfl⟩⟩
  | 28, _, _ => exact Or.inl ⟨rfl, List.mem_filter.mpr ⟨List.mem_of_getElem? zco_28, rfl⟩⟩
  | 29, _, _ => exact Or.inl ⟨rfl, List.mem_filter.mpr ⟨List.mem_of_getElem? zco_29, rfl⟩⟩
  | 30, _, _ => exact Or.inl ⟨rfl, List.mem_filter.mpr ⟨List.mem_of_getElem? zco_30, rfl⟩⟩
  | 31, _, _ => exact Or.inl ⟨rfl, List.mem_filter.mpr ⟨List.mem_of_getElem? zco_31, rfl⟩⟩
  | 32, _, _ => exact Or.inl ⟨rfl, List.mem_filter.mpr ⟨List.mem_of_getElem? zco_32, rfl⟩⟩
  | 33, _, _ => exact Or.inl ⟨rfl, List.mem_filter.mpr ⟨List.mem_of_getElem? zco_33, rfl⟩⟩
  | 34, _, _ => exact Or.inl ⟨rfl, List.mem_filter.mpr ⟨List.mem_of_getElem? zco_34, rfl⟩⟩
  | 35, _, _ => exact Or.inl ⟨rfl, List.mem_filter.mpr ⟨List.mem_of_getElem? zco_35, rfl⟩⟩
  | 36, _, _ => exact Or.inl ⟨rfl, List.mem_filter.mpr ⟨List.mem_of_getElem? zco_36, rfl⟩⟩
  | 37, _, _ => exact Or.inl ⟨rfl, List.mem_filter.mpr ⟨List.mem_of_getElem? zco_37, rfl⟩⟩
  | 38, _, _ => exact Or.inr (List.mem_filter.mpr ⟨List.mem_of_getElem? zco_38, rfl⟩)
  | 39, _, _ => exact Or.inl ⟨rfl, List.mem_filter.mpr ⟨List.mem_of_getElem? zco_39, rfl⟩⟩
  | 40, _, _ => exact Or.inl ⟨rfl, List.mem_filter.mpr ⟨List.mem_of_getElem? zco_40, rfl⟩⟩
  | 41, _, _ => exact Or.inl ⟨rfl, List.mem_filter.mpr ⟨List.mem_of_getElem? zco_41, rfl⟩⟩
  | 42, _, _ => exact Or.inr (List.mem_filter.mpr ⟨List.mem_of_getElem? zco_42, rfl⟩)
  | 43, _, _ => exact Or.inl ⟨rfl, List.mem_filter.mpr ⟨List.mem_of_getElem? zco_43, rfl⟩⟩
  | 44, _, _ => exact Or.inl ⟨rfl, List.mem_filter.mpr ⟨List.mem_of_getElem? zco_44, rfl⟩⟩
  | 45, _, _ => exact Or.inl ⟨rfl, List.mem_filter.mpr ⟨List.mem_of_getElem? zco_45, rfl⟩⟩
  | 46, _, _ => exact Or.inr (List.mem_filter.mpr ⟨List.mem_of_getElem? zco_46, rfl⟩)
  | 47, _, _ => exact Or.inl ⟨rfl, List.mem_filter.mpr ⟨List.mem_of_getElem? zco_47, rfl⟩⟩
  | 48, _, _ => exact Or.inl ⟨rfl, List.mem_filter.mpr ⟨List.mem_of_getElem? zco_48, rfl⟩⟩
  | 49, _, _ => exact Or.inl ⟨rfl, List.mem_filter.mpr ⟨List.mem_of_getElem? zco_49, rfl⟩⟩
  | 50, _, _ => exact Or.inr (List.mem_filter.mpr ⟨List.mem_of_getElem? zco_50, rfl⟩)
  | 51, _, _ => exact Or.inl ⟨rfl, List.mem_filter.mpr ⟨List.mem_of_getElem? zco_51, rfl⟩⟩
  | 52, _, _ => exact Or.inl ⟨rfl, List.mem_filter.mpr ⟨List.mem_of_getElem? zco_52, rfl⟩⟩
  | 53, _, _ => exact Or.inl ⟨rfl, List.mem_filter.mpr ⟨List.mem_of_getElem? zco_53, rfl⟩⟩
  | 54, _, _ => exact Or.inl ⟨rfl, List.mem_filter.mpr ⟨List.mem_of_getElem? zco_54, rfl⟩⟩
  | 55, _, _ => exact Or.inl ⟨rfl, List.mem_filter.mpr ⟨List.mem_of_getElem? zco_55, rfl⟩⟩
  | 56, _, _ => exact Or.inl ⟨rfl, List.mem_filter.mpr ⟨List.mem_of_getElem? zco_56, rfl⟩⟩
  | 57, _, _ => exact Or.inl ⟨rfl, List.mem_filter.mpr ⟨List.mem_of_getElem? zco_57, rfl⟩⟩
  | 58, _, _ => exact Or.inr (List.mem_filter.mpr ⟨List.mem_of_getElem? zco_58, rfl⟩)
  | 59, _, _ => exact Or.inl ⟨rfl, List.mem_filter.mpr ⟨List.mem_of_getElem? zco_59, rfl⟩⟩
  | 60, _, _ => exact Or.inl ⟨rfl, List.mem_filter.mpr ⟨List.mem_of_getElem? zco_60, rfl⟩⟩
  | 61, _, _ => exact Or.inl ⟨rfl, List.mem_filter.mpr ⟨List.mem_of_getElem? zco_61, rfl⟩⟩
  | 62, _, _ => exact Or.inr (List.mem_filter.mpr ⟨List.mem_of_getElem? zco_62, rfl⟩)
  | 63, _, _ => exact Or.inl ⟨rfl, List.mem_filter.mpr ⟨List.mem_of_getElem? zco_63, rfl⟩⟩
  | 64, _, _ => exact Or.inr (List.mem_filter.mpr ⟨List.mem_of_getElem? zco_64, rfl⟩)
  | 65, _, _ => exact Or.inl ⟨rfl, List.mem_filter.mpr ⟨List.mem_of_getElem? zco_65, rfl⟩⟩
  | 66, _, _ => exact Or.inr (List.mem_filter.mpr ⟨List.mem_of_getElem? zco_66, rfl⟩)
  | 67, _, _ => exact Or.inl ⟨rfl, List.mem_filter.mpr ⟨List.mem_of_getElem? zco_67, rfl⟩⟩
  | 68, _, _ => exact Or.inl ⟨rfl, List.mem_filter.mpr ⟨List.mem_of_getElem? zco_68, rfl⟩⟩
  | 69, _, _ => exact Or.inl ⟨rfl, List.mem_filter.mpr ⟨List.mem_of_getElem? zco_69, rfl⟩⟩
  | 70, _, _ => exact Or.inr (List.mem_filter.mpr ⟨List.mem_of_getElem? zco_70, rfl⟩)
  | 71, _, _ => exact Or.inl ⟨rfl, List.mem_filter.mpr ⟨List.mem_of_getElem? zco_71, rfl⟩⟩
  | 72, _, _ => exact Or.inr (List.mem_filter.mpr ⟨List.mem_of_getElem? zco_72, rfl⟩)
  | 73, _, _ => exact Or.inl ⟨rfl, List.mem_filter.mpr ⟨List.mem_of_getElem? zco_73, rfl⟩⟩
  | 74, _, _ => exact Or.inr (List.mem_filter.mpr ⟨List.mem_of_getElem? zco_74, rfl⟩)
  | 75, _, _ => exact Or.inl ⟨rfl, List.mem_filter.mpr ⟨List.mem_of_getElem? zco_75, rfl⟩⟩
  | 76, _, _ => exact Or.inl ⟨rfl, List.mem_filter.mpr ⟨List.mem_of_getElem? zco_76, rfl⟩⟩
  | 77, _, _ => exact Or.inr (List.mem_filter.mpr ⟨List.mem_of_getElem? zco_77, rfl⟩)
  | 78, _, _ => exact Or.inl ⟨rfl, List.mem_filter.mpr ⟨List.mem_of_getElem? zco_78, rfl⟩⟩
  | 79, _, _ => exact Or.inl ⟨rfl, List.mem_filter.mpr ⟨List.mem_of_getElem? zco_79, rfl⟩⟩
  | 80, _, _ => exact Or.inl ⟨rfl, List.mem_filter.mpr ⟨List.mem_of_getElem? zco_80, rfl⟩⟩
  | 81, _, _ => exact Or.inl ⟨rfl, List.mem_filter.mpr ⟨List.mem_of_getElem? zco_81, rfl⟩⟩
  | 82, _, _ => exact Or.inl ⟨rfl, List.mem_filter.mpr ⟨List.mem_of_getElem? zco_82, rfl⟩⟩
  | 83, _, _ => exact Or.inl ⟨rfl, List.mem_filter.mpr ⟨List.mem_of_getElem? zco_83, rfl⟩⟩
  | 84, _, _ => exact Or.inl ⟨rfl, List.mem_filter.mpr ⟨List.mem_of_getElem? zco_84, rfl⟩⟩
  | 85, _, _ => exact Or.inl ⟨rfl, List.mem_filter.mpr ⟨List.mem_of_getElem? zco_85, rfl⟩⟩
  | 86, _, _ => exact Or.inl ⟨rfl, List.mem_filter.mpr ⟨List.mem_of_getElem? zco_86, rfl⟩⟩
  | 87, _, _ => exact Or.inl ⟨rfl, List.mem_filter.mpr ⟨List.mem_of_getElem? zco_87, rfl⟩⟩
  | 88, _, _ => exact Or.inl ⟨rfl, List.mem_filter.mpr ⟨List.mem_of_getElem? zco_88, rfl⟩⟩
  | 89, _, _ => exact Or.inl ⟨rfl, List.mem_filter.mpr ⟨List.mem_of_getElem? zco_89, rfl⟩⟩
  | 90, _, _ => exact Or.inl ⟨rfl, List.mem_filter.mpr ⟨List.mem_of_getElem? zco_90, rfl⟩⟩
  | 91, _, _ => exact Or.inl ⟨rfl, List.mem_filter.mpr ⟨List.mem_of_getElem? zco_91, rfl⟩⟩
  | 92, _, _ => exact Or.inl ⟨rfl, List.mem_filter.mpr ⟨List.mem_of_getElem? zco_92, rfl⟩⟩
  | 93, _, _ => exact Or.inl ⟨rfl, List.mem_filter.mpr ⟨List.mem_of_getElem? zco_93, rfl⟩⟩
  | 94, _, _ => exact Or.inl ⟨rfl, List.mem_filter.mpr ⟨List.mem_of_getElem? zco_94, rfl⟩⟩
  | 95, _, _ => exact Or.inl ⟨rfl, List.mem_filter.mpr ⟨List.mem_of_getElem? zco_95, rfl⟩⟩
  | 96, _, _ => exact Or.inl ⟨rfl, List.mem_filter.mpr ⟨List.mem_of_getElem? zco_96, rfl⟩⟩
  | 97, _, _ => exact Or.inl ⟨rfl, List.mem_filter.mpr ⟨List.mem_of_getElem? zco_97, rfl⟩⟩
  | 98, _, _ => exact Or.inl ⟨rfl, List.mem_filter.mpr ⟨List.mem_of_getElem? zco_98, rfl⟩⟩
  | 99, _, _ => exact Or.inl ⟨rfl, List.mem_filter.mpr ⟨List.mem_of_getElem? zco_99, rfl⟩⟩
  | 100, _, _ => exact Or.inl ⟨rfl, List.mem_filter.mpr ⟨List.mem_of_getElem? zco_100, rfl⟩⟩
  | 101, _, _ => exact Or.inl ⟨rfl, List.mem_filter.mpr ⟨List.mem_of_getElem? zco_101, rfl⟩⟩
  | 102, _, _ => exact Or.inl ⟨rfl, List.mem_filter.mpr ⟨List.mem_of_getElem? zco_102, rfl⟩⟩
  | 103, _, _ => exact Or.inl ⟨rfl, List.mem_filter.mpr ⟨List.mem_of_getElem? zco_103, rfl⟩⟩
  | 104, _, _ => exact Or.inl ⟨rfl, List.mem_filter.mpr ⟨List.mem_of_getElem? zco_104, rfl⟩⟩
  | 105, _, _ => exact Or.inl ⟨rfl, List.mem_filter.mpr ⟨List.mem_of_getElem? zco_105, rfl⟩⟩
  | 106, _, _ => exact Or.inl ⟨rfl, List.mem_filter.mpr ⟨List.mem_of_getElem? zco_106, rfl⟩⟩
  | 107, _, _ => exact Or.inl ⟨rfl, List.mem_filter.mpr ⟨List.mem_of_getElem? zco_107, rfl⟩⟩
  | 108, _, _ => exact Or.inl ⟨rfl, List.mem_filter.mpr ⟨List.mem_of_getElem? zco_108, rfl⟩⟩
  | 109, _, _ => exact Or.inl ⟨rfl, List.mem_filter.mpr ⟨List.mem_of_getElem? zco_109, rfl⟩⟩
  | 110, _, _ => exact Or.inl ⟨rfl, List.mem_filter.mpr ⟨List.mem_of_getElem? zco_110, rfl⟩⟩
  | 111, _, _ => exact Or.inl ⟨rfl, List.mem_filter.mpr ⟨List.mem_of_getElem? zco_111, rfl⟩⟩
  | 112, _, _ => exact Or.inl ⟨rfl, List.mem_filter.mpr ⟨List.mem_of_getElem? zco_112, rfl⟩⟩
  | 113, _, _ => exact Or.inl ⟨rfl, List.mem_filter.mpr ⟨List.mem_of_getElem? zco_113, rfl⟩⟩
  | 114, _, _ => exact Or.inl ⟨rfl, List.mem_filter.mpr ⟨List.mem_of_getElem? zco_114, rfl⟩⟩
  | 115, _, _ => exact Or.inl ⟨rfl, List.mem_filter.mpr ⟨List.mem_of_getElem? zco_115, rfl⟩⟩
  | 116, _, _ => exact Or.inl ⟨rfl, List.mem_filter.mpr ⟨List.mem_of_getElem? zco_116, rfl⟩⟩
  | 117, _, _ => exact Or.inl ⟨rfl, List.mem_filter.mpr ⟨List.mem_of_getElem? zco_117, rfl⟩⟩
  | 118, _, _ => exact Or.inl ⟨rfl, List.mem_filter.mpr ⟨List.mem_of_getElem? zco_118, rfl⟩⟩
  | 119, _, _ => exact Or.inl ⟨rfl, List.mem_filter.mpr ⟨List.mem_of_getElem? zco_119, rfl⟩⟩
  | 120, _, _ => exact Or.inl ⟨rfl, List.mem_filter.mpr ⟨List.mem_of_getElem? zco_120, rfl⟩⟩
  | n + 121, _, h => exact absurd (show n + 121 < 121 from h) (by omega)
/-- what stands in the tables of a method -/
theorem zmeth {S0 : State} {D : va_G} {z : Nat → Nat} (F : zFix S0 D z) {T : State} (hW : S0.WarmedH T.vm) {mj : Nat} (h0 : mj ≠ 0) (hlt : mj < zNm) :
    ∃ (mk : MethodId) (methk : Method) (ck : Code), T.methodNamed? (zy mj) = some mk ∧ T.vm.method? mk = some methk ∧ methk.code = some ck ∧ ck.code = zcd mj ∧ ck.maxLocals = zmx mj ∧ methk.sig.returnType = zrt mj ∧ methk.locks = false ∧
      ck.exceptionTable.toList.map (fun h => (h.startPc, h.endPc, h.handlerPc, h.catchType)) = zhd mj ∧ parseMethodDescriptor (zy mj).desc = some methk.sig ∧ T.plainMethod mk ∧ methk.name = (zy mj).name ∧ T.vm.findClass (zcn (zoc mj)) = some mk.cls ∧ methk.sig.parameters.length = znp mj := by
  have hm := zm_ok h0 hlt
  unfold zmC at hm
  simp only [Bool.and_eq_true, decide_eq_true_eq] at hm
  obtain ⟨-, -, ⟨⟨hcls, hpar⟩, hplain⟩, -⟩ := hm
  have key : ∃ (mk : MethodId) (methk : Method) (ck : Code), T.methodNamed? (zy mj) = some mk ∧ T.vm.method? mk = some methk ∧ methk.code = some ck ∧ ck.code = zcd mj ∧ ck.maxLocals = zmx mj ∧ methk.sig.returnType = zrt mj ∧ methk.locks = false ∧
      ck.exceptionTable.toList.map (fun h => (h.startPc, h.endPc, h.handlerPc, h.catchType)) = zhd mj ∧ parseMethodDescriptor (zy mj).desc = some methk.sig := by
    rcases zco_ok mj h0 hlt with ⟨hh, hw⟩ | hw
    · have hc : (Cond.code (zy mj) (zcd mj) (zmx mj) (zrt mj)).before #[] T = true := F.1 _ hw #[] T hW
      obtain ⟨mk, hn⟩ := Cond.code_named hc
      obtain ⟨meth, c, q1, q2, q3, q4, q5, q6, q7, q8⟩ := Cond.code_spec hn hc
      refine ⟨mk, meth, c, hn, q1, q2, q3, q4, q5, q6, ?_, q8⟩
      rw [hh]
      have : c.exceptionTable.toList = [] := by simpa using q7
      rw [this]; rfl
    · have hc : (Cond.codeWith (zy mj) (zcd mj) (zmx mj) (zrt mj) (zhd mj)).before #[] T = true := F.1 _ hw #[] T hW
      obtain ⟨mk, meth, c, hn, q1, q2, q3, q4, q5, q6, q7, q8⟩ := Cond.codeWith_spec hc
      exact ⟨mk, meth, c, hn, q1, q2, q3, q4, q6, q7, q5, q8⟩
  obtain ⟨mk, methk, ck, hn, h1, h2, h3, h4, h5, h6, h7, h8⟩ := key
  refine ⟨mk, methk, ck, hn, h1, h2, h3, h4, h5, h6, h7, h8, ?_, (name_of_methodNamed hn h1).1, ?_, ?_⟩
  · refine State.plainMethod.of_name (fun k hk => ?_)
    obtain ⟨k', hk', hname⟩ := className_of_methodNamed hn
    cases hk.symm.trans hk'
    rw [hname]; exact hplain
  · rw [← hcls]; exact findClass_of_methodNamed hn
  · rw [h8] at hpar
    exact Option.some.inj hpar
end
section
/-- what is fixed of exceptions at the start: which class is assignable to which; the words of their constructors; the texts -/
def zxnames : List String := ["java/lang/RuntimeException", "java/lang/Exception"]
def zFx (S0 : State) : Prop :=
  (∀ x y : Nat, x < 2 → y < 2 → ∀ cx cy : ClassId, S0.vm.findClass (zxn x) = some cx → S0.vm.findClass (zxn y) = some cy → S0.vm.assignable cx cy = decide (x = y)) ∧
  (∀ oc ic x : Nat, zxl oc ic = some x → ∀ (s : State) (args : Array Value), S0.WarmedH s.vm → (∀ q : Nat, q < S0.heap.size → s.heap[q]? = S0.heap[q]?) → ∀ a ∈ Jvm.Bundle.ownAtoms (zcn oc) ic (zxn x) zxnames, a.before args s = true) ∧
  ∀ oc k : Nat, zxs oc k = true → ∃ (tx : String) (q : Nat), vk_R (zcn oc) k tx q S0
theorem zxc_all : (List.range 10).all (fun oc => (zxcL.getD oc []).all (fun q => decide (q.2.1 < 2) && zat0 q.2.2 (.classLink (zcn oc) q.1 (zxn q.2.1)))) = true := by decide +kernel
theorem zxc_ok {oc k x : Nat} (h : zxc oc k = some x) : x < 2 ∧ Cond.classLink (zcn oc) k (zxn x) ∈ zws := by
  obtain ⟨q, hq, hk, e⟩ := zfind h
  have hc := zall zxc_all (by decide) hq
  cases e
  have hk' : q.1 = k := by simpa using hk
  subst hk'
  rw [Bool.and_eq_true, decide_eq_true_eq] at hc
  exact ⟨hc.1, zin hc.2⟩
theorem zhd_all : ((List.range zNm).drop 1).all (fun mi => (zhd mi).all (fun q => (zxc (zoc mi) q.2.2.2).isSome && decide (q.2.2.2 ≠ 0))) = true := by decide +kernel
theorem zhd_ok {mi : Nat} (h0 : mi ≠ 0) (h : mi < zNm) {q : Nat × Nat × Nat × Nat} (hq : q ∈ zhd mi) : (∃ x, zxc (zoc mi) q.2.2.2 = some x) ∧ q.2.2.2 ≠ 0 := by
  have h1 : mi ∈ (List.range zNm).drop 1 := by
    obtain ⟨k, rfl⟩ : ∃ k, mi = k + 1 := ⟨mi - 1, by omega⟩
    refine List.mem_of_getElem? (i := k) ?_
    rw [List.getElem?_drop, List.getElem?_range (by omega)]
    congr 1; omega
  have h2 := List.all_eq_true.mp (List.all_eq_true.mp zhd_all mi h1) q hq
  rw [Bool.and_eq_true, decide_eq_true_eq] at h2
  exact ⟨Option.isSome_iff_exists.mp h2.1, h2.2⟩
section ZCL2
variable {p : Program} {l : Launch} {e : Env} {Rm : Room} {s : State} {m : MethodId} {args : Array Value} {below : List Frame} {meth : Method} {c : Code} {H : Heap} {locs : List Loc} {cells slots : Nat} {Q : State → Prop}
variable {S0 : State} {D : va_G} {z : Nat → Nat} {L mi pc : Nat} {lv : zLv} {st : List Value} {h : zHp} {ls : Array Slot}
/-- a thrown object comes into the method: its handler, or out -/
theorem zcaught (Fx : zFx S0) (F : zFix S0 D z) (C : zCx S0 p s m meth c mi) (hmi : mi < zNm) {T : State} (X : Stand p l e Rm s m args below meth c T locs cells slots) (hq : ∀ q ∈ locs, S0.heap.size ≤ q.base) (hR : zRl S0 D z L h T.heap) (hl : zLs S0 z mi lv ls) {stk : List Value} {x : Nat × Nat}
    (hcell : ∃ cell : Cell, T.heap[zr S0 z x.2]? = some cell ∧ cell.vm = .none ∧ S0.vm.findClass (zxn x.1) = some cell.cls)
    (kk : match zcatch mi pc x.1 with
      | some pc' => zG p l e Rm s m args below meth c Q S0 D z L mi pc' lv [.ref x.2] h cells slots
      | none => zhd mi = [] ∧ ∀ t, zEnd S0 D z L s below (.inr x) h cells slots t → Q t) :
    ∃ t, Steps p.tables e below ((T.setTop (F0 m pc ls stk)).pushFrame (.throwing (zr S0 z x.2))) t ∧ Q t := by
  have hts := zCx.ts (args := args) F C
  obtain ⟨hx, hb, hml, hown, hlocks, hret, hname, hW, hsz, htab, hag, hns⟩ := C
  obtain ⟨cell, c1, c2, c3⟩ := hcell
  cases hk : zcatch mi pc x.1 with
  | none =>
    rw [hk] at kk
    obtain ⟨hh, hQ⟩ := kk
    have hout : ∀ y ∈ c.exceptionTable.toList, covers y (F0 m pc ls stk).pc = false := by
      intro y hy
      rcases htab with ht | ht
      · rw [hh] at ht; cases ht
      · rw [hh] at ht
        rw [List.map_eq_nil_iff.mp ht] at hy
        cases hy
    obtain ⟨w1, w2, w3, w4, w5⟩ := X.leaveThrown (zr S0 z x.2) (g := F0 m pc ls stk) rfl rfl rfl hout hlocks
    exact ⟨_, w1, hQ _ ⟨_, w2, w3, w4, hR, ⟨locs, w5, hq⟩, rfl, cell, c1, c2, c3⟩⟩
  | some pc' =>
    rw [hk] at kk
    dsimp only at kk
    unfold zcatch at hk
    obtain ⟨q, hq1, epc⟩ := Option.map_eq_some_iff.mp hk
    obtain ⟨hp, as, bs, hsp, hno⟩ := List.find?_eq_some_iff_append.mp hq1
    rw [Bool.and_eq_true, decide_eq_true_eq, decide_eq_true_eq] at hp
    obtain ⟨hcov, hxq⟩ := hp
    have hmi0 : mi ≠ 0 := by
      rintro rfl
      have : q ∈ zhd 0 := by rw [hsp]; simp
      have h2 : zhd 0 = [(0, 0, 0, 0)] := rfl
      rw [h2, List.mem_singleton] at this
      subst this
      exact absurd hcov.2 (by simp)
    have ht : c.exceptionTable.toList.map (fun h => (h.startPc, h.endPc, h.handlerPc, h.catchType)) = as ++ q :: bs := by
      rcases htab with ht | ht
      · have : q ∈ zhd mi := by rw [hsp]; simp
        rw [ht, List.mem_singleton] at this
        subst this
        exact absurd hcov.2 (by simp)
      · rw [ht, hsp]
    obtain ⟨l1, l2, e1, e2, e3⟩ := List.map_eq_append_iff.mp ht
    obtain ⟨y, l3, e4, e5, e6⟩ := List.map_eq_cons_iff.mp e3
    subst e5
    have hpl : e.platform.magicAccessors = ({} : Platform).magicAccessors := by rw [X.admits.platform]
    have hal := hW.alike
    obtain ⟨hx2, hwx⟩ := zxc_ok hxq
    obtain ⟨cT, hcT, hclT⟩ := Cond.classLink_spec hown (hts _ hwx) e.platform hpl
    have hcT0 : S0.vm.findClass (zxn x.1) = some cT := by rw [← hcT]; exact (hal.findClass _ _).symm
    have ecT : cT = cell.cls := Option.some.inj (hcT0.symm.trans c3)
    have hself : s.vm.assignable cell.cls cT = true := by
      rw [hal.assignable, Fx.1 x.1 x.1 hx2 hx2 cell.cls cT c3 hcT0]
      simp
    obtain ⟨hy0, -⟩ := (⟨(zhd_ok hmi0 hmi (show (y.startPc, y.endPc, y.handlerPc, y.catchType) ∈ zhd mi by rw [hsp]; simp)).2, trivial⟩ : y.catchType ≠ 0 ∧ True)
    obtain ⟨vm', X', step⟩ := X.caughtThrough (zr S0 z x.2) (g := F0 m pc ls stk) rfl c1 (by rw [c2]; rfl) (by
        rw [← ecT]
        exact Vm.classAt_of_findClass hcT) l1 y l3 (by rw [e1, e4]) (fun w hw => by
        have hwm : (w.startPc, w.endPc, w.handlerPc, w.catchType) ∈ as := by
          rw [← e2]; exact List.mem_map.mpr ⟨w, hw, rfl⟩
        have hn1 := hno _ hwm
        by_cases hcw : w.startPc ≤ pc ∧ pc < w.endPc
        · refine Or.inr ?_
          obtain ⟨⟨x2, hx2'⟩, hw0⟩ := zhd_ok hmi0 hmi (q := (w.startPc, w.endPc, w.handlerPc, w.catchType)) (by rw [hsp]; exact List.mem_append_left _ hwm)
          have hne : x2 ≠ x.1 := by
            rintro rfl
            simp [hcw] at hn1
            exact hn1 hx2'
          obtain ⟨hlt2, hw2⟩ := zxc_ok hx2'
          obtain ⟨c9, hc9, hcl9⟩ := Cond.classLink_spec hown (hts _ hw2) e.platform hpl
          have hc90 : S0.vm.findClass (zxn x2) = some c9 := by rw [← hc9]; exact (hal.findClass _ _).symm
          refine ⟨hw0, c9, hcl9, ?_⟩
          rw [hal.assignable, Fx.1 x.1 x2 hx2 hlt2 cell.cls c9 c3 hc90]
          simp [Ne.symm hne]
        · refine Or.inl ?_
          show (decide (w.startPc ≤ pc) && decide (pc < w.endPc)) = false
          by_cases h1 : w.startPc ≤ pc
          · have h2 : ¬ pc < w.endPc := fun h2 => hcw ⟨h1, h2⟩
            simp [h2]
          · simp [h1]) (by
        show (decide (y.startPc ≤ pc) && decide (pc < y.endPc)) = true
        simp [hcov.1, hcov.2]) (Or.inr ⟨hy0, cT, hclT, hself⟩)
    subst epc
    obtain ⟨t, a1, b1⟩ := zg_w kk hR hl hq (T.setVm vm') rfl X'
    refine ⟨t, ?_, b1⟩
    rw [X.pushThrowing_eq]
    exact step t a1
/-- what goes on behind the call (zfin's last premise) -/
def zKk (p : Program) (l : Launch) (e : Env) (Rm : Room) (s : State) (m : MethodId) (args : Array Value) (below : List Frame) (meth : Method) (c : Code) (Q : State → Prop) (S0 : State) (D : va_G) (z : Nat → Nat) (L mi pc : Nat) (lv : zLv) (rest : List Value) (h h1 : zHp) (o : zOut) (cells slots : Nat) : Prop :=
  match o with
      | .inl v => zG p l e Rm s m args below meth c Q S0 D z L mi (pc + 3) lv (v.toList ++ rest) h1 (cells + (h1.1 - h.1)) (slots + (h1.2.1 - h.2.1))
      | .inr x => (match zcatch mi pc x.1 with
        | some pc' => zG p l e Rm s m args below meth c Q S0 D z L mi pc' lv [.ref x.2] h1 (cells + (h1.1 - h.1)) (slots + (h1.2.1 - h.2.1))
        | none => zhd mi = [] ∧ ∀ t, zEnd S0 D z L s below (.inr x) h1 (cells + (h1.1 - h.1)) (slots + (h1.2.1 - h.2.1)) t → Q t)
theorem zfin (Fx : zFx S0) (F : zFix S0 D z) (C : zCx S0 p s m meth c mi) (hmi : mi < zNm) {T : State} (hR : zRl S0 D z L h T.heap) (X : Stand p l e Rm s m args below meth c T locs cells slots) (hq : ∀ q ∈ locs, S0.heap.size ≤ q.base) (hl : zLs S0 z mi lv ls) {rest as : List Value} (hcr : zcat rest ≤ 8)
    {ig : Instr} (hd : decode (zcd mi) pc = .ok (ig, 3)) {mj : Nat} (h0 : mj ≠ 0) (hlt : mj < zNm) {mk : MethodId} (hn : T.methodNamed? (zy mj) = some mk) (hac : zlg mj = false → ∀ v ∈ as, v.category = 1) (hal : (zexp as).length ≤ zmx mj)
    {o : zOut} {h1 : zHp} (hcells : cells + (h1.1 - h.1) ≤ Rm.cells) (hslots : slots + (h1.2.1 - h.2.1) ≤ Rm.slots) (hfr : zrk mj + 1 ≤ Rm.frames) (hlo : 8 + (zmx mj + 11) + zlo mj ≤ Rm.locals)
    (ih : ∀ (R' : Room) (s' : State) (m' : MethodId) (args' : Array Value) (below' : List Frame) (meth' : Method) (c' : Code), zCx S0 p s' m' meth' c' mj → R'.frames = zrk mj → R'.locals = zlo mj → R'.cells = h1.1 - h.1 → R'.slots = h1.2.1 - h.2.1 →
      zG p l e R' s' m' args' below' meth' c' (zEnd S0 D z L s' below' o h1 (h1.1 - h.1) (h1.2.1 - h.2.1)) S0 D z L mj 0 (zent mj as) [] h 0 0)
    (kk : zKk p l e Rm s m args below meth c Q S0 D z L mi pc lv rest h h1 o cells slots) :
    ∃ t, Steps p.tables e below (doInvoke e (T.setTop (F0 m pc ls (rest.map (zv S0 z)))) [] mk (as.map (zv S0 z)).toArray).1 t ∧ Q t := by
  have hWT : S0.WarmedH T.vm := State.WarmedH.trans C.2.2.2.2.2.2.2.1 X.warmed
  obtain ⟨mk', methk, ck, k0, k1, k2, k3, k4, k5, k6, k7, k8, k9, k10, k11, k12⟩ := zmeth F hWT h0 hlt
  cases Option.some.inj (hn.symm.trans k0)
  have Ck : zCx S0 p (T.calling (F0 m pc ls (rest.map (zv S0 z))) mk (as.map (zv S0 z)).toArray) mk methk ck mj :=
    ⟨C.1, k3, k4, k11, k6, k5, k10, hWT, by show S0.heap.size ≤ T.heap.size; rw [hR.2.1]; omega, Or.inr k7, hR.2.2.1, hR.2.2.2.2.2⟩
  obtain ⟨T', Lc, X', hqq, hR1, hm⟩ := zcore hR X hq (g := F0 m pc ls (rest.map (zv S0 z))) rfl (by rw [C.2.2.1]; exact hl.size) (ig := ig) (len := 3) (by rw [C.2.1]; exact hd) (by show 2 * 0 + _ ≤ 8; rw [zcat_map]; omega) k1 k2 k6 k4 k9 hac hal Ck hcells hslots hfr hlo ih
  cases o with
  | inl v =>
    unfold zKk at kk
    dsimp only at kk hm
    obtain ⟨t, a1, b1⟩ := zg_w kk hR1 hl hqq T' rfl X'
    refine ⟨t, hm t ?_, b1⟩
    have ev : (v.toList ++ rest).map (zv S0 z) = (v.map (zv S0 z)).toList ++ rest.map (zv S0 z) := by cases v <;> rfl
    rw [ev] at a1
    exact a1
  | inr x =>
    unfold zKk at kk
    dsimp only at kk hm
    obtain ⟨t, a1, b1⟩ := zcaught (stk := rest.map (zv S0 z)) Fx F C hmi X' hqq hR1 hl hm.1 kk
    exact ⟨t, hm.2 t a1, b1⟩
end ZCL2
end
section
/-! THE THREE KINDS OF CALLS -/
theorem zml_nz_all : (List.range 10).all (fun oc => (zmlL.getD oc []).all (fun q => decide (q.2.1 ≠ 0))) = true := by decide +kernel
theorem zml_nz {oc k mj : Nat} (h : zml oc k = some mj) : mj ≠ 0 := by
  obtain ⟨q, hq, hk, e⟩ := zfind h
  have hc := zall zml_nz_all (by decide) hq
  cases e
  exact of_decide_eq_true hc
theorem zinit_all : (List.range zNm).all (fun mj => !decide ((zy mj).name = "<init>") || (decide (zrt mj = none) && [1, 2, 3, 4, 5, 12, 13, 80].contains mj)) = true := by decide +kernel
theorem zinit_ok {mj : Nat} (h : mj < zNm) (hn : (zy mj).name = "<init>") : zrt mj = none ∧ Cond.code (zy mj) (zcd mj) (zmx mj) (zrt mj) ∈ zws := by
  have h1 := List.all_eq_true.mp zinit_all mj (List.mem_range.mpr h)
  rw [Bool.or_eq_true, Bool.and_eq_true, decide_eq_true_eq] at h1
  rcases h1 with h1 | ⟨h1, h2⟩
  · simp [hn] at h1
  · refine ⟨h1, ?_⟩
    have h3 : mj ∈ [1, 2, 3, 4, 5, 12, 13, 80] := List.contains_iff_mem.mp h2
    simp only [List.mem_cons, List.not_mem_nil, or_false] at h3
    rcases h3 with rfl | rfl | rfl | rfl | rfl | rfl | rfl | rfl
    · exact List.mem_filter.mpr ⟨List.mem_of_getElem? zco_1, rfl⟩
    · exact List.mem_filter.mpr ⟨List.mem_of_getElem? zco_2, rfl⟩
    · exact List.mem_filter.mpr ⟨List.mem_of_getElem? zco_3, rfl⟩
    · exact List.mem_filter.mpr ⟨List.mem_of_getElem? zco_4, rfl⟩
    · exact List.mem_filter.mpr ⟨List.mem_of_getElem? zco_5, rfl⟩
    · exact List.mem_filter.mpr ⟨List.mem_of_getElem? zco_12, rfl⟩
    · exact List.mem_filter.mpr ⟨List.mem_of_getElem? zco_13, rfl⟩
    · exact List.mem_filter.mpr ⟨List.mem_of_getElem? zco_80, rfl⟩
/-- what a call that the logical machine makes has -/
def zCf (mi mj : Nat) (as rest : List Value) (len : Nat) : Prop :=
  zrk mj < zrk mi ∧ 8 + (zmx mj + 11) + zlo mj ≤ zlo mi ∧ mj < zNm ∧ zcat rest ≤ 8 ∧ (zlg mj = false → ∀ v ∈ as, v.category = 1) ∧ (zexp as).length ≤ zmx mj ∧ len = 3
theorem ztake_ok {n : Nat} {st as rest : List Value} (h : ztake n st = some (as, rest)) : st = as.reverse ++ rest ∧ as.length = n := by
  unfold ztake at h
  split at h
  next hl =>
    cases h
    refine ⟨by rw [List.reverse_reverse, List.take_append_drop], ?_⟩
    rw [List.length_reverse, List.length_take]; omega
  next => cases h
theorem zcall_true {mi mj mj' L len : Nat} {h : zHp} {st as rest : List Value} (hc : zcall mi mj true L h st = some (.inr (.inl (mj', as, rest, len)))) :
    mj' = mj ∧ zCf mi mj as rest len ∧ zat mj = false ∧ ∃ (b : Nat) (as' : List Value), as = .ref b :: as' ∧ as'.length = znp mj ∧ st = as'.reverse ++ .ref b :: rest ∧ zk L h b = some (.inr (zoc mj)) := by
  unfold zcall at hc
  split at hc
  next h1 =>
    split at hc
    next as' rest' ht =>
      obtain ⟨e1, e2⟩ := ztake_ok ht
      refine Decidable.byCases (fun h2 => ?_) (fun h2 => by rw [if_neg h2] at hc; cases hc)
      · rw [if_pos h2] at hc
        dsimp only at hc
        split at hc
        next b r =>
          split at hc
          next h3 =>
            cases hc
            refine ⟨rfl, ⟨h1.1.1, h1.1.2, h1.2.2, h3.2, fun hg v hv => ?_, ?_, rfl⟩, by simpa using h1.2.1, b, as', rfl, e2, e1, h3.1⟩
            · rcases List.mem_cons.mp hv with rfl | hv
              · rfl
              · have := h2.1
                rw [hg, Bool.false_or] at this
                simpa using List.all_eq_true.mp this v hv
            · have := h2.2
              show (some (Value.ref b) :: zexp as').length ≤ _
              simp at this ⊢
              omega
          next => cases hc
        next => cases hc
    next => cases hc
  next => cases hc
theorem zcall_false {mi mj mj' L len : Nat} {h : zHp} {st as rest : List Value} (hc : zcall mi mj false L h st = some (.inr (.inl (mj', as, rest, len)))) :
    mj' = mj ∧ zCf mi mj as rest len ∧ zat mj = true ∧ as.length = znp mj ∧ st = as.reverse ++ rest := by
  unfold zcall at hc
  split at hc
  next h1 =>
    split at hc
    next as' rest' ht =>
      obtain ⟨e1, e2⟩ := ztake_ok ht
      refine Decidable.byCases (fun h2 => ?_) (fun h2 => by rw [if_neg h2] at hc; cases hc)
      · rw [if_pos h2] at hc
        dsimp only at hc
        split at hc
        next h3 =>
          cases hc
          refine ⟨rfl, ⟨h1.1.1, h1.1.2, h1.2.2, h3, fun hg v hv => ?_, ?_, rfl⟩, by simpa using h1.2.1, e2, e1⟩
          · have := h2.1
            rw [hg, Bool.false_or] at this
            simpa using List.all_eq_true.mp this v hv
          · have := h2.2
            simp at this ⊢
            omega
        next => cases hc
    next => cases hc
  next => cases hc
section ZCK
variable {p : Program} {l : Launch} {e : Env} {Rm : Room} {s : State} {m : MethodId} {args : Array Value} {below : List Frame} {meth : Method} {c : Code} {H : Heap} {locs : List Loc} {cells slots : Nat} {Q : State → Prop}
variable {S0 : State} {D : va_G} {z : Nat → Nat} {L mi pc : Nat} {lv : zLv} {st : List Value} {h : zHp} {ls : Array Slot}
/-- the words of a method that is called -/
theorem zmw {mj : Nat} (h0 : mj ≠ 0) (hlt : mj < zNm) (hts : ∀ w ∈ zws, w.before args s = true) : (Cond.initialized (zy mj).cls).before args s = true ∧ (zat mj = true → (Cond.static (zy mj)).before args s = true) ∧
    (zat mj = false → (Cond.instanceMethod (zy mj)).before args s = true ∧ ((zy mj).name ≠ "<init>" → (Cond.selects (zy mj).cls (zy mj) (zy mj)).before args s = true)) ∧
    (zy mj).cls = zcn (zoc mj) ∧ (parseMethodDescriptor (zy mj).desc).map (fun d => d.parameters.length) = some (znp mj) ∧ ((zy mj).cls ≠ "java/lang/invoke/MethodHandle" ∧ (zy mj).cls ≠ "java/lang/invoke/VarHandle") := by
  have hm := zm_ok h0 hlt
  unfold zmC at hm
  rw [Bool.and_eq_true, Bool.and_eq_true, Bool.and_eq_true, Bool.and_eq_true, Bool.and_eq_true, decide_eq_true_eq, decide_eq_true_eq, decide_eq_true_eq] at hm
  obtain ⟨hi, hs, ⟨⟨hc, hp⟩, hpl⟩, hne⟩ := hm
  refine ⟨hts _ (zin hi), fun ha => ?_, fun ha => ?_, hc, hp, hne⟩
  · rw [if_pos ha] at hs
    exact hts _ (zin hs)
  · rw [if_neg (by rw [ha]; decide), Bool.and_eq_true, Bool.or_eq_true] at hs
    refine ⟨hts _ (zin hs.1), fun hn => ?_⟩
    rcases hs.2 with h2 | h2
    · exact absurd (of_decide_eq_true h2) hn
    · exact hts _ (zin h2)
def zIh (p : Program) (l : Launch) (e : Env) (S0 : State) (D : va_G) (z : Nat → Nat) (L mj : Nat) (as : List Value) (h h1 : zHp) (o : zOut) : Prop :=
  ∀ (R' : Room) (s' : State) (m' : MethodId) (args' : Array Value) (below' : List Frame) (meth' : Method) (c' : Code), zCx S0 p s' m' meth' c' mj → R'.frames = zrk mj → R'.locals = zlo mj → R'.cells = h1.1 - h.1 → R'.slots = h1.2.1 - h.2.1 →
      zG p l e R' s' m' args' below' meth' c' (zEnd S0 D z L s' below' o h1 (h1.1 - h.1) (h1.2.1 - h.2.1)) S0 D z L mj 0 (zent mj as) [] h 0 0
theorem zs_callV (Fx : zFx S0) (F : zFix S0 D z) (C : zCx S0 p s m meth c mi) (hmi : mi < zNm) {k len mj b : Nat} {as rest : List Value} (hd : decode (zcd mi) pc = .ok (.invokevirtual k, 3)) (hk : zml (zoc mi) k = some mj) (hni : (zy mj).name ≠ "<init>") (hcf : zCf mi mj (.ref b :: as) rest len) (hat : zat mj = false) (hal : as.length = znp mj) (hst : st = as.reverse ++ .ref b :: rest) (hb : zk L h b = some (.inr (zoc mj)))
    {o : zOut} {h1 : zHp} (hcells : cells + (h1.1 - h.1) ≤ Rm.cells) (hslots : slots + (h1.2.1 - h.2.1) ≤ Rm.slots) (hfr : zrk mi ≤ Rm.frames) (hlo : zlo mi ≤ Rm.locals)
    (ih : zIh p l e S0 D z L mj (.ref b :: as) h h1 o) (kk : zKk p l e Rm s m args below meth c Q S0 D z L mi pc lv rest h h1 o cells slots) : zG p l e Rm s m args below meth c Q S0 D z L mi pc lv st h cells slots := by
  intro H locs ls hR hl hq T hT X
  subst hT
  subst hst
  have hts := zCx.ts (args := args) F C
  have CC := C
  obtain ⟨hx, hbb, hml, hown, hlocks, hret, hname, hW, hsz, htab, hag, hns⟩ := C
  obtain ⟨hr1, hr2, hlt, hcr, hac, hxl, hl3⟩ := hcf
  have h0 := zml_nz hk
  obtain ⟨-, w2, w3, hcl, hpar, hy⟩ := zmw (args := args) (s := s) h0 hlt hts
  obtain ⟨hinst, hsel⟩ := w3 hat
  have hsel := hsel hni
  obtain ⟨cellB, c1, hci, c2, c3, -⟩ := hR.at hb
  have hfc : s.vm.findClass (zcn (zoc mj)) = some cellB.cls := by
    have hK := va_K.moved hW.alike F.2.1
    obtain ⟨-, hfc, -⟩ := hK.1 (zoc mj) _ (zcls_at _ hci)
    rw [c3]; exact hfc
  rw [← hcl] at hfc
  obtain ⟨mk, methM, hnamed, hmethM, hstM, habM⟩ := Cond.instanceMethod_spec hinst
  obtain ⟨c2', r2, m2, q1, q2, q3, q4, kP, hkP, hkPi⟩ := Cond.selects_spec hsel
  cases hfc.symm.trans q1
  cases (State.methodFound?_of_named hnamed hy).symm.trans q2
  cases hnamed.symm.trans q3
  have hselP : selectMethod e.platform s.vm cellB.cls mk = .method mk := by rw [Launch.admits_selectMethod X.admits]; exact q4
  obtain ⟨mk', methk, ck, k0, k1, k2, k3, k4, k5, k6, k7, k8, k9, k10, k11, k12⟩ := zmeth F hW h0 hlt
  cases Option.some.inj (hnamed.symm.trans k0)
  cases Option.some.inj (hmethM.symm.trans k1)
  have hlen : (as.map (zv S0 z)).length = methM.sig.parameters.length := by rw [List.length_map, hal, k12]
  have hstk : (F0 m pc ls ((as.reverse ++ .ref b :: rest).map (zv S0 z))).stack = (as.map (zv S0 z)).reverse ++ .ref (zr S0 z b) :: rest.map (zv S0 z) := by
    show (as.reverse ++ .ref b :: rest).map (zv S0 z) = _
    rw [List.map_append, List.map_reverse]; rfl
  have fin : ∀ vm₁, Stand p l e Rm s m args below meth c (T.setVm vm₁) locs cells slots → ∃ t, Steps p.tables e below (doInvoke e ((T.setVm vm₁).setTop (F0 m pc ls (rest.map (zv S0 z)))) [] mk ((.ref b :: as).map (zv S0 z)).toArray).1 t ∧ Q t := by
    intro vm₁ X₁
    exact zfin Fx F CC hmi (T := T.setVm vm₁) hR X₁ hq hl hcr hd h0 hlt (X₁.named hnamed) hac hxl hcells hslots (by omega) (by omega) ih kk
  rcases (zml_ok hk).2 with hlk | ⟨host, hlk⟩
  · obtain ⟨vm₁, X₁, hstep₁⟩ := X.invokevirtual hx hown (hts _ hlk) hnamed hmethM hstM hkP hkPi hy (a := zr S0 z b) (cell := cellB) c1
      (fun z h => by rw [h] at c2; cases c2) hselP hmethM habM hkP hkPi (g := F0 m pc ls ((as.reverse ++ .ref b :: rest).map (zv S0 z))) rfl (argsL := as.map (zv S0 z)) (rest := rest.map (zv S0 z)) hlen hstk (by rw [hbb]; exact hd)
    obtain ⟨t, a1, b1⟩ := fin vm₁ X₁
    exact ⟨t, hstep₁ _ fun acts => by rw [doInvoke_state]; exact a1, b1⟩
  · obtain ⟨vm₁, X₁, hstep₁⟩ := X.invokevirtualNest hx hown (hts _ hlk) hnamed hmethM hstM hkP hkPi hy (a := zr S0 z b) (cell := cellB) c1
      (fun z h => by rw [h] at c2; cases c2) hselP hmethM habM hkP hkPi (g := F0 m pc ls ((as.reverse ++ .ref b :: rest).map (zv S0 z))) rfl (argsL := as.map (zv S0 z)) (rest := rest.map (zv S0 z)) hlen hstk (by rw [hbb]; exact hd)
    obtain ⟨t, a1, b1⟩ := fin vm₁ X₁
    exact ⟨t, hstep₁ _ fun acts => by rw [doInvoke_state]; exact a1, b1⟩
theorem zs_callS (Fx : zFx S0) (F : zFix S0 D z) (C : zCx S0 p s m meth c mi) (hmi : mi < zNm) {k len mj : Nat} {as rest : List Value} (hd : decode (zcd mi) pc = .ok (.invokestatic k, 3)) (hk : zml (zoc mi) k = some mj) (hcf : zCf mi mj as rest len) (hat : zat mj = true) (hal : as.length = znp mj) (hst : st = as.reverse ++ rest)
    {o : zOut} {h1 : zHp} (hcells : cells + (h1.1 - h.1) ≤ Rm.cells) (hslots : slots + (h1.2.1 - h.2.1) ≤ Rm.slots) (hfr : zrk mi ≤ Rm.frames) (hlo : zlo mi ≤ Rm.locals)
    (ih : zIh p l e S0 D z L mj as h h1 o) (kk : zKk p l e Rm s m args below meth c Q S0 D z L mi pc lv rest h h1 o cells slots) : zG p l e Rm s m args below meth c Q S0 D z L mi pc lv st h cells slots := by
  intro H locs ls hR hl hq T hT X
  subst hT
  subst hst
  have hts := zCx.ts (args := args) F C
  have CC := C
  obtain ⟨hx, hbb, hml, hown, hlocks, hret, hname, hW, hsz, htab, hag, hns⟩ := C
  obtain ⟨hr1, hr2, hlt, hcr, hac, hxl, hl3⟩ := hcf
  have h0 := zml_nz hk
  obtain ⟨hinit, w2, w3, hcl, hpar, hy⟩ := zmw (args := args) (s := s) h0 hlt hts
  have hstat := w2 hat
  obtain ⟨mk, methk, ck, hnamed, k1, k2, k3, k4, k5, k6, k7, k8, k9, k10, k11, k12⟩ := zmeth F hW h0 hlt
  have hstatic : methk.isStatic = true := Cond.static_spec hnamed k1 hstat
  obtain ⟨kP, hkP, -⟩ := className_of_methodNamed hnamed
  have hinitP : kP.init = .initialized := Cond.initialized_spec (findClass_of_methodNamed hnamed) hkP hinit
  have hlen : (as.map (zv S0 z)).length = methk.sig.parameters.length := by rw [List.length_map, hal, k12]
  have hstk : (F0 m pc ls ((as.reverse ++ rest).map (zv S0 z))).stack = (as.map (zv S0 z)).reverse ++ rest.map (zv S0 z) := by
    show (as.reverse ++ rest).map (zv S0 z) = _
    rw [List.map_append, List.map_reverse]
  have fin : ∀ vm₁, Stand p l e Rm s m args below meth c (T.setVm vm₁) locs cells slots → ∃ t, Steps p.tables e below (doInvoke e ((T.setVm vm₁).setTop (F0 m pc ls (rest.map (zv S0 z)))) [] mk (as.map (zv S0 z)).toArray).1 t ∧ Q t := by
    intro vm₁ X₁
    exact zfin Fx F CC hmi (T := T.setVm vm₁) hR X₁ hq hl hcr hd h0 hlt (X₁.named hnamed) hac hxl hcells hslots (by omega) (by omega) ih kk
  rcases (zml_ok hk).2 with hlk | ⟨host, hlk⟩
  · obtain ⟨vm₁, X₁, hstep₁⟩ := X.invokestatic hx hown (hts _ hlk) hnamed k1 hstatic hkP hinitP hy (g := F0 m pc ls ((as.reverse ++ rest).map (zv S0 z))) rfl (argsL := as.map (zv S0 z)) (rest := rest.map (zv S0 z)) hlen hstk (by rw [hbb]; exact hd)
    obtain ⟨t, a1, b1⟩ := fin vm₁ X₁
    exact ⟨t, hstep₁ _ fun acts => by rw [doInvoke_state]; exact a1, b1⟩
  · obtain ⟨vm₁, X₁, hstep₁⟩ := X.invokestaticNest hx hown (hts _ hlk) hnamed k1 hstatic hkP hinitP hy (g := F0 m pc ls ((as.reverse ++ rest).map (zv S0 z))) rfl (argsL := as.map (zv S0 z)) (rest := rest.map (zv S0 z)) hlen hstk (by rw [hbb]; exact hd)
    obtain ⟨t, a1, b1⟩ := fin vm₁ X₁
    exact ⟨t, hstep₁ _ fun acts => by rw [doInvoke_state]; exact a1, b1⟩
theorem zs_callI (Fx : zFx S0) (F : zFix S0 D z) (C : zCx S0 p s m meth c mi) (hmi : mi < zNm) {k len mj b : Nat} {as rest : List Value} (hd : decode (zcd mi) pc = .ok (.invokespecial k, 3)) (hk : zml (zoc mi) k = some mj) (hni : (zy mj).name = "<init>") (hcf : zCf mi mj (.ref b :: as) rest len) (hat : zat mj = false) (hal : as.length = znp mj) (hst : st = as.reverse ++ .ref b :: rest)
    {o : zOut} {h1 : zHp} (hcells : cells + (h1.1 - h.1) ≤ Rm.cells) (hslots : slots + (h1.2.1 - h.2.1) ≤ Rm.slots) (hfr : zrk mi ≤ Rm.frames) (hlo : zlo mi ≤ Rm.locals)
    (ih : zIh p l e S0 D z L mj (.ref b :: as) h h1 o) (kk : zKk p l e Rm s m args below meth c Q S0 D z L mi pc lv rest h h1 o cells slots) : zG p l e Rm s m args below meth c Q S0 D z L mi pc lv st h cells slots := by
  intro H locs ls hR hl hq T hT X
  subst hT
  subst hst
  have hts := zCx.ts (args := args) F C
  have CC := C
  obtain ⟨hx, hbb, hml, hown, hlocks, hret, hname, hW, hsz, htab, hag, hns⟩ := C
  obtain ⟨hr1, hr2, hlt, hcr, hac, hxl, hl3⟩ := hcf
  have h0 := zml_nz hk
  obtain ⟨-, w2, w3, hcl, hpar, hy⟩ := zmw (args := args) (s := s) h0 hlt hts
  obtain ⟨hinst, -⟩ := w3 hat
  obtain ⟨hrt, hcw⟩ := zinit_ok hlt hni
  rw [hrt] at hcw
  have hcode := hts _ hcw
  have hpl : e.platform.magicAccessors = ({} : Platform).magicAccessors := by rw [X.admits.platform]
  have hlen : ∀ sig, parseMethodDescriptor (zy mj).desc = some sig → (as.map (zv S0 z)).length = sig.parameters.length := by
    intro sig hsig
    rw [hsig] at hpar
    rw [List.length_map, hal]
    exact (Option.some.inj hpar).symm
  have hstk : (F0 m pc ls ((as.reverse ++ .ref b :: rest).map (zv S0 z))).stack = (as.map (zv S0 z)).reverse ++ .ref (zr S0 z b) :: rest.map (zv S0 z) := by
    show (as.reverse ++ .ref b :: rest).map (zv S0 z) = _
    rw [List.map_append, List.map_reverse]; rfl
  have fin : ∀ mk vm₁, s.methodNamed? (zy mj) = some mk → Stand p l e Rm s m args below meth c (T.setVm vm₁) locs cells slots → ∃ t, Steps p.tables e below (doInvoke e ((T.setVm vm₁).setTop (F0 m pc ls (rest.map (zv S0 z)))) [] mk ((.ref b :: as).map (zv S0 z)).toArray).1 t ∧ Q t := by
    intro mk vm₁ hnamed X₁
    exact zfin Fx F CC hmi (T := T.setVm vm₁) hR X₁ hq hl hcr hd h0 hlt (X₁.named hnamed) hac hxl hcells hslots (by omega) (by omega) ih kk
  rcases (zml_ok hk).2 with hlk | ⟨host, hlk⟩
  · obtain ⟨mk, methM, cM, kP, vm₁, hnamed, hmethM, hcodeM, -, hlocalsM, -, hkP, -, hW₁, hstep₁⟩ := Steps.initColdArgs (e := e) X.here hx X.warmed hpl hown hni hy (hts _ hlk) hinst hcode (f := F0 m pc ls ((as.reverse ++ .ref b :: rest).map (zv S0 z))) rfl hlen hstk (by rw [hbb]; exact hd)
    obtain ⟨t, a1, b1⟩ := fin mk vm₁ hnamed (X.noted hW₁)
    exact ⟨t, hstep₁ _ fun acts => by rw [doInvoke_state]; exact a1, b1⟩
  · obtain ⟨mk, methM, cM, kP, vm₁, hnamed, hmethM, hcodeM, -, hlocalsM, -, hkP, -, hW₁, hstep₁⟩ := Steps.initColdArgsNest (e := e) X.here hx X.warmed hpl hown hni hy (hts _ hlk) hinst hcode (f := F0 m pc ls ((as.reverse ++ .ref b :: rest).map (zv S0 z))) rfl hlen hstk (by rw [hbb]; exact hd)
    obtain ⟨t, a1, b1⟩ := fin mk vm₁ hnamed (X.noted hW₁)
    exact ⟨t, hstep₁ _ fun acts => by rw [doInvoke_state]; exact a1, b1⟩
end ZCK
end
section
/-! A THROW: the walk is begun anew at the point where it stands, so that what was made before keeps its contents -/
section ZTH
variable {p : Program} {l : Launch} {e : Env} {Rm : Room} {s : State} {m : MethodId} {args : Array Value} {below : List Frame} {meth : Method} {c : Code} {H : Heap} {locs : List Loc} {cells slots : Nat} {Q : State → Prop}
variable {S0 : State} {D : va_G} {z : Nat → Nat} {L mi pc : Nat} {lv : zLv} {st : List Value} {h : zHp} {ls : Array Slot}
theorem zhears {s s' : State} (hvm : s.vm.Alike s'.vm) {m : MethodId} {below : List Frame} (h : s.hears m below = true) : s'.hears m below = true := by
  have hm : ∀ k, s'.vm.method? k = s.vm.method? k := fun k => hvm.method? k
  have hc : ∀ k, s'.code? k = s.code? k := fun k => by rw [State.code?_eq, State.code?_eq, hm]
  unfold State.hears at h ⊢
  split
  next g r => dsimp only at h; rw [hc]; exact h
  next => rfl
  next => rfl
  next h1 h2 h3 =>
    split at h
    next => exact absurd rfl (h1 _ _)
    next => exact absurd rfl (h2 _ _)
    next => exact absurd rfl (h3 _ _)
    next => rw [hm]; exact h
theorem zrebase {T : State} (X : Stand p l e Rm s m args below meth c T locs cells slots) (hc : cells ≤ Rm.cells) (hs : slots ≤ Rm.slots) :
    Stand p l e { frames := Rm.frames, cells := Rm.cells - cells, slots := Rm.slots - slots, locals := Rm.locals } (T.setFrames (.invoking m args :: below)) m args below meth c T [] 0 0 := by
  obtain ⟨g₀, hg₀⟩ := X.frames_eq
  obtain ⟨th, hth, -⟩ := State.frames_cons hg₀
  have hcur : T.cur < T.threads.size := (Array.getElem?_eq_some_iff.mp hth).1
  have hfr : (T.setFrames (.invoking m args :: below)).frames = .invoking m args :: below := State.frames_setFrames _ hcur
  have hal := X.warmed.alike
  have hm : (T.setFrames (.invoking m args :: below)).vm.method? m = some meth := by
    show T.vm.method? m = _
    rw [hal.method?]; exact X.method
  obtain ⟨e2, q2, q3, q4, q5, q6⟩ := X.same
  have hcT : T.heap.size ≤ s.heap.size + cells := q3
  have hsT : T.slotsUsed ≤ s.slotsUsed + slots := by
    have q4' : T.slotsUsed = s.slotsUsed + ((T.heap.toList.drop s.heap.size).map (·.slots.size)).sum := q4
    have q5' : ((T.heap.toList.drop s.heap.size).map (·.slots.size)).sum ≤ slots := q5
    omega
  have hcur' : (T.setFrames (.invoking m args :: below)).cur < (T.setFrames (.invoking m args :: below)).threads.size := State.cur_lt_of_frames hfr
  obtain ⟨th', hth', -⟩ := State.frames_cons hfr
  refine ⟨X.admits, X.cas, X.clock, hfr, ?_, zhears (s := s) hal X.hears, hm, X.code, X.here, X.tail, State.WarmedH.refl _, by rw [State.stackLimits_setFrames], by rw [State.stackBytes_setFrames], ?_⟩
  · refine State.hasRoom_ride (s := s) (r := Rm) ?_ ?_ ?_ ?_ ?_ ?_ ?_ X.room
    · rw [hfr, X.frames]; exact Nat.le_refl _
    · rw [State.localsInUse_invoking hfr hm X.code, State.localsInUse_invoking X.frames X.method X.code]; exact Nat.le_refl _
    · rw [State.stackLimits_setFrames]; exact X.limits
    · rw [State.stackBytes_setFrames]; exact X.bytes
    · show T.heap.size + (Rm.cells - cells) ≤ _
      omega
    · show T.slotsUsed + (Rm.slots - slots) ≤ _
      omega
    · exact X.book
  · have h := (State.sameButNew.refl (T.setFrames (.invoking m args :: below)) hth').setFrames (.java g₀ :: below) hcur'
    have : (T.setFrames (.invoking m args :: below)).setFrames (.java g₀ :: below) = T := by
      rw [State.setFrames_setFrames, ← hg₀]
      exact State.setFrames_self hth
    rw [this] at h
    exact h
theorem zxl_all : (List.range 10).all (fun oc => (zxlL.getD oc []).all (fun q => decide (q.2.1 < 2))) = true := by decide +kernel
theorem zxi_all : (List.range 2).all (fun x => zat0 (44 + x) (.initialized (zxn x)) && Jvm.Bundle.fit (zxn x)) = true := by decide +kernel
theorem zs_throw (hfl : l.flags = pinnedFlags ++ [noTraceFlag]) (Fx : zFx S0) (F : zFix S0 D z) (C : zCx S0 p s m meth c mi) {k x : Nat} {o : zOut} {h' : zHp} (hd : decode (zcd mi) pc = .ok (.new k, 3)) (hk : zcl (zoc mi) k = some (.inr x)) (hz : zthrow L mi pc x st h = some (.inr (.inr (o, h')))) (hc1 : cells + 1 ≤ Rm.cells) (hs1 : slots + 6 ≤ Rm.slots) (hfr : zrk mi ≤ Rm.frames) (hlo : zlo mi ≤ Rm.locals) :
    h'.1 = h.1 + 1 ∧ h'.2.1 = h.2.1 + 6 ∧ zG p l e Rm s m args below meth c (zEnd S0 D z L s below o h' (cells + 1) (slots + 6)) S0 D z L mi pc lv st h cells slots := by
  unfold zthrow at hz
  split at hz
  next is ic e3 e4 e6 e9 =>
    split at hz
    next hh =>
      cases hz
      refine ⟨rfl, rfl, ?_⟩
      obtain ⟨⟨⟨hxl, hK⟩, hhd, hxs⟩, ⟨h6, h90⟩, hcat⟩ := hh
      intro H locs ls hR hl hq T hT X
      subst hT
      obtain ⟨hx, hb, hml, hown, hlocks, hret, hname, hW, hsz, htab, hag, hns⟩ := C
      have Xr := zrebase X (by omega) (by omega)
      have htr := Launch.traces_off hfl X.admits
      have hWT : S0.WarmedH T.vm := State.WarmedH.trans hW X.warmed
      have hx2 : x < 2 := by
        obtain ⟨q, hq', hk', e⟩ := zfind hxl
        have hc := zall zxl_all (by decide) hq'
        cases e
        exact of_decide_eq_true hc
      have hxi := List.all_eq_true.mp zxi_all x (List.mem_range.mpr hx2)
      rw [Bool.and_eq_true] at hxi
      generalize hs' : T.setFrames (.invoking m args :: below) = s' at Xr
      have hvm' : s'.vm = T.vm := by rw [← hs']; rfl
      have hhp' : s'.heap = T.heap := by rw [← hs']; rfl
      have hW' : S0.WarmedH s'.vm := by rw [hvm']; exact hWT
      have hts' : ∀ w ∈ zws, w.before args s' = true := fun w hw => F.1 w hw args s' hW'
      have hown' : s'.vm.findClass (zcn (zoc mi)) = some m.cls := by rw [hvm']; exact (X.warmed.alike.findClass _ _).trans hown
      have hat := Fx.2.1 (zoc mi) ic x hxl s' args hW' (fun q hq => by rw [hhp']; exact hR.2.2.1 q hq)
      obtain ⟨tx, qs, hstr⟩ := Fx.2.2 (zoc mi) is hxs
      have hstr' := vk_R.warm hW' hstr
      have hout : ∀ y ∈ c.exceptionTable.toList, covers y (pc + 9) = false := by
        intro y hy
        rcases htab with ht | ht
        · rw [hhd] at ht; cases ht
        · rw [hhd] at ht
          rw [List.map_eq_nil_iff.mp ht] at hy
          cases hy
      have hcatm : (((st.map (zv S0 z)).map fun v => v.category)).sum ≤ 8 := by rw [zcat_map]; exact hcat
      have key : W p l e { frames := Rm.frames, cells := Rm.cells - cells, slots := Rm.slots - slots, locals := Rm.locals } s' m args below meth c T.heap [] 0 0
          (fun t => t.status = .running ∧ Ended t below (.threw T.heap.size) ∧ s'.WarmedH t.vm ∧ s'.sameButNew ({ t with vm := s'.vm } : State) [] 1 6 ∧ ∃ ce : Cell, t.heap[T.heap.size]? = some ce ∧ ce.vm = .none ∧ s'.vm.findClass (zxn x) = some ce.cls) (F0 m pc ls (st.map (zv S0 z))) := by
        refine W.newc hx hb hown' (hts' _ (zclx_ok hk)) (hat (.instantiable (zxn x) 6) (by simp [Jvm.Bundle.ownAtoms])) (hts' _ (zin hxi.1)) rfl hd (by show 0 + 1 ≤ Rm.cells - cells; omega) (by show 0 + 6 ≤ Rm.slots - slots; omega) (fun cC kC q1 q2 q3 q4 => ?_)
        refine lv_dup (pc := pc + 3) (va := .ref T.heap.size) hx hb e3 rfl ?_
        refine va_ldcS (pc := pc + 4) hx hb hown' hstr' e4 ?_
        intro W2 hW2 X2
        obtain ⟨U, u1, u2, u3, u4, u5, ce, u6, u7⟩ := X2.ctorThrowS hx htr (names := zxnames) hown' hxi.2 (by decide +kernel) hat (fun y hy => by cases hy) q1 q2 (a := T.heap.size) (by rw [hW2]; simp [freshCell]) (by rw [hhp']; exact Nat.le_refl _) (msg := .ref qs) rfl
          (g := F0 m (pc + 6) ls (.ref qs :: .ref T.heap.size :: .ref T.heap.size :: st.map (zv S0 z))) rfl (by rw [hml]; exact hl.size) rfl rfl rfl (by rw [hb]; exact e6) (by rw [hb]; exact e9) hout (by show 2 + 3 < Rm.frames; omega) (by
            show 2 * 0 + (((Value.ref T.heap.size :: st.map (zv S0 z)).map fun v => v.category)).sum + (13 * (2 + 1) + 42) ≤ Rm.locals
            rw [List.map_cons, List.sum_cons]
            show 2 * 0 + (1 + _) + _ ≤ _
            omega) hlocks
        exact ⟨U, u1, u2, u3, u4, u5, ce, u6, u7.vm, u7.cls⟩
      obtain ⟨t, a1, b1, b2, b3, b4, ce, b5, b6, b7⟩ := key T rfl Xr
      have hzr := zr_new hR
      have hts : t.heap.size = T.heap.size + 1 := by
        have h1 := (Array.getElem?_eq_some_iff.mp b5).1
        have h2 : t.heap.size ≤ s'.heap.size + 1 := b4.2.2.1
        rw [hhp'] at h2
        omega
      have hold : ∀ q : Nat, q < T.heap.size → t.heap[q]? = T.heap[q]? := by
        intro q hq
        have h1 : s'.heap[q]? = some T.heap[q] := by rw [hhp']; exact Array.getElem?_eq_getElem hq
        have h2 : t.heap[q]? = some T.heap[q] := b4.old_cell h1
        rw [h2, Array.getElem?_eq_getElem hq]
      have hfX : s.sameButNew ({ t with vm := s.vm } : State) locs (cells + 1) (slots + 6) := by
        have h1 := X.same.setFrames (.invoking m args :: below) X.cur
        have e1 : (T.setVm s.vm).setFrames (.invoking m args :: below) = s'.setVm s.vm := by rw [← hs']; rfl
        rw [e1] at h1
        have h2 := h1.trans (b4.setVm s.vm)
        rw [List.append_nil] at h2
        exact h2
      refine ⟨t, a1, _, b1, b2, ?_, ?_, ⟨locs, hfX, hq⟩, ?_⟩
      · exact State.WarmedH.trans (show s.WarmedH s'.vm by rw [hvm']; exact X.warmed) b3
      · exact hR.new rfl (fun b hb t j => rfl) b5 (by rw [b6]; rfl) (fun kd hkd => by rw [hK] at hkd; cases hkd) hts hold
      · refine ⟨by rw [hzr], ce, by rw [hzr]; exact b5, b6, ?_⟩
        rw [← b7]; exact (hW'.alike.findClass _ _).symm
    next => cases hz
  next => cases hz
end ZTH
end
section
/-! THE SOUNDNESS OF THE LOGICAL MACHINE -/
def zMo (h : zHp) (r : zRes) : Prop := match r with
  | .inl (_, _, _, h') => h.1 ≤ h'.1 ∧ h.2.1 ≤ h'.2.1
  | .inr (.inl (mj, _, _, len)) => len = 3 ∧ mj < zNm
  | .inr (.inr (_, h')) => h.1 ≤ h'.1 ∧ h.2.1 ≤ h'.2.1
def zOk (p : Program) (l : Launch) (e : Env) (S0 : State) (D : va_G) (z : Nat → Nat) (L mi pc : Nat) (lv : zLv) (st : List Value) (h : zHp) (r : zRes) : Prop :=
  ∀ (Rm : Room) (s : State) (m : MethodId) (args : Array Value) (below : List Frame) (meth : Method) (c : Code) (cells slots : Nat) (Q : State → Prop), zCx S0 p s m meth c mi → zrk mi ≤ Rm.frames → zlo mi ≤ Rm.locals → match r with
  | .inl (pc', lv', st', h') => cells + (h'.1 - h.1) ≤ Rm.cells → slots + (h'.2.1 - h.2.1) ≤ Rm.slots → zG p l e Rm s m args below meth c Q S0 D z L mi pc' lv' st' h' (cells + (h'.1 - h.1)) (slots + (h'.2.1 - h.2.1)) → zG p l e Rm s m args below meth c Q S0 D z L mi pc lv st h cells slots
  | .inr (.inl (mj, as, rest, _)) => ∀ (o : zOut) (h1 : zHp), cells + (h1.1 - h.1) ≤ Rm.cells → slots + (h1.2.1 - h.2.1) ≤ Rm.slots → zIh p l e S0 D z L mj as h h1 o → zKk p l e Rm s m args below meth c Q S0 D z L mi pc lv rest h h1 o cells slots → zG p l e Rm s m args below meth c Q S0 D z L mi pc lv st h cells slots
  | .inr (.inr (o, h')) => cells + (h'.1 - h.1) ≤ Rm.cells → slots + (h'.2.1 - h.2.1) ≤ Rm.slots → zG p l e Rm s m args below meth c (zEnd S0 D z L s below o h' (cells + (h'.1 - h.1)) (slots + (h'.2.1 - h.2.1))) S0 D z L mi pc lv st h cells slots
def zAll (p : Program) (l : Launch) (e : Env) (S0 : State) (D : va_G) (z : Nat → Nat) (L mi pc : Nat) (lv : zLv) (st : List Value) (h : zHp) (r : zRes) : Prop := zMo h r ∧ zOk p l e S0 D z L mi pc lv st h r
section ZSO
variable {p : Program} {l : Launch} {e : Env} {S0 : State} {D : va_G} {z : Nat → Nat} {L mi pc pc' : Nat} {lv lv' : zLv} {st st' : List Value} {h h' : zHp} {r : zRes}
theorem zleaf (hk : ∀ (Rm : Room) (s : State) (m : MethodId) (args : Array Value) (below : List Frame) (meth : Method) (c : Code) (cells slots : Nat) (Q : State → Prop), zCx S0 p s m meth c mi → zrk mi ≤ Rm.frames → zlo mi ≤ Rm.locals → cells ≤ Rm.cells → slots ≤ Rm.slots →
      zG p l e Rm s m args below meth c Q S0 D z L mi pc' lv' st' h' cells slots → zG p l e Rm s m args below meth c Q S0 D z L mi pc lv st h cells slots) (h1 : h'.1 = h.1) (h2 : h'.2.1 = h.2.1) : zAll p l e S0 D z L mi pc lv st h (.inl (pc', lv', st', h')) := by
  refine ⟨⟨by rw [h1]; exact Nat.le_refl _, by rw [h2]; exact Nat.le_refl _⟩, fun Rm s m args below meth c cells slots Q C hfr hlo => ?_⟩
  show _ → _ → _ → _
  rw [h1, h2, Nat.sub_self, Nat.sub_self, Nat.add_zero, Nat.add_zero]
  exact hk Rm s m args below meth c cells slots Q C hfr hlo
/-- what ends a step -/
theorem zn_all (hs : zn pc' lv' st' h' = some r) (hk : zAll p l e S0 D z L mi pc lv st h (.inl (pc', lv', st', h'))) : zAll p l e S0 D z L mi pc lv st h r := by
  cases hs; exact hk
theorem zcall_all (hfl : l.flags = pinnedFlags ++ [noTraceFlag]) (Fx : zFx S0) (F : zFix S0 D z) (hmi : mi < zNm) {k len mj : Nat} {rv : Bool} {i : Instr} (hd : decode (zcd mi) pc = .ok (i, 3)) (hi : i = .invokevirtual k ∧ rv = true ∧ (zy mj).name ≠ "<init>" ∨ i = .invokespecial k ∧ rv = true ∧ (zy mj).name = "<init>" ∨ i = .invokestatic k ∧ rv = false) (hk : zml (zoc mi) k = some mj) (hs : zcall mi mj rv L h st = some r) : zAll p l e S0 D z L mi pc lv st h r := by
  have hsh : ∃ as rest len, r = .inr (.inl (mj, as, rest, len)) := by
    unfold zcall at hs
    split at hs
    next =>
      split at hs
      next as' rest' ht =>
        refine Decidable.byCases (fun h2 => ?_) (fun h2 => by rw [if_neg h2] at hs; cases hs)
        rw [if_pos h2] at hs
        cases rv
        · dsimp only at hs
          split at hs
          · cases hs; exact ⟨_, _, _, rfl⟩
          · cases hs
        · dsimp only at hs
          split at hs
          · split at hs
            · cases hs; exact ⟨_, _, _, rfl⟩
            · cases hs
          · cases hs
      next => cases hs
    next => cases hs
  obtain ⟨as, rest, len, rfl⟩ := hsh
  rcases hi with ⟨rfl, rfl, hn⟩ | ⟨rfl, rfl, hn⟩ | ⟨rfl, rfl⟩
  · obtain ⟨-, hcf, hat, b, as', rfl, e2, e3, e4⟩ := zcall_true hs
    exact ⟨⟨hcf.2.2.2.2.2.2, hcf.2.2.1⟩, fun Rm s m args below meth c cells slots Q C hfr hlo o h1 hc1 hc2 ih kk => zs_callV Fx F C hmi hd hk hn hcf hat e2 e3 e4 hc1 hc2 hfr hlo ih kk⟩
  · obtain ⟨-, hcf, hat, b, as', rfl, e2, e3, e4⟩ := zcall_true hs
    exact ⟨⟨hcf.2.2.2.2.2.2, hcf.2.2.1⟩, fun Rm s m args below meth c cells slots Q C hfr hlo o h1 hc1 hc2 ih kk => zs_callI Fx F C hmi hd hk hn hcf hat e2 e3 hc1 hc2 hfr hlo ih kk⟩
  · obtain ⟨-, hcf, hat, e2, e3⟩ := zcall_false hs
    exact ⟨⟨hcf.2.2.2.2.2.2, hcf.2.2.1⟩, fun Rm s m args below meth c cells slots Q C hfr hlo o h1 hc1 hc2 ih kk => zs_callS Fx F C hmi hd hk hcf hat e2 e3 hc1 hc2 hfr hlo ih kk⟩
theorem zdone {o : zOut} (hk : ∀ (Rm : Room) (s : State) (m : MethodId) (args : Array Value) (below : List Frame) (meth : Method) (c : Code) (cells slots : Nat), zCx S0 p s m meth c mi → zG p l e Rm s m args below meth c (zEnd S0 D z L s below o h cells slots) S0 D z L mi pc lv st h cells slots) : zAll p l e S0 D z L mi pc lv st h (.inr (.inr (o, h))) := by
  refine ⟨⟨Nat.le_refl _, Nat.le_refl _⟩, fun Rm s m args below meth c cells slots Q C hfr hlo => ?_⟩
  show _ → _ → zG _ _ _ _ _ _ _ _ _ _ _ _ _ _ _ _ _ _ _ _ _ _
  rw [Nat.sub_self, Nat.sub_self, Nat.add_zero, Nat.add_zero]
  exact fun _ _ => hk Rm s m args below meth c cells slots C
theorem zins2_all (hfl : l.flags = pinnedFlags ++ [noTraceFlag]) (Fx : zFx S0) (F : zFix S0 D z) (hmi : mi < zNm) {i : Instr} {len : Nat} (hd : decode (zcd mi) pc = .ok (i, len)) (hlen : zlok i len = true) (hs : zins2 L mi pc lv st h i len = some r) : zAll p l e S0 D z L mi pc lv st h r := by
  unfold zins2 at hs
  split at hs
  next k => -- ldc
    split at hs
    next v hv => exact zn_all hs (zleaf (fun _ _ _ _ _ _ _ _ _ _ C _ _ _ _ => zs_ldc F C hd hlen hv) rfl rfl)
    next => cases hs
  next k => -- ldc2_w
    split at hs
    next v hv => exact zn_all hs (zleaf (fun _ _ _ _ _ _ _ _ _ _ C _ _ _ _ => zs_ldc2 F C hd hlen hv) rfl rfl)
    next => cases hs
  next k n => -- iinc
    split at hs
    next => cases hs
    next hg =>
      split at hs
      next x hv => exact zn_all hs (zleaf (fun _ _ _ _ _ _ _ _ _ _ C _ _ _ _ => zs_iinc C hd hlen (by simpa using hg) hv) rfl rfl)
      next => cases hs
  next off => -- goto
    split at hs
    next ho => exact zn_all hs (zleaf (fun _ _ _ _ _ _ _ _ _ _ C _ _ _ _ => zs_goto C hd hlen ho) rfl rfl)
    next => cases hs
  next cd off => -- ifCond
    split at hs
    next x r' =>
      split at hs
      next ho => exact zn_all hs (zleaf (fun _ _ _ _ _ _ _ _ _ _ C _ _ _ _ => zs_if C hd hlen ho) rfl rfl)
      next => cases hs
    next => cases hs
  next cd off => -- if_icmp
    split at hs
    next y x r' =>
      split at hs
      next ho => exact zn_all hs (zleaf (fun _ _ _ _ _ _ _ _ _ _ C _ _ _ _ => zs_icmp C hd hlen ho) rfl rfl)
      next => cases hs
    next => cases hs
  next d lo hi offs => -- tableswitch
    split at hs
    next x r' =>
      split at hs
      next ho => exact zn_all hs (zleaf (fun _ _ _ _ _ _ _ _ _ _ C _ _ _ _ => zs_sw C hd ho.1 ho.2) rfl rfl)
      next => cases hs
    next => cases hs
  next k => -- getfield
    split at hs
    next a r' ci f hf =>
      split at hs
      next ho => exact zn_all hs (zleaf (fun _ _ _ _ _ _ _ _ _ _ C _ _ _ _ => zs_getf F C hd hlen hf ho.1 ho.2) rfl rfl)
      next => cases hs
    next => cases hs
  next k => -- putfield
    split at hs
    next v a r' ci f hf =>
      split at hs
      next ho =>
        unfold zo at hs
        split at hs
        next h2 hp =>
          obtain ⟨q1, q2, -⟩ := zput_facts (S0 := S0) (z := z) hp
          exact zn_all hs (zleaf (fun _ _ _ _ _ _ _ _ _ _ C _ _ _ _ => zs_putf F C hd hlen hf ho.1.1 ho.1.2.1 ho.1.2.2 ho.2 hp) q1 q2)
        next => cases hs
      next => cases hs
    next => cases hs
  next k => -- getstatic
    split at hs
    next a ha => exact zn_all hs (zleaf (fun _ _ _ _ _ _ _ _ _ _ C _ _ _ _ => zs_gets F C hd hlen ha) rfl rfl)
    next => cases hs
  next => -- aastore
    split at hs
    next v j a r' =>
      split at hs
      next ci C n hkv hka =>
        split at hs
        next ho =>
          obtain ⟨⟨rfl, h2⟩, h3, h4⟩ := ho
          exact zn_all hs (zleaf (fun _ _ _ _ _ _ _ _ _ _ C _ _ _ _ => zs_aast F C hd hlen hkv hka h2 h3 h4) rfl rfl)
        next => cases hs
      next => cases hs
    next => cases hs
  next => -- arraylength
    split at hs
    next a r' =>
      split at hs
      next t n hk => exact zn_all hs (zleaf (fun _ _ _ _ _ _ _ _ _ _ C _ _ _ _ => zs_alen F C hd hlen hk) rfl rfl)
      next => cases hs
    next => cases hs
  next k => -- new
    split at hs
    next ci hci =>
      split at hs
      next hK =>
        cases hs
        refine ⟨⟨by show h.1 ≤ h.1 + 1; omega, by show h.2.1 ≤ h.2.1 + zfN ci; omega⟩, fun Rm s m args below meth c cells slots Q C hfr hlo hc1 hc2 kk => ?_⟩
        have e1 : (znew h (zfN ci)).1 - h.1 = 1 := by show h.1 + 1 - h.1 = 1; omega
        have e2 : (znew h (zfN ci)).2.1 - h.2.1 = zfN ci := by show h.2.1 + zfN ci - h.2.1 = _; omega
        rw [e1] at hc1 kk
        rw [e2] at hc2 kk
        exact zs_new F C hd hlen hci hK hc1 hc2 kk
      next => cases hs
    next x hx =>
      have hsh : ∃ o h', r = .inr (.inr (o, h')) := by
        unfold zthrow at hs
        split at hs
        · split at hs
          · cases hs; exact ⟨_, _, rfl⟩
          · cases hs
        · cases hs
      obtain ⟨o, h', rfl⟩ := hsh
      simp only [zlok, zlen, beq_iff_eq] at hlen
      subst hlen
      have hmo : h'.1 = h.1 + 1 ∧ h'.2.1 = h.2.1 + 6 := by
        unfold zthrow at hs
        split at hs
        · split at hs
          · cases hs; exact ⟨rfl, rfl⟩
          · cases hs
        · cases hs
      refine ⟨⟨by show h.1 ≤ h'.1; omega, by show h.2.1 ≤ h'.2.1; omega⟩, fun Rm s m args below meth c cells slots Q C hfr hlo hc1 hc2 => ?_⟩
      have e1 : h'.1 - h.1 = 1 := by omega
      have e2 : h'.2.1 - h.2.1 = 6 := by omega
      rw [e1] at hc1 ⊢
      rw [e2] at hc2 ⊢
      exact (zs_throw hfl Fx F C hd hx hs hc1 hc2 hfr hlo).2.2
    next => cases hs
  next t => -- newarray
    split at hs
    next n r' =>
      split at hs
      next ho =>
        cases hs
        refine ⟨⟨by show h.1 ≤ h.1 + 1; omega, by show h.2.1 ≤ h.2.1 + _; omega⟩, fun Rm s m args below meth c cells slots Q C hfr hlo hc1 hc2 kk => ?_⟩
        have e1 : (znew h n.toNatClampNeg).1 - h.1 = 1 := by show h.1 + 1 - h.1 = 1; omega
        have e2 : (znew h n.toNatClampNeg).2.1 - h.2.1 = n.toNatClampNeg := by show h.2.1 + n.toNatClampNeg - h.2.1 = _; omega
        rw [e1] at hc1 kk
        rw [e2] at hc2 kk
        exact zs_newa F C hd hlen ho.1.2 ho.1.1 ho.2.1 ho.2.2 hc1 hc2 kk
      next => cases hs
    next => cases hs
  next k => -- anewarray
    split at hs
    next n r' A hA =>
      split at hs
      next ho =>
        cases hs
        refine ⟨⟨by show h.1 ≤ h.1 + 1; omega, by show h.2.1 ≤ h.2.1 + _; omega⟩, fun Rm s m args below meth c cells slots Q C hfr hlo hc1 hc2 kk => ?_⟩
        have e1 : (znew h n.toNatClampNeg).1 - h.1 = 1 := by show h.1 + 1 - h.1 = 1; omega
        have e2 : (znew h n.toNatClampNeg).2.1 - h.2.1 = n.toNatClampNeg := by show h.2.1 + n.toNatClampNeg - h.2.1 = _; omega
        rw [e1] at hc1 kk
        rw [e2] at hc2 kk
        exact zs_anew F C hd hlen hA ho.1 ho.2.1 ho.2.2 hc1 hc2 kk
      next => cases hs
    next => cases hs
  next k => -- multianewarray
    split at hs
    next w n r' =>
      split at hs
      next ho =>
        obtain ⟨⟨h1, h2, h3⟩, ⟨h4, h5⟩, h6, h7⟩ := ho
        cases hs
        refine ⟨⟨by show h.1 ≤ h.1 + 1 + _; omega, by show h.2.1 ≤ h.2.1 + _ + _; omega⟩, fun Rm s m args below meth c cells slots Q C hfr hlo hc1 hc2 kk => ?_⟩
        have e1 : (zrows h n.toNatClampNeg w.toNatClampNeg).1 - h.1 = 1 + n.toNatClampNeg := by show h.1 + 1 + n.toNatClampNeg - h.1 = _; omega
        have e2 : (zrows h n.toNatClampNeg w.toNatClampNeg).2.1 - h.2.1 = n.toNatClampNeg + n.toNatClampNeg * w.toNatClampNeg := by show h.2.1 + n.toNatClampNeg + n.toNatClampNeg * w.toNatClampNeg - h.2.1 = _; omega
        rw [e1] at hc1
        rw [e2] at hc2
        rw [e1, e2, ← Nat.add_assoc, ← Nat.add_assoc] at kk
        exact zs_multi F C hd hlen h1 h2 h3 h4 (fun i hi => of_decide_eq_true (List.all_eq_true.mp h5 i (List.mem_range.mpr hi))) h6 h7 hc1 hc2 kk
      next => cases hs
    next => cases hs
  next k => -- invokespecial
    split at hs
    next hob =>
      split at hs
      next a r' =>
        split at hs
        next ho => exact zn_all hs (zleaf (fun _ _ _ _ _ _ _ _ _ _ C hfr hlo _ _ => zs_obj F C hd hlen hob (by omega) (by omega)) rfl rfl)
        next => cases hs
      next => cases hs
    next =>
      split at hs
      next mj hk =>
        split at hs
        next hn =>
          simp only [zlok, zlen, beq_iff_eq] at hlen
          subst hlen
          exact zcall_all hfl Fx F hmi (len := 3) hd (Or.inr (Or.inl ⟨rfl, rfl, hn⟩)) hk hs
        next => cases hs
      next => cases hs
  next k => -- invokevirtual
    split at hs
    next mj hk =>
      split at hs
      next => cases hs
      next hn =>
        simp only [zlok, zlen, beq_iff_eq] at hlen
        subst hlen
        exact zcall_all hfl Fx F hmi (len := 3) hd (Or.inl ⟨rfl, rfl, hn⟩) hk hs
    next => cases hs
  next k => -- invokestatic
    split at hs
    next hac =>
      unfold zacopy at hs
      split at hs
      next n dp d sp sr r' =>
        split at hs
        next n0 n1 hks hkd =>
          split at hs
          next ho =>
            obtain ⟨⟨⟨a1, a2, a3⟩, a4, a5⟩, ⟨a6, a7⟩, a8, a9⟩ := ho
            simp only [zlok, zlen, beq_iff_eq] at hlen
            subst hlen
            exact zn_all hs (zleaf (fun _ _ _ _ _ _ _ _ _ _ C hfr hlo _ _ => zs_copy F C hd rfl hac hks hkd a1 a2 a3 a4 a5 a6 (by omega) (by omega)) rfl rfl)
          next => cases hs
        next => cases hs
      next => cases hs
    next =>
      split at hs
      next hmn =>
        split at hs
        next y x r' =>
          split at hs
          next ho => exact zn_all hs (zleaf (fun _ _ _ _ _ _ _ _ _ _ C hfr hlo hc hsl => zs_min F C hd hlen hmn (by omega) (by omega) hc hsl) rfl rfl)
          next => cases hs
        next => cases hs
      next =>
        split at hs
        next mj hk =>
          simp only [zlok, zlen, beq_iff_eq] at hlen
          subst hlen
          exact zcall_all hfl Fx F hmi (len := 3) hd (Or.inr (Or.inr ⟨rfl, rfl⟩)) hk hs
        next => cases hs
  next => -- ireturn
    unfold zret at hs
    split at hs
    next v hr => cases hs; exact zdone (fun _ _ _ _ _ _ _ _ _ C => zs_iret C hd hlen (Or.inl hr))
    next v hr =>
      split at hs
      next hv => cases hs; exact zdone (fun _ _ _ _ _ _ _ _ _ C => zs_iret C hd hlen (Or.inr ⟨hr, hv⟩))
      next => cases hs
    next => cases hs
  next => -- areturn
    unfold zaret at hs
    split at hs
    next v n hr => cases hs; exact zdone (fun _ _ _ _ _ _ _ _ _ C => zs_aret C hd hlen hr (Or.inl ⟨_, rfl⟩))
    next v n hr => cases hs; exact zdone (fun _ _ _ _ _ _ _ _ _ C => zs_aret C hd hlen hr (Or.inr ⟨_, rfl⟩))
    next => cases hs
  next => -- return
    unfold zvret at hs
    split at hs
    next hr => cases hs; exact zdone (fun _ _ _ _ _ _ _ _ _ C => zs_vret C hd hlen hr)
    next => cases hs
  next => -- arithmetic
    split at hs
    next y x r' =>
      split at hs
      next v hv => exact zn_all hs (zleaf (fun _ _ _ _ _ _ _ _ _ _ C _ _ _ _ => zs_bin C hd hlen hv) rfl rfl)
      next => cases hs
    next => cases hs
theorem zstep_all (hfl : l.flags = pinnedFlags ++ [noTraceFlag]) (Fx : zFx S0) (F : zFix S0 D z) (hmi : mi < zNm) (hs : zstep L mi pc lv st h = some r) : zAll p l e S0 D z L mi pc lv st h r := by
  unfold zstep at hs
  split at hs
  next i len hd =>
    split at hs
    next hlen =>
      unfold zins at hs
      split at hs
      next v hv => exact zn_all hs (zleaf (fun _ _ _ _ _ _ _ _ _ _ C _ _ _ _ => zs_const C hd hlen hv) rfl rfl)
      next =>
        split at hs
        next q hq =>
          unfold zpush at hs
          split at hs
          next v hv => exact zn_all hs (zleaf (fun _ _ _ _ _ _ _ _ _ _ C _ _ _ _ => zs_load C hd hlen hq hv) rfl rfl)
          next => cases hs
        next =>
          split at hs
          next q hq =>
            split at hs
            next v r' =>
              split at hs
              next ho => exact zn_all hs (zleaf (fun _ _ _ _ _ _ _ _ _ _ C _ _ _ _ => zs_store C hd hlen hq ho.1.1 ho.1.2 ho.2) rfl rfl)
              next => cases hs
            next => cases hs
          next =>
            split at hs
            next ty hty =>
              split at hs
              next j a r' =>
                unfold zpush at hs
                split at hs
                next v hv => exact zn_all hs (zleaf (fun _ _ _ _ _ _ _ _ _ _ C _ _ _ _ => zs_ald F C hd hlen hty hv) rfl rfl)
                next => cases hs
              next => cases hs
            next =>
              split at hs
              next ty hty =>
                split at hs
                next v j a r' =>
                  unfold zo at hs
                  split at hs
                  next h2 hp =>
                    have hp' := hp
                    unfold zast at hp'
                    split at hp'
                    next t n hkk =>
                      split at hp'
                      next =>
                        obtain ⟨q1, q2, -⟩ := zput_facts (S0 := S0) (z := z) hp'
                        exact zn_all hs (zleaf (fun _ _ _ _ _ _ _ _ _ _ C _ _ _ _ => zs_ast F C hd hlen hty hp) q1 q2)
                      next => cases hp'
                    next => cases hp'
                  next => cases hs
                next => cases hs
              next =>
                split at hs
                next st' hst => exact zn_all hs (zleaf (fun _ _ _ _ _ _ _ _ _ _ C _ _ _ _ => zs_stk C hd hlen hst) rfl rfl)
                next => exact zins2_all hfl Fx F hmi hd hlen hs
    next => cases hs
  next => cases hs
/-- runs of the logical machine only make -/
theorem zev_mono (p : Program) (e : Env) (hfl : l.flags = pinnedFlags ++ [noTraceFlag]) (Fx : zFx S0) (F : zFix S0 D z) : ∀ (n mi pc : Nat) (lv : zLv) (st : List Value) (h h' : zHp) (o : zOut), mi < zNm → zev L n mi pc lv st h = some (o, h') → h.1 ≤ h'.1 ∧ h.2.1 ≤ h'.2.1 := by
  intro n
  induction n with
  | zero => intro mi pc lv st h h' o _ hr; simp [zev] at hr
  | succ n ih =>
    intro mi pc lv st h h' o hmi hr
    rw [zev] at hr
    cases hs : zstep L mi pc lv st h with
    | none => rw [hs] at hr; cases hr
    | some q =>
      have hm := (zstep_all (p := p) (e := e) hfl Fx F hmi hs).1
      rw [hs] at hr
      rcases q with ⟨pc', lv', st', h1⟩ | ⟨mj, as, rest, len⟩ | ⟨o', h1⟩
      · have h2 := ih _ _ _ _ _ _ _ hmi hr
        exact ⟨Nat.le_trans hm.1 h2.1, Nat.le_trans hm.2 h2.2⟩
      · dsimp only at hr
        cases hc : zev L n mj 0 (zent mj as) [] h with
        | none => rw [hc] at hr; cases hr
        | some w =>
          obtain ⟨o1, h1⟩ := w
          have h1m := ih _ _ _ _ _ _ _ hm.2 hc
          rw [hc] at hr
          rcases o1 with v | x
          · have h2 := ih _ _ _ _ _ _ _ hmi hr
            exact ⟨Nat.le_trans h1m.1 h2.1, Nat.le_trans h1m.2 h2.2⟩
          · dsimp only at hr
            cases hk : zcatch mi pc x.1 with
            | none =>
              rw [hk] at hr
              dsimp only at hr
              split at hr
              · cases hr; exact h1m
              · cases hr
            | some pc' =>
              rw [hk] at hr
              have h2 := ih _ _ _ _ _ _ _ hmi hr
              exact ⟨Nat.le_trans h1m.1 h2.1, Nat.le_trans h1m.2 h2.2⟩
      · cases hr
        exact hm
theorem zsound (hfl : l.flags = pinnedFlags ++ [noTraceFlag]) (Fx : zFx S0) (F : zFix S0 D z) : ∀ (n mi pc : Nat) (lv : zLv) (st : List Value) (h h' : zHp) (o : zOut), mi < zNm → zev L n mi pc lv st h = some (o, h') →
    ∀ (Rm : Room) (s : State) (m : MethodId) (args : Array Value) (below : List Frame) (meth : Method) (c : Code) (cells slots : Nat), zCx S0 p s m meth c mi → zrk mi ≤ Rm.frames → zlo mi ≤ Rm.locals → cells + (h'.1 - h.1) ≤ Rm.cells → slots + (h'.2.1 - h.2.1) ≤ Rm.slots →
      zG p l e Rm s m args below meth c (zEnd S0 D z L s below o h' (cells + (h'.1 - h.1)) (slots + (h'.2.1 - h.2.1))) S0 D z L mi pc lv st h cells slots := by
  intro n
  induction n with
  | zero => intro mi pc lv st h h' o _ hr; simp [zev] at hr
  | succ n ih =>
    intro mi pc lv st h h' o hmi hr Rm s m args below meth c cells slots C hfr hlo hc1 hc2
    rw [zev] at hr
    cases hs : zstep L mi pc lv st h with
    | none => rw [hs] at hr; cases hr
    | some q =>
      obtain ⟨hm, hok⟩ := zstep_all (p := p) (e := e) hfl Fx F hmi hs
      have hok := hok Rm s m args below meth c cells slots (zEnd S0 D z L s below o h' (cells + (h'.1 - h.1)) (slots + (h'.2.1 - h.2.1))) C hfr hlo
      rw [hs] at hr
      rcases q with ⟨pc', lv', st', h1⟩ | ⟨mj, as, rest, len⟩ | ⟨o', h1⟩
      · have h2 := zev_mono p e hfl Fx F n _ _ _ _ _ _ _ hmi hr
        have hm1 : h.1 ≤ h1.1 ∧ h.2.1 ≤ h1.2.1 := hm
        have k := ih _ _ _ _ _ _ _ hmi hr Rm s m args below meth c (cells + (h1.1 - h.1)) (slots + (h1.2.1 - h.2.1)) C hfr hlo (by omega) (by omega)
        rw [show cells + (h1.1 - h.1) + (h'.1 - h1.1) = cells + (h'.1 - h.1) by omega, show slots + (h1.2.1 - h.2.1) + (h'.2.1 - h1.2.1) = slots + (h'.2.1 - h.2.1) by omega] at k
        exact hok (by omega) (by omega) k
      · dsimp only at hr
        obtain ⟨hl3, hmj⟩ := hm
        subst hl3
        cases hc : zev L n mj 0 (zent mj as) [] h with
        | none => rw [hc] at hr; cases hr
        | some w =>
          obtain ⟨o1, h1⟩ := w
          have hm1 := zev_mono p e hfl Fx F n _ _ _ _ _ _ _ hmj hc
          rw [hc] at hr
          have hih : zIh p l e S0 D z L mj as h h1 o1 := by
            intro R' s' m' args' below' meth' c' C' g1 g2 g3 g4
            have k := ih _ _ _ _ _ _ _ hmj hc R' s' m' args' below' meth' c' 0 0 C' (by omega) (by omega) (by omega) (by omega)
            rw [Nat.zero_add, Nat.zero_add] at k
            exact k
          have fin : ∀ (pc2 : Nat) (st2 : List Value), zev L n mi pc2 lv st2 h1 = some (o, h') → h1.1 ≤ h'.1 ∧ h1.2.1 ≤ h'.2.1 ∧ zG p l e Rm s m args below meth c (zEnd S0 D z L s below o h' (cells + (h'.1 - h.1)) (slots + (h'.2.1 - h.2.1))) S0 D z L mi pc2 lv st2 h1 (cells + (h1.1 - h.1)) (slots + (h1.2.1 - h.2.1)) := by
            intro pc2 st2 hr2
            have h2 := zev_mono p e hfl Fx F n _ _ _ _ _ _ _ hmi hr2
            have k := ih _ _ _ _ _ _ _ hmi hr2 Rm s m args below meth c (cells + (h1.1 - h.1)) (slots + (h1.2.1 - h.2.1)) C hfr hlo (by omega) (by omega)
            rw [show cells + (h1.1 - h.1) + (h'.1 - h1.1) = cells + (h'.1 - h.1) by omega, show slots + (h1.2.1 - h.2.1) + (h'.2.1 - h1.2.1) = slots + (h'.2.1 - h.2.1) by omega] at k
            exact ⟨h2.1, h2.2, k⟩
          rcases o1 with v | x
          · obtain ⟨q1, q2, q3⟩ := fin _ _ hr
            exact hok (.inl v) h1 (by omega) (by omega) hih q3
          · dsimp only at hr
            cases hk : zcatch mi pc x.1 with
            | none =>
              rw [hk] at hr
              dsimp only at hr
              split at hr
              next hhd =>
                cases hr
                refine hok (.inr x) _ hc1 hc2 hih ?_
                unfold zKk
                dsimp only
                rw [hk]
                exact ⟨hhd, fun t ht => ht⟩
              next => cases hr
            | some pc' =>
              rw [hk] at hr
              obtain ⟨q1, q2, q3⟩ := fin _ _ hr
              refine hok (.inr x) h1 (by omega) (by omega) hih ?_
              unfold zKk
              dsimp only
              rw [hk]
              exact q3
      · cases hr
        exact hok hc1 hc2
end ZSO
end
section
/-! THE START: what the Statement gives is what the logical machine stands on -/
def zST : List Int32 := [1779033703, -1150833019, 1013904242, -1521486534, 1359893119, -1694144372, 528734635, 1541459225]
def zRD : List Int32 := [1116352408, 1899447441, -1245643825, -373957723, 961987163, 1508970993, -1841331548, -1424204075, -670586216, 310598401, 607225278, 1426881987, 1925078388, -2132889090, -1680079193, -1046744716, -459576895, -272742522, 264347078, 604807628, 770255983, 1249150122, 1555081692, 1996064986, -1740746414, -1473132947, -1341970488, -1084653625, -958395405, -710438585, 113926993, 338241895, 666307205, 773529912, 1294757372, 1396182291, 1695183700, 1986661051, -2117940946, -1838011259, -1564481375, -1474664885, -1035236496, -949202525, -778901479, -694614492, -200395387, 275423344, 430227734, 506948616, 659060556, 883997877, 958139571, 1322822218, 1537002063, 1747873779, 1955562222, 2024104815, -2067236844, -1933114872, -1866530822, -1538233109, -1090935817, -965641998]
def zstT : Term := .static "ReleaseLeaves$Digester" "START" "[I"
def zrdT : Term := .static "ReleaseLeaves$Digester" "ROUNDS" "[I"
def zI0 (xs : Nat → Int32) : zI := fun a j => if a = 0 then xs j else if a = 1 then zST.getD j 0 else zRD.getD j 0
/-- the logical heap at the start -/
def zH0 (xs : Nat → Int32) : zHp := (3, 0, zI0 xs, fun _ _ => 0, fun _ _ => none)
def zfl0 : List Cond := flatC (Jvm.Cond.and given_1 narrow_1)
theorem zao_all : lw_tbl.all (fun w => match w with | .arrayOver (.object _) => true | .arrayOver (.array _) => true | .arrayOver _ => false | _ => true) = true := by decide +kernel
theorem zfix1 {s : State} {A : Array Value} (hts : ∀ w ∈ lw_tbl, w.before A s = true) : ∀ w ∈ zws, ∀ (a : Array Value) (U : State), s.WarmedH U.vm → w.before a U = true := by
  intro w hw a U hW
  obtain ⟨h1, h2⟩ := List.mem_filter.mp hw
  have hb := hts w h1
  have hao := List.all_eq_true.mp zao_all w h1
  unfold zgw at h2
  rw [Bool.or_eq_true] at h2
  rcases h2 with h2 | h2
  · exact word_at hW (good_of_word h2) hb
  · split at h2
    next => exact va_Nw.use rfl (va_Nw.warmF hW (va_Nw.of rfl hb))
    next => exact va_Nw.use rfl (va_Nw.warmM hW (va_Nw.of rfl hb))
    next ty =>
      cases ty with
      | object C => exact va_AO.use (va_AO.moved hW.alike (va_AO.of hb))
      | array t => exact over_moved hW.alike hb
      | _ => cases hao
    next => cases h2
theorem zfixK {s : State} {A : Array Value} (hz : ∀ w ∈ zws, w.before A s = true) : ∃ D : va_G, va_K D zcls [] s := by
  have h : ∀ ci, ∃ q : ClassId × (Nat → Nat), ci < zNc → u_Kn s (zcn ci) (zfT ci) (zfN ci) q.1 q.2 := by
    intro ci
    by_cases hci : ci < zNc
    · have h2 := List.all_eq_true.mp zins_all ci (List.mem_range.mpr hci)
      rw [Bool.and_eq_true] at h2
      obtain ⟨cC, iS, hk⟩ := u_known hz (zlay ci hci) (hz _ (zin h2.1))
      exact ⟨(cC, iS), fun _ => hk⟩
    · exact ⟨(0, fun _ => 0), fun h => absurd h hci⟩
  refine ⟨(fun ci => (Classical.choose (h ci)).1, fun ci => (Classical.choose (h ci)).2), fun c q hq => ?_, fun k q hk => by simp at hk⟩
  have hc : c < zNc := (List.getElem?_eq_some_iff.mp hq).1
  cases Option.some.inj (hq.symm.trans (zcls_at c hc))
  exact Classical.choose_spec (h c) hc
/-- a static array of ints that the Statement gives -/
theorem zstat {s : State} {A : Array Value} {n : String} {vs : List Int32} {N : Nat} (hN : N < 2 ^ 31) (hf : ∀ w ∈ zfl0, w.before A s = true) (hz : ∀ w ∈ zws, w.before A s = true)
    (w1 : Cond.arrayOf (.static "ReleaseLeaves$Digester" n "[I") .int ∈ zfl0) (w2 : Cond.eq (.length (.static "ReleaseLeaves$Digester" n "[I")) (.int (Int32.ofNat N)) ∈ zfl0)
    (w3 : (List.range N).all (fun j => decide (Cond.eq (.elem (.static "ReleaseLeaves$Digester" n "[I") (.int (Int32.ofNat j))) (.int (vs.getD j 0)) ∈ zfl0)) = true)
    (w4 : (Cond.laysStatic "ReleaseLeaves$Digester" n "[I").before A s = true) (w5 : Cond.initialized "ReleaseLeaves$Digester" ∈ zws) :
    ∃ t : Nat, va_Z "ReleaseLeaves$Digester" n "[I" (.ref t) (fun q => s.heap.size ≤ q) s s.heap ∧ va_T .int t N (fun j => .int (vs.getD j 0)) (fun q => s.heap.size ≤ q) s s.heap := by
  obtain ⟨t, h1, h2⟩ := va_Tof (A := fun q => s.heap.size ≤ q) hN (hf _ w1) (va_eqt (hf _ w2)) (f := fun j => .int (vs.getD j 0)) (fun j hj => va_eqt (hf _ (of_decide_eq_true (List.all_eq_true.mp w3 j (List.mem_range.mpr hj))))) (fun a ha => by omega)
  exact ⟨t, va_Zof w4 (hz _ w5) h1 (fun a ha => by omega), h2⟩
theorem zstw : (Cond.arrayOf zstT .int ∈ zfl0 ∧ Cond.eq (.length zstT) (.int (Int32.ofNat 8)) ∈ zfl0 ∧ (List.range 8).all (fun j => decide (Cond.eq (.elem zstT (.int (Int32.ofNat j))) (.int (zST.getD j 0)) ∈ zfl0)) = true) ∧
    (Cond.arrayOf zrdT .int ∈ zfl0 ∧ Cond.eq (.length zrdT) (.int (Int32.ofNat 64)) ∈ zfl0 ∧ (List.range 64).all (fun j => decide (Cond.eq (.elem zrdT (.int (Int32.ofNat j))) (.int (zRD.getD j 0)) ∈ zfl0)) = true) := by
  refine ⟨⟨?_, ?_, ?_⟩, ?_, ?_, ?_⟩ <;> decide +kernel
theorem zlsw : Cond.laysStatic "ReleaseLeaves$Digester" "START" "[I" ∈ lw_tbl ∧ Cond.laysStatic "ReleaseLeaves$Digester" "ROUNDS" "[I" ∈ lw_tbl ∧ zat0 33 (.initialized "ReleaseLeaves$Digester") = true := by
  refine ⟨?_, ?_, ?_⟩ <;> decide +kernel
theorem zsl_all : (List.range 10).all (fun oc => (zslL.getD oc []).all (fun q => zat0 q.2.2.1 (.fieldLink (zcn oc) q.1 q.2.2.2.1 q.2.2.2.2.1 q.2.2.2.2.2) && (decide (q.2.1 = 1 ∧ q.2.2.2 = ("ReleaseLeaves$Digester", "START", "[I")) || decide (q.2.1 = 2 ∧ q.2.2.2 = ("ReleaseLeaves$Digester", "ROUNDS", "[I"))))) = true := by decide +kernel
/-- the statics, the script -/
theorem zstart {s : State} {b L : Nat} {xs : Nat → Int32} (hts : ∀ w ∈ lw_tbl, w.before #[Value.ref b] s = true) (hX : va_X b L xs s s.heap) (hb : b < s.heap.size) (hg : (Jvm.Cond.and given_1 narrow_1).before #[Value.ref b] s = true) :
    ∃ (D : va_G) (z : Nat → Nat), zFix s D z ∧ zRl s D z L (zH0 xs) s.heap ∧ z 0 = b := by
  have hf : ∀ w ∈ zfl0, w.before #[Value.ref b] s = true := flat_of_before _ hg
  have hz1 := zfix1 hts
  have hz : ∀ w ∈ zws, w.before #[Value.ref b] s = true := fun w hw => hz1 w hw _ s (State.WarmedH.refl s)
  obtain ⟨D, hK⟩ := zfixK hz
  obtain ⟨⟨a1, a2, a3⟩, b1, b2, b3⟩ := zstw
  obtain ⟨l1, l2, l3⟩ := zlsw
  obtain ⟨t1, Z1, T1⟩ := zstat (vs := zST) (N := 8) (by decide) hf hz a1 a2 a3 (hts _ l1) (zin l3)
  obtain ⟨t2, Z2, T2⟩ := zstat (vs := zRD) (N := 64) (by decide) hf hz b1 b2 b3 (hts _ l2) (zin l3)
  refine ⟨D, fun a => if a = 0 then b else if a = 1 then t1 else t2, ⟨hz1, hK, fun oc k a ha => ?_⟩, ⟨Nat.le_refl _, rfl, fun q _ => rfl, fun a ha => ?_, fun a kd ha hkd => ?_, fun q cell hq hc => ?_⟩, rfl⟩
  · obtain ⟨q, hq, hk, e⟩ := zfind ha
    have hc := zall zsl_all (by decide) hq
    have hk' : q.1 = k := by simpa using hk
    subst hk'
    subst e
    rw [Bool.and_eq_true, Bool.or_eq_true, decide_eq_true_eq, decide_eq_true_eq] at hc
    obtain ⟨hc1, ⟨hc2, hc3⟩ | ⟨hc2, hc3⟩⟩ := hc
    · refine ⟨by rw [hc2]; decide, _, _, _, zin hc1, ?_⟩
      rw [hc2, hc3]
      exact Z1
    · refine ⟨by rw [hc2]; decide, _, _, _, zin hc1, ?_⟩
      rw [hc2, hc3]
      exact Z2
  · dsimp only
    split
    · exact hb
    · split
      · obtain ⟨cell, h1, -⟩ := T1
        exact (Array.getElem?_eq_some_iff.mp h1).1
      · obtain ⟨cell, h1, -⟩ := T2
        exact (Array.getElem?_eq_some_iff.mp h1).1
  · have ha3 : a < 3 := ha
    have hzr : ∀ z : Nat → Nat, zr s z a = z a := fun z => if_pos ha3
    rw [hzr]
    match a, ha3 with
    | 0, _ =>
      cases hkd
      obtain ⟨scr, h1, h2, h3, h4, h5⟩ := hX
      exact ⟨scr, h1, h3, h2, zsz_of h4, fun j hj => h5 j hj, fun C hC => (by cases hC)⟩
    | 1, _ =>
      cases hkd
      obtain ⟨scr, h1, h2, h3, h4, h5, h6, -⟩ := T1
      exact ⟨scr, h1, h3, h2, ⟨h4, h5⟩, fun j hj => h6 j hj, fun C hC => (by cases hC)⟩
    | 2, _ =>
      cases hkd
      obtain ⟨scr, h1, h2, h3, h4, h5, h6, -⟩ := T2
      exact ⟨scr, h1, h3, h2, ⟨h4, h5⟩, fun j hj => h6 j hj, fun C hC => (by cases hC)⟩
  · exact absurd (Array.getElem?_eq_some_iff.mp hc).1 (by omega)
end
section
/-! THE START: exceptions and their texts -/
theorem zst_moved {S0 U : State} {A A' : Array Value} (hal : S0.vm.Alike U.vm) (hh : ∀ q : Nat, q < S0.heap.size → U.heap[q]? = S0.heap[q]?) {O f d : String} (h : (Cond.laysStatic O f d).before A S0 = true) :
    (Cond.laysStatic O f d).before A' U = true ∧ ((Cond.isRef (.static O f d)).before A S0 = true → (Cond.isRef (.static O f d)).before A' U = true) := by
  obtain ⟨c, k, i, fd, a, cell, hc, hf, hst, hsta, hcell, hiss, hcls, hlt, hty⟩ := Cond.laysStatic_spec h
  obtain ⟨k', hi', hek⟩ := State.fieldFound?_setVm hal hf
  have hf' : U.fieldFound? O f d = some (c, k', i, fd) := hi'
  have ha : a < S0.heap.size := (Array.getElem?_eq_some_iff.mp hcell).1
  have hcell' : U.heap[a]? = some cell := by rw [hh a ha]; exact hcell
  have hk' : k'.statics = some a := by rw [hek]; exact hsta
  refine ⟨Cond.laysStatic_of (s := U) (by rw [hal.findClass]; exact hc) hf' hst hk' hcell' hiss hcls hlt (by rw [hek]; exact hty), fun hr => ?_⟩
  have e0 : (Term.static O f d).eval A S0 none [] S0 = cell.slots[fd.slot]? := by
    simp [Term.eval, State.fieldNamed?, hf, hst, hsta, hcell, hiss]
  have e1 : (Term.static O f d).eval A' U none [] U = cell.slots[fd.slot]? := by
    simp [Term.eval, State.fieldNamed?, hf', hst, hk', hcell', hiss]
  simp only [Cond.before, Cond.holds, Cond.value] at hr ⊢
  rw [e0] at hr
  rw [e1]
  exact hr
/-- a word of an exception's: of the tables, or of a static -/
def zxw (w : Cond) : Bool := match w with
  | .laysStatic O f d => decide (Cond.laysStatic O f d ∈ lw_tbl)
  | .isRef (.static O f d) => decide (Cond.isRef (.static O f d) ∈ zfl0) && decide (Cond.laysStatic O f d ∈ lw_tbl)
  | .declares x => decide (Cond.declares x ∈ lw_tbl)
  | .castable a b => decide (Cond.castable a b ∈ lw_tbl)
  | w => decide (w ∈ lw_tbl) && goodWord w
theorem zxw_all : (List.range 10).all (fun oc => (zxlL.getD oc []).all (fun q => (Jvm.Bundle.ownAtoms (zcn oc) q.1 (zxn q.2.1) zxnames).all zxw)) = true := by decide +kernel
theorem zxw_ok {S0 U : State} {A A' : Array Value} (hts : ∀ w ∈ lw_tbl, w.before A S0 = true) (hf : ∀ w ∈ zfl0, w.before A S0 = true) (hW : S0.WarmedH U.vm) (hh : ∀ q : Nat, q < S0.heap.size → U.heap[q]? = S0.heap[q]?) {w : Cond} (h : zxw w = true) : w.before A' U = true := by
  unfold zxw at h
  split at h
  next O f d => exact (zst_moved hW.alike hh (hts _ (of_decide_eq_true h))).1
  next O f d =>
    rw [Bool.and_eq_true, decide_eq_true_eq, decide_eq_true_eq] at h
    exact (zst_moved hW.alike hh (hts _ h.2)).2 (hf _ h.1)
  next x =>
    have h1 := hts _ (of_decide_eq_true h)
    rw [← Cond.declares_setVm hW.alike] at h1
    exact va_tabs rfl (rfl : (S0.setVm U.vm).vm = U.vm) h1
  next a b =>
    have h1 := hts _ (of_decide_eq_true h)
    rw [← Cond.castable_setVm hW.alike] at h1
    exact va_tabs rfl (rfl : (S0.setVm U.vm).vm = U.vm) h1
  next =>
    rw [Bool.and_eq_true, decide_eq_true_eq] at h
    exact word_at hW (good_of_word h.2) (hts _ h.1)
theorem zxcast : (Cond.castable (zxn 0) (zxn 0) ∈ lw_tbl ∧ Cond.castable (zxn 1) (zxn 1) ∈ lw_tbl) ∧ (Cond.not (.castable (zxn 0) (zxn 1)) ∈ zfl0 ∧ Cond.not (.castable (zxn 1) (zxn 0)) ∈ zfl0) := by
  refine ⟨⟨?_, ?_⟩, ?_, ?_⟩ <;> decide +kernel
theorem zxs_all : zxsL.all (fun q => decide (lw_tbl[q.2.2.2]? = some (.stringRef (zcn q.1) q.2.1 q.2.2.1))) = true := by decide +kernel
theorem zstartx {s : State} {A : Array Value} (hts : ∀ w ∈ lw_tbl, w.before A s = true) (hg : (Jvm.Cond.and given_1 narrow_1).before A s = true) : zFx s := by
  have hf : ∀ w ∈ zfl0, w.before A s = true := flat_of_before _ hg
  refine ⟨fun x y hx hy cx cy hcx hcy => ?_, fun oc ic x hx U args hW hh w hw => ?_, fun oc k hk => ?_⟩
  · obtain ⟨⟨c1, c2⟩, c3, c4⟩ := zxcast
    have pos : ∀ x' : Nat, Cond.castable (zxn x') (zxn x') ∈ lw_tbl → ∀ c : ClassId, s.vm.findClass (zxn x') = some c → s.vm.assignable c c = true := by
      intro x' hw c hc
      obtain ⟨c3, c4, hc3, hc4, hasg⟩ := Cond.castable_spec (hts _ hw)
      cases Option.some.inj (hc3.symm.trans hc)
      cases Option.some.inj (hc4.symm.trans hc)
      exact hasg
    have neg : ∀ x' y' : Nat, Cond.not (.castable (zxn x') (zxn y')) ∈ zfl0 → ∀ c d : ClassId, s.vm.findClass (zxn x') = some c → s.vm.findClass (zxn y') = some d → s.vm.assignable c d = false := by
      intro x' y' hw c d hc hd
      have h1 := hf _ hw
      simp only [Cond.before, Cond.holds, Cond.value, hc, hd] at h1
      simpa using h1
    match x, y, hx, hy with
    | 0, 0, _, _ => cases Option.some.inj (hcx.symm.trans hcy); exact pos 0 c1 cx hcx
    | 1, 1, _, _ => cases Option.some.inj (hcx.symm.trans hcy); exact pos 1 c2 cx hcx
    | 0, 1, _, _ => exact neg 0 1 c3 cx cy hcx hcy
    | 1, 0, _, _ => exact neg 1 0 c4 cx cy hcx hcy
  · obtain ⟨q, hq, hk, e⟩ := zfind hx
    have hc := zall zxw_all (by decide) hq
    have hk' : q.1 = ic := by simpa using hk
    subst hk'
    subst e
    exact zxw_ok hts hf hW hh (List.all_eq_true.mp hc w hw)
  · obtain ⟨q, hq, e⟩ := List.any_eq_true.mp hk
    rw [Bool.and_eq_true, beq_iff_eq, beq_iff_eq] at e
    obtain ⟨rfl, rfl⟩ := e
    have h1 := hts _ (List.mem_of_getElem? (of_decide_eq_true (List.all_eq_true.mp zxs_all q hq)))
    have hcur : ∃ cur, s.vm.findClass (zcn q.1) = some cur := by
      have h2 := h1
      simp only [Cond.before, Cond.holds, Cond.value] at h2
      cases hc : s.vm.findClass (zcn q.1) with
      | none => simp [hc] at h2
      | some cur => exact ⟨cur, rfl⟩
    obtain ⟨cur, hcur⟩ := hcur
    obtain ⟨k, cf, i, a, -, -, -, -, -, h6⟩ := Cond.stringRef_spec hcur h1
    exact ⟨q.2.2.1, a, vk_R.of h1 h6⟩
end
section
/-! THE CLAIM OUT OF ONE WALK OF THE LAW'S BODY. Your part is whole_start (and what it stands on); all else here is the same for every law, but numbers. -/
def R_law : String := "ReleaseLeavesLaw"
def lw_P (b : Addr) (xs : List Int32) (args : Array Value) (s : State) : Prop := args = #[.ref b] ∧ s.IntsAt b xs ∧ xs.length ≤ 2048 ∧ (Jvm.Cond.and given_1 narrow_1).before args s = true
def lw_Q (_ : Array Value) (s : State) (o : Outcome) (t : State) : Prop := o = .returned (some (.int 1)) ∧ Framed s o t [] 601024 7293034
def lw_Z (below : List Frame) (a : Array Value) (s : State) : State → Prop := fun t => ∃ o, t.status = .running ∧ Ended t below o ∧ lw_Q a s o t
/-- what holds at the law's entry: the machine, the code, the tables' words (any of lw_tbl by 'hts w (by decide +kernel)'), the script of L ints xs at the cell b, what the Statement gives of the start (any of its parts by flat_of_before) -/
def lw_At (p : Program) (s : State) (m : MethodId) (meth : Method) (c : Code) (b L : Nat) (xs : Nat → Int32) : Prop :=
  p.tables.exec = Jvm.exec ∧ c.code = code ∧ meth.sig.returnType = ret ∧ c.maxLocals = 7 ∧ s.vm.findClass R_law = some m.cls ∧ (∀ w ∈ lw_tbl, w.before #[Value.ref b] s = true) ∧ va_X b L xs s s.heap ∧ b < s.heap.size ∧ meth.locks = false ∧ (Jvm.Cond.and given_1 narrow_1).before #[Value.ref b] s = true
/-- THE LOGICAL CLAIM: the law's run of the logical machine ends with 1, within the room -/
def zLaw (L : Nat) (xs : Nat → Int32) : Prop := zW L 0 0 (zent 0 [.ref 0]) [] (zH0 xs) (fun o h' => o = .inl (some (.int 1)) ∧ h'.1 ≤ 601027 ∧ h'.2.1 ≤ 7293034)
theorem whole_start {p : Program} {e : Env} {s : State} {m : MethodId} {below : List Frame} {meth : Method} {c : Code} (l : Launch) (hfl : l.flags = pinnedFlags ++ [noTraceFlag]) {b L : Nat} {xs : Nat → Int32} (hL : zLaw L xs) (hname : meth.name = "law") (C0 : lw_At p s m meth c b L xs) : W p l e room_1 s m #[Value.ref b] below meth c s.heap [] 0 0 (lw_Z below #[Value.ref b] s) (entryFrame m ([Value.ref b] : List Value).toArray 7) := by
  obtain ⟨hx, hb, hr, hml, hown, hts, hX, hbl, hlk, hg⟩ := C0
  obtain ⟨D, z, F, hR, hz0⟩ := zstart hts hX hbl hg
  have Fx := zstartx hts hg
  obtain ⟨n, o, h', hev, ho, hc, hs⟩ := hL
  subst ho
  have C : zCx s p s m meth c 0 := ⟨hx, hb, hml, hown, hlk, hr, hname, State.WarmedH.refl s, Nat.le_refl _, Or.inl rfl, fun q _ => rfl, fun q cell hq hcell => absurd (Array.getElem?_eq_some_iff.mp hcell).1 (by omega)⟩
  have k := zsound (p := p) (e := e) hfl Fx F n 0 0 _ _ _ _ _ (by decide) hev room_1 s m #[Value.ref b] below meth c 0 0 C (by decide) (by decide) (by show 0 + (h'.1 - 3) ≤ 601024; omega) (by show 0 + (h'.2.1 - 0) ≤ 7293034; omega)
  obtain ⟨ls, e0, hl0⟩ := zLs.entry (S0 := s) (z := z) (mj := 0) (as := [.ref 0]) (fun _ v hv => by rw [List.mem_singleton.mp hv]; rfl) (by decide) m
  have e1 : ([.ref 0] : List Value).map (zv s z) = [.ref b] := by
    show [Value.ref (zr s z 0)] = _
    rw [show zr s z 0 = z 0 from if_pos (by decide), hz0]
  rw [e1] at e0
  have e2 : entryFrame m ([Value.ref b] : List Value).toArray 7 = F0 m 0 ls [] := e0
  rw [e2]
  refine zw_mono (fun t ht => ?_) (zg_w k hR hl0 (fun q hq => by cases hq))
  obtain ⟨oc, q1, q2, q3, -, ⟨Lc, q5, q6⟩, q7⟩ := ht
  refine ⟨oc, q1, q2, q7, ⟨_, q7⟩, q3, q5.weaken (fun y hy hlt => absurd (q6 y hy) (Nat.not_le.mpr hlt)) (by show 0 + (h'.1 - 3) ≤ 601024; omega) (by show 0 + (h'.2.1 - 0) ≤ 7293034; omega)⟩
set_option maxHeartbeats 4000000 in
theorem lw_walk (hz : ∀ (L : Nat) (xs : Nat → Int32), L ≤ 2048 → zLaw L xs) (l : Launch) (hfl : l.flags = pinnedFlags ++ [noTraceFlag]) (b : Addr) (xs : List Int32) : MetFree l x (headSpec (Jvm.Cond.code x code maxLocals ret :: tables_1) room_1) (lw_P b xs) (fun _ _ _ _ _ => True) lw_Q := by
  refine MetFree.of_bodyS (code := code) (maxLocals := maxLocals) (ret := ret) (by decide) ?_ ?_
  · intro args s m h hn
    obtain ⟨meth, c, h1, h2, h3, h4, h5, h6, -, -⟩ := Cond.code_spec hn (atoms_spec (ws := Jvm.Cond.code x code maxLocals ret :: tables_1) h _ List.mem_cons_self)
    exact ⟨meth, c, h1, h2, h3, h4, h5, h6⟩
  · intro p e s m args below meth c s₁ B hml0 hP _
    obtain ⟨rfl, hx, hbd, hgv⟩ := hP
    obtain ⟨scr, harrAt, hlist, hof, hsmall⟩ := hx
    obtain ⟨hcb, hkn, -, -⟩ := State.arrayAt?_spec harrAt
    have hown : s.vm.findClass R_law = some m.cls := findClass_of_methodNamed B.named
    have hts0 : ∀ c ∈ (Jvm.Cond.code x code maxLocals ret :: tables_1), c.before #[Value.ref b] s = true := atoms_spec (ws := Jvm.Cond.code x code maxLocals ret :: tables_1) B.pre
    have hts : ∀ w ∈ lw_tbl, w.before #[Value.ref b] s = true := k2_hts_sels lw_privs (fun w hw => hts0 w (List.mem_cons_of_mem _ hw)) lw_privs_ok
    have hml : c.maxLocals = 7 := B.maxLocals_eq (hts0 _ List.mem_cons_self)
    have X₀ : Stand p l e room_1 s m #[Value.ref b] below meth c s₁ [] 0 0 := Stand.of_body B
    have hh0 : s₁.heap = s.heap := by rw [B.state]; rfl
    have hsz : scr.slots.size = xs.length := by rw [← Array.length_toList, hlist, List.length_map]
    have hval : ∀ j : Nat, j < xs.length → scr.slots[j]? = some (.int (xs.getD j 0)) := fun j hj => by
      rw [← Array.getElem?_toList, hlist]
      simp [hj]
    have hbl : b < s.heap.size := (Array.getElem?_eq_some_iff.mp hcb).1
    have hX : va_X b xs.length (fun j => xs.getD j 0) s s.heap := ⟨scr, hcb, hof, hkn, hsz, hval⟩
    have K : W p l e room_1 s m #[Value.ref b] below meth c s₁.heap [] 0 0 (lw_Z below #[Value.ref b] s) (entryFrame m ([Value.ref b] : List Value).toArray 7) := by
      rw [hh0]
      exact whole_start l hfl (hz _ _ hbd) (name_of_methodNamed B.named X₀.method).1 ⟨B.exec, B.bytes, B.returns, hml, hown, hts, hX, hbl, B.notSynchronized, hgv⟩
    obtain ⟨t, a1, o, b1, b2, b3⟩ := K s₁ rfl X₀
    exact ⟨t, o, a1, b1, b2, b3⟩
theorem lw_pre_spec {args : Array Value} {s : State} (h : (Jvm.Cond.and given_1 narrow_1).before args s = true) (hr : rest_1_c.before args s = true) : ∃ (b : Addr) (xs : List Int32), lw_P b xs args s := by
  have hs := flat_of_before _ h
  have hq := flat_of_before _ hr
  have hc : (Cond.count 1).before args s = true := hs _ (by decide +kernel)
  have harr : (Cond.arrayOf (.arg 0) .int).before args s = true := hs _ (by decide +kernel)
  have hle : (Cond.le (.length (.arg 0)) (.int 2048)).before args s = true := hs _ (by decide +kernel)
  have hlen : (Cond.isInt (.length (.arg 0))).before args s = true := hq _ (by decide +kernel)
  have hall : (Cond.all (.arg 0) (.isInt (.elem (.arg 0) (.index 0)))).before args s = true := hq _ (by decide +kernel)
  obtain ⟨b, xs, hb, hx⟩ := State.ints_of_pre rfl harr hlen hall
  have hsm : xs.length < 2 ^ 31 := hx.choose_spec.2.2.2
  have hev : (Term.length (.arg 0)).eval args s none [] s = some (.int xs.length.toInt32) := hx.length_eval hb
  have hv := Cond.le_ints hev (show (Term.int 2048).eval args s none [] s = some (.int 2048) from rfl)
  have hd : xs.length.toInt32 ≤ 2048 := by
    simpa [Cond.before, Cond.holds, hv] using hle
  have hN : xs.length ≤ 2048 := (Int32.ofNat_le_ofNat hsm (by decide)).mp (show Int32.ofNat xs.length ≤ Int32.ofNat 2048 from hd)
  exact ⟨b, xs, Cond.one_arg hc (show args[0]? = some (.ref b) from hb), hx, hN, h⟩
theorem lw_comes (hz : ∀ (L : Nat) (xs : Nat → Int32), L ≤ 2048 → zLaw L xs) (l : Launch) (hfl : l.flags = pinnedFlags ++ [noTraceFlag]) : Comes l x (Jvm.Cond.code x code maxLocals ret :: tables_1) room_1 (fun tb e args s => Calls_1 tb e args s ∧ rest_1 tb e args s ∧ Pre_1 tb e args s)
    (fun _ _ args s o t => lw_Q args s o t) := by
  intro p e ha hc hk s m args below hf hfit hheap happ hpre
  obtain ⟨b, xs, hP⟩ := lw_pre_spec hpre.2.2 hpre.2.1
  obtain ⟨k, o, h1, h2, h3, hQ⟩ := lw_walk hz l hfl b xs p e ha hc hk s m args below hf ((Spec.applies_iff_loose hf).mp happ).1 hP trivial
  exact ⟨k, o, h1, h2, h3, hQ⟩
theorem lw_frame {s t : State} {o : Outcome} {args : Array Value} (h : Framed s o t [] 601024 7293034) :
    Framed s o t (fieldLocs frame_1_writes args s ++ arrayLocs frame_1_arrays args s ++ staticLocs frame_1_statics s) 601024 7293034 := h
theorem lw_limb (hz : ∀ (L : Nat) (xs : Nat → Int32), L ≤ 2048 → zLaw L xs) (L : Cond) (hL : ∀ (args : Array Value) (s t : State), L.after args s (.returned (some (.int 1))) t = true) :
    ArmFor flags0 classFile x code maxLocals ret World_1 tables_1 room_1 Calls_1 rest_1 Pre_1
      (fun tb e a s o t => postC L tb e a s o t ∧ Framed s o t (fieldLocs frame_1_writes a s ++ arrayLocs frame_1_arrays a s ++ staticLocs frame_1_statics s) 601024 7293034) := by
  intro l hfl _ _ p e ha hc hk s m args below hf hfit hheap happ hpre
  obtain ⟨k, o, h1, h2, h3, rfl, hF⟩ := lw_comes hz l hfl p e ha hc hk s m args below hf hfit hheap happ hpre
  exact ⟨k, _, h1, h2, h3, hL args s _, lw_frame hF⟩
theorem ztop (hz : ∀ (L : Nat) (xs : Nat → Int32), L ≤ 2048 → zLaw L xs) : Claimed_1_1 ∧ Claimed_1_2 := ⟨lw_limb hz limb_1_1 (fun args s t => by simp [limb_1_1, Cond.after, Cond.holds, Cond.value]), lw_limb hz limb_1_2 (fun args s t => Cond.after_iff.mpr (by
  first | (rw [show limb_1_2 = Cond.eq .result (.int 1) from rfl, Cond.eq_ints (x := 1) (y := 1) rfl rfl]; simp; done) | (simp [limb_1_2, Cond.value, Term.eval]; done)))⟩
end
