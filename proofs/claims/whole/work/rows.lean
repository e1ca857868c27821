section
-- ===== PART A: goes FIRST, ahead of the names: the tables' words, and 'selects' of the private methods out of them =====
/-- a private method of a class that the tables say can be made, by its rows of tables_1 -/
def lw_okq (q : MethodName × Nat) : Prop := (q.1.cls ≠ "java/lang/invoke/MethodHandle" ∧ q.1.cls ≠ "java/lang/invoke/VarHandle") ∧ Cond.instantiable q.1.cls q.2 ∈ tables_1 ∧ Cond.privateMethod q.1 ∈ tables_1 ∧ Cond.instanceMethod q.1 ∈ tables_1
theorem lw_p0 : lw_okq (⟨"ReleaseLeaves$Digester", "spreadSchedule", "()V"⟩, 3) := ⟨⟨by decide +kernel, by decide +kernel⟩, List.mem_of_getElem? (i := 25) (by decide +kernel), List.mem_of_getElem? (i := 126) (by decide +kernel), List.mem_of_getElem? (i := 127) (by decide +kernel)⟩
theorem lw_p1 : lw_okq (⟨"ReleaseLeaves$Digester", "mixBlock", "()V"⟩, 3) := ⟨⟨by decide +kernel, by decide +kernel⟩, List.mem_of_getElem? (i := 25) (by decide +kernel), List.mem_of_getElem? (i := 133) (by decide +kernel), List.mem_of_getElem? (i := 134) (by decide +kernel)⟩
theorem lw_p2 : lw_okq (⟨"ReleaseLeaves$Tree", "pairUp", "(ILReleaseLeaves$Digester;)V"⟩, 3) := ⟨⟨by decide +kernel, by decide +kernel⟩, List.mem_of_getElem? (i := 53) (by decide +kernel), List.mem_of_getElem? (i := 235) (by decide +kernel), List.mem_of_getElem? (i := 236) (by decide +kernel)⟩
theorem lw_p3 : lw_okq (⟨"ReleaseLeaves$Claim", "stepCountAt", "()I"⟩, 2) := ⟨⟨by decide +kernel, by decide +kernel⟩, List.mem_of_getElem? (i := 159) (by decide +kernel), List.mem_of_getElem? (i := 273) (by decide +kernel), List.mem_of_getElem? (i := 274) (by decide +kernel)⟩
theorem lw_p4 : lw_okq (⟨"ReleaseLeaves$Claim", "stepAt", "(I)I"⟩, 2) := ⟨⟨by decide +kernel, by decide +kernel⟩, List.mem_of_getElem? (i := 159) (by decide +kernel), List.mem_of_getElem? (i := 277) (by decide +kernel), List.mem_of_getElem? (i := 278) (by decide +kernel)⟩
theorem lw_p5 : lw_okq (⟨"ReleaseLeaves$Claim", "climbStep", "(ILReleaseLeaves$Digester;[I)V"⟩, 2) := ⟨⟨by decide +kernel, by decide +kernel⟩, List.mem_of_getElem? (i := 159) (by decide +kernel), List.mem_of_getElem? (i := 293) (by decide +kernel), List.mem_of_getElem? (i := 294) (by decide +kernel)⟩
theorem lw_p6 : lw_okq (⟨"java/lang/Throwable", "fillInStackTrace", "(I)Ljava/lang/Throwable;"⟩, 6) := ⟨⟨by decide +kernel, by decide +kernel⟩, List.mem_of_getElem? (i := 359) (by decide +kernel), List.mem_of_getElem? (i := 357) (by decide +kernel), List.mem_of_getElem? (i := 358) (by decide +kernel)⟩
theorem lw_p7 : lw_okq (⟨"ReleaseLeaves", "closedRelease", "(I)LReleaseLeaves$Release;"⟩, 10) := ⟨⟨by decide +kernel, by decide +kernel⟩, List.mem_of_getElem? (i := 17) (by decide +kernel), List.mem_of_getElem? (i := 437) (by decide +kernel), List.mem_of_getElem? (i := 438) (by decide +kernel)⟩
theorem lw_p8 : lw_okq (⟨"ReleaseLeaves", "releaseWithLeaf", "(II)LReleaseLeaves$Release;"⟩, 10) := ⟨⟨by decide +kernel, by decide +kernel⟩, List.mem_of_getElem? (i := 17) (by decide +kernel), List.mem_of_getElem? (i := 453) (by decide +kernel), List.mem_of_getElem? (i := 454) (by decide +kernel)⟩
theorem lw_p9 : lw_okq (⟨"ReleaseLeaves$Tree", "countSteps", "(I)I"⟩, 3) := ⟨⟨by decide +kernel, by decide +kernel⟩, List.mem_of_getElem? (i := 53) (by decide +kernel), List.mem_of_getElem? (i := 463) (by decide +kernel), List.mem_of_getElem? (i := 464) (by decide +kernel)⟩
theorem lw_p10 : lw_okq (⟨"ReleaseLeaves$Tree", "hasOther", "(II)Z"⟩, 3) := ⟨⟨by decide +kernel, by decide +kernel⟩, List.mem_of_getElem? (i := 53) (by decide +kernel), List.mem_of_getElem? (i := 467) (by decide +kernel), List.mem_of_getElem? (i := 468) (by decide +kernel)⟩
theorem lw_p11 : lw_okq (⟨"ReleaseLeaves$Tree", "findStepRow", "(II)I"⟩, 3) := ⟨⟨by decide +kernel, by decide +kernel⟩, List.mem_of_getElem? (i := 53) (by decide +kernel), List.mem_of_getElem? (i := 474) (by decide +kernel), List.mem_of_getElem? (i := 475) (by decide +kernel)⟩
theorem lw_p12 : lw_okq (⟨"ReleaseLeavesModel", "tell", "(IJJJJ)V"⟩, 32) := ⟨⟨by decide +kernel, by decide +kernel⟩, List.mem_of_getElem? (i := 569) (by decide +kernel), List.mem_of_getElem? (i := 579) (by decide +kernel), List.mem_of_getElem? (i := 580) (by decide +kernel)⟩
theorem lw_p13 : lw_okq (⟨"ReleaseLeavesModel", "tellTwo", "(IJ)V"⟩, 32) := ⟨⟨by decide +kernel, by decide +kernel⟩, List.mem_of_getElem? (i := 569) (by decide +kernel), List.mem_of_getElem? (i := 583) (by decide +kernel), List.mem_of_getElem? (i := 584) (by decide +kernel)⟩
theorem lw_p14 : lw_okq (⟨"ReleaseLeavesModel", "fileWith", "(II)I"⟩, 32) := ⟨⟨by decide +kernel, by decide +kernel⟩, List.mem_of_getElem? (i := 569) (by decide +kernel), List.mem_of_getElem? (i := 722) (by decide +kernel), List.mem_of_getElem? (i := 723) (by decide +kernel)⟩
theorem lw_p15 : lw_okq (⟨"ReleaseLeavesModel", "nextFile", "(I)I"⟩, 32) := ⟨⟨by decide +kernel, by decide +kernel⟩, List.mem_of_getElem? (i := 569) (by decide +kernel), List.mem_of_getElem? (i := 737) (by decide +kernel), List.mem_of_getElem? (i := 738) (by decide +kernel)⟩
def lw_privs_1 : List (MethodName × Nat) := [(⟨"ReleaseLeaves$Digester", "spreadSchedule", "()V"⟩, 3), (⟨"ReleaseLeaves$Digester", "mixBlock", "()V"⟩, 3), (⟨"ReleaseLeaves$Tree", "pairUp", "(ILReleaseLeaves$Digester;)V"⟩, 3), (⟨"ReleaseLeaves$Claim", "stepCountAt", "()I"⟩, 2), (⟨"ReleaseLeaves$Claim", "stepAt", "(I)I"⟩, 2), (⟨"ReleaseLeaves$Claim", "climbStep", "(ILReleaseLeaves$Digester;[I)V"⟩, 2), (⟨"java/lang/Throwable", "fillInStackTrace", "(I)Ljava/lang/Throwable;"⟩, 6), (⟨"ReleaseLeaves", "closedRelease", "(I)LReleaseLeaves$Release;"⟩, 10), (⟨"ReleaseLeaves", "releaseWithLeaf", "(II)LReleaseLeaves$Release;"⟩, 10), (⟨"ReleaseLeaves$Tree", "countSteps", "(I)I"⟩, 3), (⟨"ReleaseLeaves$Tree", "hasOther", "(II)Z"⟩, 3), (⟨"ReleaseLeaves$Tree", "findStepRow", "(II)I"⟩, 3), (⟨"ReleaseLeavesModel", "tell", "(IJJJJ)V"⟩, 32), (⟨"ReleaseLeavesModel", "tellTwo", "(IJ)V"⟩, 32), (⟨"ReleaseLeavesModel", "fileWith", "(II)I"⟩, 32), (⟨"ReleaseLeavesModel", "nextFile", "(I)I"⟩, 32)]
theorem lw_r1 : ∀ q ∈ lw_privs_1, lw_okq q := List.forall_mem_cons.mpr ⟨lw_p0, List.forall_mem_cons.mpr ⟨lw_p1, List.forall_mem_cons.mpr ⟨lw_p2, List.forall_mem_cons.mpr ⟨lw_p3, List.forall_mem_cons.mpr ⟨lw_p4, List.forall_mem_cons.mpr ⟨lw_p5, List.forall_mem_cons.mpr ⟨lw_p6, List.forall_mem_cons.mpr ⟨lw_p7, List.forall_mem_cons.mpr ⟨lw_p8, List.forall_mem_cons.mpr ⟨lw_p9, List.forall_mem_cons.mpr ⟨lw_p10, List.forall_mem_cons.mpr ⟨lw_p11, List.forall_mem_cons.mpr ⟨lw_p12, List.forall_mem_cons.mpr ⟨lw_p13, List.forall_mem_cons.mpr ⟨lw_p14, List.forall_mem_cons.mpr ⟨lw_p15, fun _ h => absurd h List.not_mem_nil⟩⟩⟩⟩⟩⟩⟩⟩⟩⟩⟩⟩⟩⟩⟩⟩
theorem lw_p16 : lw_okq (⟨"ReleaseLeavesModel", "digestLeaf", "(I)V"⟩, 32) := ⟨⟨by decide +kernel, by decide +kernel⟩, List.mem_of_getElem? (i := 569) (by decide +kernel), List.mem_of_getElem? (i := 741) (by decide +kernel), List.mem_of_getElem? (i := 742) (by decide +kernel)⟩
theorem lw_p17 : lw_okq (⟨"ReleaseLeavesModel", "put", "(I)V"⟩, 32) := ⟨⟨by decide +kernel, by decide +kernel⟩, List.mem_of_getElem? (i := 569) (by decide +kernel), List.mem_of_getElem? (i := 745) (by decide +kernel), List.mem_of_getElem? (i := 746) (by decide +kernel)⟩
theorem lw_p18 : lw_okq (⟨"ReleaseLeavesModel", "digestInput", "()V"⟩, 32) := ⟨⟨by decide +kernel, by decide +kernel⟩, List.mem_of_getElem? (i := 569) (by decide +kernel), List.mem_of_getElem? (i := 749) (by decide +kernel), List.mem_of_getElem? (i := 750) (by decide +kernel)⟩
theorem lw_p19 : lw_okq (⟨"ReleaseLeavesModel", "block", "(I)V"⟩, 32) := ⟨⟨by decide +kernel, by decide +kernel⟩, List.mem_of_getElem? (i := 569) (by decide +kernel), List.mem_of_getElem? (i := 761) (by decide +kernel), List.mem_of_getElem? (i := 762) (by decide +kernel)⟩
theorem lw_p20 : lw_okq (⟨"ReleaseLeavesModel", "layRow", "(I)V"⟩, 32) := ⟨⟨by decide +kernel, by decide +kernel⟩, List.mem_of_getElem? (i := 569) (by decide +kernel), List.mem_of_getElem? (i := 768) (by decide +kernel), List.mem_of_getElem? (i := 769) (by decide +kernel)⟩
theorem lw_p21 : lw_okq (⟨"ReleaseLeavesModel", "goUp", "()V"⟩, 32) := ⟨⟨by decide +kernel, by decide +kernel⟩, List.mem_of_getElem? (i := 569) (by decide +kernel), List.mem_of_getElem? (i := 772) (by decide +kernel), List.mem_of_getElem? (i := 773) (by decide +kernel)⟩
theorem lw_p22 : lw_okq (⟨"ReleaseLeavesModel", "putDigest", "([II)V"⟩, 32) := ⟨⟨by decide +kernel, by decide +kernel⟩, List.mem_of_getElem? (i := 569) (by decide +kernel), List.mem_of_getElem? (i := 776) (by decide +kernel), List.mem_of_getElem? (i := 777) (by decide +kernel)⟩
theorem lw_p23 : lw_okq (⟨"ReleaseLeavesModel", "isRelease", "(I)Z"⟩, 32) := ⟨⟨by decide +kernel, by decide +kernel⟩, List.mem_of_getElem? (i := 569) (by decide +kernel), List.mem_of_getElem? (i := 788) (by decide +kernel), List.mem_of_getElem? (i := 789) (by decide +kernel)⟩
theorem lw_p24 : lw_okq (⟨"ReleaseLeavesModel", "isLeaf", "(II)Z"⟩, 32) := ⟨⟨by decide +kernel, by decide +kernel⟩, List.mem_of_getElem? (i := 569) (by decide +kernel), List.mem_of_getElem? (i := 796) (by decide +kernel), List.mem_of_getElem? (i := 797) (by decide +kernel)⟩
theorem lw_p25 : lw_okq (⟨"ReleaseLeavesModel", "begin", "(I)V"⟩, 32) := ⟨⟨by decide +kernel, by decide +kernel⟩, List.mem_of_getElem? (i := 569) (by decide +kernel), List.mem_of_getElem? (i := 804) (by decide +kernel), List.mem_of_getElem? (i := 805) (by decide +kernel)⟩
theorem lw_p26 : lw_okq (⟨"ReleaseLeavesModel", "say", "(I)V"⟩, 32) := ⟨⟨by decide +kernel, by decide +kernel⟩, List.mem_of_getElem? (i := 569) (by decide +kernel), List.mem_of_getElem? (i := 811) (by decide +kernel), List.mem_of_getElem? (i := 812) (by decide +kernel)⟩
theorem lw_p27 : lw_okq (⟨"ReleaseLeavesModel", "holds", "()Z"⟩, 32) := ⟨⟨by decide +kernel, by decide +kernel⟩, List.mem_of_getElem? (i := 569) (by decide +kernel), List.mem_of_getElem? (i := 831) (by decide +kernel), List.mem_of_getElem? (i := 832) (by decide +kernel)⟩
theorem lw_p28 : lw_okq (⟨"ReleaseLeavesModel", "note", "(IIII)V"⟩, 32) := ⟨⟨by decide +kernel, by decide +kernel⟩, List.mem_of_getElem? (i := 569) (by decide +kernel), List.mem_of_getElem? (i := 839) (by decide +kernel), List.mem_of_getElem? (i := 840) (by decide +kernel)⟩
theorem lw_p29 : lw_okq (⟨"ReleaseLeavesModel", "isApproved", "(I)Z"⟩, 32) := ⟨⟨by decide +kernel, by decide +kernel⟩, List.mem_of_getElem? (i := 569) (by decide +kernel), List.mem_of_getElem? (i := 843) (by decide +kernel), List.mem_of_getElem? (i := 844) (by decide +kernel)⟩
theorem lw_p30 : lw_okq (⟨"ReleaseLeavesModel", "digestList", "(I)V"⟩, 32) := ⟨⟨by decide +kernel, by decide +kernel⟩, List.mem_of_getElem? (i := 569) (by decide +kernel), List.mem_of_getElem? (i := 863) (by decide +kernel), List.mem_of_getElem? (i := 864) (by decide +kernel)⟩
def lw_privs_2 : List (MethodName × Nat) := [(⟨"ReleaseLeavesModel", "digestLeaf", "(I)V"⟩, 32), (⟨"ReleaseLeavesModel", "put", "(I)V"⟩, 32), (⟨"ReleaseLeavesModel", "digestInput", "()V"⟩, 32), (⟨"ReleaseLeavesModel", "block", "(I)V"⟩, 32), (⟨"ReleaseLeavesModel", "layRow", "(I)V"⟩, 32), (⟨"ReleaseLeavesModel", "goUp", "()V"⟩, 32), (⟨"ReleaseLeavesModel", "putDigest", "([II)V"⟩, 32), (⟨"ReleaseLeavesModel", "isRelease", "(I)Z"⟩, 32), (⟨"ReleaseLeavesModel", "isLeaf", "(II)Z"⟩, 32), (⟨"ReleaseLeavesModel", "begin", "(I)V"⟩, 32), (⟨"ReleaseLeavesModel", "say", "(I)V"⟩, 32), (⟨"ReleaseLeavesModel", "holds", "()Z"⟩, 32), (⟨"ReleaseLeavesModel", "note", "(IIII)V"⟩, 32), (⟨"ReleaseLeavesModel", "isApproved", "(I)Z"⟩, 32), (⟨"ReleaseLeavesModel", "digestList", "(I)V"⟩, 32)]
theorem lw_r2 : ∀ q ∈ lw_privs_2, lw_okq q := List.forall_mem_cons.mpr ⟨lw_p16, List.forall_mem_cons.mpr ⟨lw_p17, List.forall_mem_cons.mpr ⟨lw_p18, List.forall_mem_cons.mpr ⟨lw_p19, List.forall_mem_cons.mpr ⟨lw_p20, List.forall_mem_cons.mpr ⟨lw_p21, List.forall_mem_cons.mpr ⟨lw_p22, List.forall_mem_cons.mpr ⟨lw_p23, List.forall_mem_cons.mpr ⟨lw_p24, List.forall_mem_cons.mpr ⟨lw_p25, List.forall_mem_cons.mpr ⟨lw_p26, List.forall_mem_cons.mpr ⟨lw_p27, List.forall_mem_cons.mpr ⟨lw_p28, List.forall_mem_cons.mpr ⟨lw_p29, List.forall_mem_cons.mpr ⟨lw_p30, fun _ h => absurd h List.not_mem_nil⟩⟩⟩⟩⟩⟩⟩⟩⟩⟩⟩⟩⟩⟩⟩
def lw_privs : List (MethodName × Nat) := lw_privs_1 ++ (lw_privs_2)
def lw_tbl : List Cond := k2_sels lw_privs ++ tables_1
theorem lw_privs_ok : ∀ q ∈ lw_privs, lw_okq q := by
  show ∀ q ∈ lw_privs_1 ++ (lw_privs_2), lw_okq q
  exact List.forall_mem_append.mpr ⟨lw_r1, lw_r2⟩
end
section
/-! TABLES of this claim for the logical machine, written by program (wip/whole/gen/tables.py) out of the Statement's words and javap's listing. -/
def zcnL : List String := ["ReleaseLeaves", "ReleaseLeaves$Digester", "ReleaseLeaves$Release", "ReleaseLeaves$Tree", "ReleaseLeaves$StoredFile", "ReleaseLeaves$EventLog", "ReleaseLeaves$Claim", "ReleaseLeavesModel", "ReleaseLeavesLaw", "java/lang/Math"]
def zcn (i : Nat) : String := zcnL.getD i ""
abbrev zNc : Nat := 8
abbrev zNm : Nat := 121
def zfTL : List (List (String × String × String × Bool)) := [[("ReleaseLeaves", "digester", "LReleaseLeaves$Digester;", true), ("ReleaseLeaves", "releases", "[LReleaseLeaves$Release;", true), ("ReleaseLeaves", "closedCount", "I", false), ("ReleaseLeaves", "lists", "[[I", true), ("ReleaseLeaves", "withdrawnCount", "I", false), ("ReleaseLeaves", "serialReleases", "[I", true), ("ReleaseLeaves", "serialCount", "I", false), ("ReleaseLeaves", "log", "LReleaseLeaves$EventLog;", true), ("ReleaseLeaves", "claim", "LReleaseLeaves$Claim;", true), ("ReleaseLeaves", "climbed", "[I", true)], [("ReleaseLeaves$Digester", "state", "[I", true), ("ReleaseLeaves$Digester", "schedule", "[I", true), ("ReleaseLeaves$Digester", "length", "I", false)], [("ReleaseLeaves$Release", "files", "[LReleaseLeaves$StoredFile;", true), ("ReleaseLeaves$Release", "fileCount", "I", false), ("ReleaseLeaves$Release", "tree", "LReleaseLeaves$Tree;", true), ("ReleaseLeaves$Release", "roles", "[I", true), ("ReleaseLeaves$Release", "withdrawn", "Z", false)], [("ReleaseLeaves$Tree", "nodes", "[[I", true), ("ReleaseLeaves$Tree", "widths", "[I", true), ("ReleaseLeaves$Tree", "topRow", "I", false)], [("ReleaseLeaves$StoredFile", "name", "I", false), ("ReleaseLeaves$StoredFile", "bytes", "[I", true), ("ReleaseLeaves$StoredFile", "length", "I", false)], [("ReleaseLeaves$EventLog", "owners", "[I", true), ("ReleaseLeaves$EventLog", "kinds", "[I", true), ("ReleaseLeaves$EventLog", "subjects", "[I", true), ("ReleaseLeaves$EventLog", "roles", "[I", true), ("ReleaseLeaves$EventLog", "count", "I", false)], [("ReleaseLeaves$Claim", "bytes", "[I", true), ("ReleaseLeaves$Claim", "count", "I", false)], [("ReleaseLeavesModel", "thrown", "I", false), ("ReleaseLeavesModel", "constants", "[I", true), ("ReleaseLeavesModel", "size", "I", false), ("ReleaseLeavesModel", "input", "[I", true), ("ReleaseLeavesModel", "words", "[I", true), ("ReleaseLeavesModel", "state", "[I", true), ("ReleaseLeavesModel", "work", "[I", true), ("ReleaseLeavesModel", "output", "[I", true), ("ReleaseLeavesModel", "releases", "I", false), ("ReleaseLeavesModel", "counts", "[I", true), ("ReleaseLeavesModel", "names", "[I", true), ("ReleaseLeavesModel", "lengths", "[I", true), ("ReleaseLeavesModel", "bytes", "[I", true), ("ReleaseLeavesModel", "leafDigests", "[I", true), ("ReleaseLeavesModel", "roots", "[I", true), ("ReleaseLeavesModel", "width", "I", false), ("ReleaseLeavesModel", "row", "[I", true), ("ReleaseLeavesModel", "checkSize", "I", false), ("ReleaseLeavesModel", "check", "[I", true), ("ReleaseLeavesModel", "roles", "[I", true), ("ReleaseLeavesModel", "withdrawn", "[Z", true), ("ReleaseLeavesModel", "withdrawals", "I", false), ("ReleaseLeavesModel", "serials", "I", false), ("ReleaseLeavesModel", "serialOf", "[I", true), ("ReleaseLeavesModel", "events", "I", false), ("ReleaseLeavesModel", "eventRelease", "[I", true), ("ReleaseLeavesModel", "eventKind", "[I", true), ("ReleaseLeavesModel", "eventA", "[I", true), ("ReleaseLeavesModel", "eventB", "[I", true), ("ReleaseLeavesModel", "wanted", "I", false), ("ReleaseLeavesModel", "written", "I", false), ("ReleaseLeavesModel", "found", "I", false)]]
def zfT (ci : Nat) : u_T := fun k => (zfTL.getD ci []).getD k ("", "", "", false)
def zfNL : List Nat := [10, 3, 5, 3, 3, 5, 2, 32]
def zfN (ci : Nat) : Nat := zfNL.getD ci 0
def zftL : List (List FieldType) := [[.object "ReleaseLeaves$Digester", .array (.object "ReleaseLeaves$Release"), .int, .array (.array .int), .int, .array .int, .int, .object "ReleaseLeaves$EventLog", .object "ReleaseLeaves$Claim", .array .int], [.array .int, .array .int, .int], [.array (.object "ReleaseLeaves$StoredFile"), .int, .object "ReleaseLeaves$Tree", .array .int, .boolean], [.array (.array .int), .array .int, .int], [.int, .array .int, .int], [.array .int, .array .int, .array .int, .array .int, .int], [.array .int, .int], [.int, .array .int, .int, .array .int, .array .int, .array .int, .array .int, .array .int, .int, .array .int, .array .int, .array .int, .array .int, .array .int, .array .int, .int, .array .int, .int, .array .int, .array .int, .array .boolean, .int, .int, .array .int, .int, .array .int, .array .int, .array .int, .array .int, .int, .int, .int]]
def zft (ci k : Nat) : FieldType := (zftL.getD ci []).getD k .int
abbrev zcls : List vw_C := [(zcn 0, zfT 0, zfN 0), (zcn 1, zfT 1, zfN 1), (zcn 2, zfT 2, zfN 2), (zcn 3, zfT 3, zfN 3), (zcn 4, zfT 4, zfN 4), (zcn 5, zfT 5, zfN 5), (zcn 6, zfT 6, zfN 6), (zcn 7, zfT 7, zfN 7)]
def zlayP : List (List Nat) := [[212, 214, 216, 218, 220, 222, 224, 226, 228, 230], [66, 68, 70], [127, 129, 131, 133, 135], [94, 96, 98], [111, 113, 115], [178, 180, 182, 184, 186], [197, 199], [677, 679, 681, 683, 685, 687, 689, 691, 693, 695, 697, 699, 701, 703, 705, 707, 709, 711, 713, 715, 717, 719, 721, 723, 725, 727, 729, 731, 733, 735, 737, 739]]
def zyL : List MethodName := [⟨"ReleaseLeavesLaw", "law", "([I)Z"⟩, ⟨"ReleaseLeaves", "<init>", "()V"⟩, ⟨"ReleaseLeaves$Digester", "<init>", "()V"⟩, ⟨"ReleaseLeaves$Release", "<init>", "()V"⟩, ⟨"ReleaseLeaves$Tree", "<init>", "()V"⟩, ⟨"ReleaseLeaves$StoredFile", "<init>", "()V"⟩, ⟨"ReleaseLeaves$Digester", "begin", "()V"⟩, ⟨"ReleaseLeaves$Digester", "finish", "([I)V"⟩, ⟨"ReleaseLeaves$Digester", "put", "(I)V"⟩, ⟨"ReleaseLeaves$Digester", "spreadSchedule", "()V"⟩, ⟨"ReleaseLeaves$Digester", "turn", "(II)I"⟩, ⟨"ReleaseLeaves$Digester", "mixBlock", "()V"⟩, ⟨"ReleaseLeaves$EventLog", "<init>", "()V"⟩, ⟨"ReleaseLeaves$Claim", "<init>", "()V"⟩, ⟨"ReleaseLeaves", "close", "()I"⟩, ⟨"ReleaseLeaves$Release", "sortFiles", "()V"⟩, ⟨"ReleaseLeaves$Tree", "grow", "([LReleaseLeaves$StoredFile;ILReleaseLeaves$Digester;)V"⟩, ⟨"ReleaseLeaves$Tree", "node", "(II)[I"⟩, ⟨"ReleaseLeaves$StoredFile", "digestInto", "(LReleaseLeaves$Digester;[I)V"⟩, ⟨"ReleaseLeaves$Digester", "putPart", "([III)V"⟩, ⟨"ReleaseLeaves$Tree", "pairUp", "(ILReleaseLeaves$Digester;)V"⟩, ⟨"ReleaseLeaves$Digester", "putAll", "([I)V"⟩, ⟨"ReleaseLeaves$Tree", "top", "()[I"⟩, ⟨"ReleaseLeaves", "check", "(I)Z"⟩, ⟨"ReleaseLeaves", "isByte", "(I)Z"⟩, ⟨"ReleaseLeaves$Claim", "addByte", "(I)Z"⟩, ⟨"ReleaseLeaves", "checked", "()I"⟩, ⟨"ReleaseLeaves$Claim", "isWellFormed", "()Z"⟩, ⟨"ReleaseLeaves$Claim", "hasByte", "(I)Z"⟩, ⟨"ReleaseLeaves$Claim", "stepCountAt", "()I"⟩, ⟨"ReleaseLeaves$Claim", "stepAt", "(I)I"⟩, ⟨"ReleaseLeaves$Claim", "releaseNumber", "()I"⟩, ⟨"ReleaseLeaves$Claim", "climb", "(LReleaseLeaves$Digester;[I)V"⟩, ⟨"ReleaseLeaves$Claim", "climbStep", "(ILReleaseLeaves$Digester;[I)V"⟩, ⟨"ReleaseLeaves", "sameNumbers", "([I[II)Z"⟩, ⟨"ReleaseLeaves", "made", "()I"⟩, ⟨"ReleaseLeaves", "clearCheck", "()V"⟩, ⟨"ReleaseLeaves$Claim", "empty", "()V"⟩, ⟨"ReleaseLeavesLaw", "file", "(LReleaseLeaves;I[J)I"⟩, ⟨"ReleaseLeaves", "file", "(I)I"⟩, ⟨"ReleaseLeaves$Release", "addFile", "(I)I"⟩, ⟨"ReleaseLeaves$Release", "findName", "(I)I"⟩, ⟨"ReleaseLeavesLaw", "byteOf", "(LReleaseLeaves;II[J)I"⟩, ⟨"ReleaseLeaves", "byteOf", "(II)Z"⟩, ⟨"ReleaseLeaves$Release", "hasFile", "(I)Z"⟩, ⟨"ReleaseLeaves$StoredFile", "addByte", "(I)Z"⟩, ⟨"ReleaseLeavesLaw", "root", "(LReleaseLeaves;II[J)I"⟩, ⟨"ReleaseLeaves", "root", "(II)I"⟩, ⟨"ReleaseLeaves", "closedRelease", "(I)LReleaseLeaves$Release;"⟩, ⟨"ReleaseLeaves", "requireDigestPlace", "(I)V"⟩, ⟨"ReleaseLeavesLaw", "proof", "(LReleaseLeaves;III[J)I"⟩, ⟨"ReleaseLeaves", "proof", "(III)I"⟩, ⟨"ReleaseLeaves", "releaseWithLeaf", "(II)LReleaseLeaves$Release;"⟩, ⟨"ReleaseLeaves$Tree", "proofByte", "(II)I"⟩, ⟨"ReleaseLeaves$Tree", "countSteps", "(I)I"⟩, ⟨"ReleaseLeaves$Tree", "hasOther", "(II)Z"⟩, ⟨"ReleaseLeaves$Tree", "otherOf", "(I)I"⟩, ⟨"ReleaseLeaves$Tree", "findStepRow", "(II)I"⟩, ⟨"ReleaseLeavesLaw", "approve", "(LReleaseLeaves;III[J)I"⟩, ⟨"ReleaseLeaves", "approve", "(III)I"⟩, ⟨"ReleaseLeaves$EventLog", "record", "(IIII)V"⟩, ⟨"ReleaseLeaves$Release", "isApproved", "()Z"⟩, ⟨"ReleaseLeavesLaw", "withdraw", "(LReleaseLeaves;I[J)I"⟩, ⟨"ReleaseLeaves", "withdraw", "(I)I"⟩, ⟨"ReleaseLeavesLaw", "serial", "(LReleaseLeaves;I[J)I"⟩, ⟨"ReleaseLeaves", "serial", "(I)I"⟩, ⟨"ReleaseLeavesLaw", "history", "(LReleaseLeaves;III[J)I"⟩, ⟨"ReleaseLeaves", "history", "(III)I"⟩, ⟨"ReleaseLeaves$EventLog", "find", "(II)I"⟩, ⟨"ReleaseLeaves$EventLog", "tell", "(II)I"⟩, ⟨"ReleaseLeavesLaw", "digest", "(LReleaseLeaves;III[J)I"⟩, ⟨"ReleaseLeaves", "digest", "(III)I"⟩, ⟨"ReleaseLeavesLaw", "growth", "(LReleaseLeaves;III[J)I"⟩, ⟨"ReleaseLeaves", "growth", "(III)I"⟩, ⟨"ReleaseLeavesLaw", "poke", "(LReleaseLeaves;II[J)I"⟩, ⟨"ReleaseLeaves", "poke", "(II)Z"⟩, ⟨"ReleaseLeaves$Claim", "flip", "(II)Z"⟩, ⟨"ReleaseLeavesLaw", "changed", "(LReleaseLeaves;II[J)I"⟩, ⟨"ReleaseLeaves", "changed", "(II)I"⟩, ⟨"ReleaseLeaves$StoredFile", "hasBytesOf", "(LReleaseLeaves$StoredFile;)Z"⟩, ⟨"ReleaseLeavesModel", "<init>", "()V"⟩, ⟨"ReleaseLeavesModel", "tell", "(IJJJJ)V"⟩, ⟨"ReleaseLeavesModel", "tellTwo", "(IJ)V"⟩, ⟨"ReleaseLeavesModel", "thrown", "()I"⟩, ⟨"ReleaseLeavesModel", "file", "(I)I"⟩, ⟨"ReleaseLeavesModel", "fileWith", "(II)I"⟩, ⟨"ReleaseLeavesModel", "byteOf", "(II)Z"⟩, ⟨"ReleaseLeavesModel", "isByte", "(I)Z"⟩, ⟨"ReleaseLeavesModel", "close", "()I"⟩, ⟨"ReleaseLeavesModel", "nextFile", "(I)I"⟩, ⟨"ReleaseLeavesModel", "digestLeaf", "(I)V"⟩, ⟨"ReleaseLeavesModel", "put", "(I)V"⟩, ⟨"ReleaseLeavesModel", "digestInput", "()V"⟩, ⟨"ReleaseLeavesModel", "block", "(I)V"⟩, ⟨"ReleaseLeavesModel", "turned", "(II)I"⟩, ⟨"ReleaseLeavesModel", "layRow", "(I)V"⟩, ⟨"ReleaseLeavesModel", "goUp", "()V"⟩, ⟨"ReleaseLeavesModel", "putDigest", "([II)V"⟩, ⟨"ReleaseLeavesModel", "made", "()I"⟩, ⟨"ReleaseLeavesModel", "root", "(II)I"⟩, ⟨"ReleaseLeavesModel", "isRelease", "(I)Z"⟩, ⟨"ReleaseLeavesModel", "digest", "(III)I"⟩, ⟨"ReleaseLeavesModel", "isLeaf", "(II)Z"⟩, ⟨"ReleaseLeavesModel", "proof", "(III)I"⟩, ⟨"ReleaseLeavesModel", "begin", "(I)V"⟩, ⟨"ReleaseLeavesModel", "stepsOf", "(II)I"⟩, ⟨"ReleaseLeavesModel", "say", "(I)V"⟩, ⟨"ReleaseLeavesModel", "check", "(I)Z"⟩, ⟨"ReleaseLeavesModel", "clearCheck", "()V"⟩, ⟨"ReleaseLeavesModel", "poke", "(II)Z"⟩, ⟨"ReleaseLeavesModel", "checked", "()I"⟩, ⟨"ReleaseLeavesModel", "holds", "()Z"⟩, ⟨"ReleaseLeavesModel", "approve", "(III)I"⟩, ⟨"ReleaseLeavesModel", "note", "(IIII)V"⟩, ⟨"ReleaseLeavesModel", "isApproved", "(I)Z"⟩, ⟨"ReleaseLeavesModel", "withdraw", "(I)I"⟩, ⟨"ReleaseLeavesModel", "serial", "(I)I"⟩, ⟨"ReleaseLeavesModel", "history", "(III)I"⟩, ⟨"ReleaseLeavesModel", "growth", "(III)I"⟩, ⟨"ReleaseLeavesModel", "digestList", "(I)V"⟩, ⟨"ReleaseLeavesModel", "changed", "(II)I"⟩]
def zy (i : Nat) : MethodName := zyL.getD i x
def zcdL : List ByteArray := [code, prog_1_method_1_code, prog_3_method_1_code, prog_5_method_1_code, prog_7_method_1_code, prog_6_method_1_code, prog_3_method_2_code, prog_3_method_6_code, prog_3_method_3_code, prog_3_method_7_code, prog_3_method_9_code, prog_3_method_8_code, prog_4_method_1_code, prog_2_method_1_code, prog_1_method_4_code, prog_5_method_5_code, prog_7_method_4_code, prog_7_method_2_code, prog_6_method_4_code, prog_3_method_5_code, prog_7_method_5_code, prog_3_method_4_code, prog_7_method_3_code, prog_1_method_7_code, prog_1_method_22_code, prog_2_method_2_code, prog_1_method_8_code, prog_2_method_9_code, prog_2_method_3_code, prog_2_method_7_code, prog_2_method_8_code, prog_2_method_6_code, prog_2_method_10_code, prog_2_method_11_code, prog_1_method_23_code, prog_1_method_17_code, prog_1_method_18_code, prog_2_method_5_code, method_3_code, prog_1_method_2_code, prog_5_method_3_code, prog_5_method_4_code, method_4_code, prog_1_method_3_code, prog_5_method_2_code, prog_6_method_2_code, method_5_code, prog_1_method_5_code, prog_1_method_19_code, prog_1_method_21_code, method_6_code, prog_1_method_6_code, prog_1_method_20_code, prog_7_method_6_code, prog_7_method_7_code, prog_7_method_9_code, prog_7_method_10_code, prog_7_method_8_code, method_7_code, prog_1_method_9_code, prog_4_method_2_code, prog_5_method_6_code, method_8_code, prog_1_method_10_code, method_9_code, prog_1_method_11_code, method_10_code, prog_1_method_12_code, prog_4_method_3_code, prog_4_method_4_code, method_11_code, prog_1_method_13_code, method_12_code, prog_1_method_14_code, method_13_code, prog_1_method_15_code, prog_2_method_4_code, method_14_code, prog_1_method_16_code, prog_6_method_3_code, prog_9_method_1_code, prog_9_method_2_code, prog_9_method_3_code, prog_9_method_4_code, prog_9_method_14_code, prog_9_method_13_code, prog_9_method_15_code, prog_9_method_12_code, prog_9_method_18_code, prog_9_method_16_code, prog_9_method_17_code, prog_9_method_5_code, prog_9_method_8_code, prog_9_method_7_code, prog_9_method_6_code, prog_9_method_20_code, prog_9_method_21_code, prog_9_method_9_code, prog_9_method_19_code, prog_9_method_25_code, prog_9_method_10_code, prog_9_method_26_code, prog_9_method_11_code, prog_9_method_27_code, prog_9_method_23_code, prog_9_method_24_code, prog_9_method_22_code, prog_9_method_28_code, prog_9_method_29_code, prog_9_method_30_code, prog_9_method_32_code, prog_9_method_31_code, prog_9_method_35_code, prog_9_method_33_code, prog_9_method_34_code, prog_9_method_36_code, prog_9_method_37_code, prog_9_method_38_code, prog_9_method_40_code, prog_9_method_39_code, prog_9_method_41_code]
def zcd (i : Nat) : ByteArray := zcdL.getD i code
def zmxL : List Nat := [7, 2, 1, 2, 1, 1, 1, 5, 4, 6, 2, 15, 1, 1, 3, 4, 5, 3, 3, 6, 6, 6, 1, 2, 1, 2, 1, 3, 2, 1, 2, 1, 5, 4, 4, 1, 1, 1, 4, 2, 3, 3, 5, 4, 2, 2, 5, 4, 2, 1, 6, 5, 4, 7, 4, 3, 1, 5, 6, 5, 5, 6, 4, 3, 4, 4, 6, 5, 5, 3, 6, 5, 6, 7, 5, 3, 4, 5, 6, 2, 1, 10, 4, 1, 2, 4, 4, 1, 7, 5, 3, 2, 3, 11, 2, 3, 3, 4, 1, 3, 2, 4, 3, 7, 2, 5, 2, 2, 1, 3, 1, 5, 4, 5, 4, 2, 2, 6, 5, 3, 8]
def zmx (i : Nat) : Nat := zmxL.getD i 0
def zrtL : List (Option FieldType) := [(some .boolean), none, none, none, none, none, none, none, none, none, (some .int), none, none, none, (some .int), none, none, (some (.array .int)), none, none, none, none, (some (.array .int)), (some .boolean), (some .boolean), (some .boolean), (some .int), (some .boolean), (some .boolean), (some .int), (some .int), (some .int), none, none, (some .boolean), (some .int), none, none, (some .int), (some .int), (some .int), (some .int), (some .int), (some .boolean), (some .boolean), (some .boolean), (some .int), (some .int), (some (.object "ReleaseLeaves$Release")), none, (some .int), (some .int), (some (.object "ReleaseLeaves$Release")), (some .int), (some .int), (some .boolean), (some .int), (some .int), (some .int), (some .int), none, (some .boolean), (some .int), (some .int), (some .int), (some .int), (some .int), (some .int), (some .int), (some .int), (some .int), (some .int), (some .int), (some .int), (some .int), (some .boolean), (some .boolean), (some .int), (some .int), (some .boolean), none, none, none, (some .int), (some .int), (some .int), (some .boolean), (some .boolean), (some .int), (some .int), none, none, none, none, (some .int), none, none, none, (some .int), (some .int), (some .boolean), (some .int), (some .boolean), (some .int), none, (some .int), none, (some .boolean), none, (some .boolean), (some .int), (some .boolean), (some .int), none, (some .boolean), (some .int), (some .int), (some .int), (some .int), none, (some .int)]
def zrt (i : Nat) : Option FieldType := zrtL.getD i none
def zocL : List Nat := [8, 0, 1, 2, 3, 4, 1, 1, 1, 1, 1, 1, 5, 6, 0, 2, 3, 3, 4, 1, 3, 1, 3, 0, 0, 6, 0, 6, 6, 6, 6, 6, 6, 6, 0, 0, 0, 6, 8, 0, 2, 2, 8, 0, 2, 4, 8, 0, 0, 0, 8, 0, 0, 3, 3, 3, 3, 3, 8, 0, 5, 2, 8, 0, 8, 0, 8, 0, 5, 5, 8, 0, 8, 0, 8, 0, 6, 8, 0, 4, 7, 7, 7, 7, 7, 7, 7, 7, 7, 7, 7, 7, 7, 7, 7, 7, 7, 7, 7, 7, 7, 7, 7, 7, 7, 7, 7, 7, 7, 7, 7, 7, 7, 7, 7, 7, 7, 7, 7, 7, 7]
def zoc (i : Nat) : Nat := zocL.getD i 0
def zatL : List Bool := [true, false, false, false, false, false, false, false, false, false, true, false, false, false, false, false, false, false, false, false, false, false, false, false, true, false, false, false, false, false, false, false, false, false, true, false, false, false, true, false, false, false, true, false, false, false, true, false, false, true, true, false, false, false, false, false, true, false, true, false, false, false, true, false, true, false, true, false, false, false, true, false, true, false, true, false, false, true, false, false, false, false, false, false, false, false, false, true, false, false, false, false, false, false, true, false, false, false, false, false, false, false, false, false, false, true, false, false, false, false, false, false, false, false, false, false, false, false, false, false, false]
def zat (i : Nat) : Bool := zatL.getD i true
def znpL : List Nat := [1, 0, 0, 0, 0, 0, 0, 1, 1, 0, 2, 0, 0, 0, 0, 0, 3, 2, 2, 3, 2, 1, 0, 1, 1, 1, 0, 0, 1, 0, 1, 0, 2, 3, 3, 0, 0, 0, 3, 1, 1, 1, 4, 2, 1, 1, 4, 2, 1, 1, 5, 3, 2, 2, 1, 2, 1, 2, 5, 3, 4, 0, 3, 1, 3, 1, 5, 3, 2, 2, 5, 3, 5, 3, 4, 2, 2, 4, 2, 1, 0, 5, 2, 0, 1, 2, 2, 1, 0, 1, 1, 1, 0, 1, 2, 1, 0, 2, 0, 2, 1, 3, 2, 3, 1, 2, 1, 1, 0, 2, 0, 0, 3, 4, 1, 1, 1, 3, 3, 1, 2]
def znp (i : Nat) : Nat := znpL.getD i 0
def zrkL : List Nat := [10, 4, 1, 2, 1, 1, 1, 3, 2, 1, 0, 1, 1, 1, 6, 0, 5, 0, 4, 3, 4, 3, 1, 1, 0, 0, 6, 2, 0, 0, 1, 0, 5, 4, 0, 0, 1, 0, 7, 6, 1, 0, 7, 6, 0, 0, 8, 7, 6, 6, 9, 8, 7, 3, 2, 1, 0, 2, 8, 7, 0, 0, 8, 7, 8, 7, 7, 6, 0, 0, 9, 8, 7, 6, 7, 6, 0, 9, 8, 1, 2, 1, 0, 0, 1, 0, 1, 0, 4, 0, 3, 0, 2, 1, 0, 0, 3, 1, 0, 1, 0, 2, 1, 4, 0, 0, 0, 1, 0, 0, 4, 3, 1, 0, 0, 1, 1, 0, 4, 3, 2]
def zrk (i : Nat) : Nat := zrkL.getD i 0
def zloL : List Nat := [183, 102, 20, 40, 20, 20, 26, 78, 55, 21, 0, 21, 20, 20, 152, 0, 128, 0, 103, 78, 103, 78, 22, 21, 0, 0, 150, 41, 0, 0, 20, 0, 126, 103, 0, 0, 20, 0, 111, 90, 22, 0, 113, 90, 0, 0, 134, 111, 90, 90, 158, 134, 111, 66, 42, 20, 0, 42, 135, 111, 0, 0, 133, 111, 134, 111, 114, 90, 0, 0, 158, 134, 116, 90, 112, 90, 0, 159, 134, 23, 52, 23, 0, 0, 23, 0, 20, 0, 95, 0, 73, 0, 51, 21, 0, 0, 73, 21, 0, 21, 0, 43, 21, 95, 0, 0, 0, 20, 0, 0, 97, 73, 24, 0, 0, 24, 24, 0, 95, 73, 43]
def zlo (i : Nat) : Nat := zloL.getD i 0
/-- methods whose locals hold longs -/
def zlg (i : Nat) : Bool := i == 81 || i == 82
/-- handlers; the law itself has a row that covers nothing: nothing is thrown through it -/
def zhdL : List (List (Nat × Nat × Nat × Nat)) := [[(0, 0, 0, 0)], [], [], [], [], [], [], [], [], [], [], [], [], [], [], [], [], [], [], [], [], [], [], [], [], [], [], [], [], [], [], [], [], [], [], [], [], [], [(0, 9, 12, 13)], [], [], [], [(0, 17, 20, 19), (0, 17, 24, 13)], [], [], [], [(0, 10, 13, 19)], [], [], [], [(0, 12, 15, 19)], [], [], [], [], [], [], [], [(0, 12, 15, 19), (0, 12, 19, 13)], [], [], [], [(0, 9, 12, 19)], [], [(0, 9, 12, 19)], [], [(0, 12, 15, 19)], [], [], [], [(0, 12, 15, 19)], [], [(0, 12, 15, 19)], [], [(0, 17, 20, 19)], [], [], [(0, 10, 13, 19)], [], [], [], [], [], [], [], [], [], [], [], [], [], [], [], [], [], [], [], [], [], [], [], [], [], [], [], [], [], [], [], [], [], [], [], [], [], [], [], [], [], [], []]
def zhd (i : Nat) : List (Nat × Nat × Nat × Nat) := zhdL.getD i []
/-- links: by the owner: index, class, field, of a nest mate or not, place of the word -/
def zflL : List (List (Nat × Nat × Nat × Nat × Nat)) := [[(12, 0, 0, 0, 202), (18, 0, 1, 0, 203), (25, 0, 3, 0, 205), (35, 0, 5, 0, 207), (42, 0, 7, 0, 209), (49, 0, 8, 0, 210), (53, 0, 9, 0, 211), (64, 0, 2, 0, 204), (86, 2, 0, 1, 119), (98, 2, 2, 1, 123), (102, 2, 1, 1, 121), (157, 2, 3, 1, 125), (167, 2, 4, 1, 126), (171, 0, 4, 0, 206), (174, 0, 6, 0, 208), (204, 4, 0, 1, 108)], [(11, 1, 0, 0, 63), (18, 1, 1, 0, 64), (30, 1, 2, 0, 65)], [(11, 2, 0, 0, 118), (20, 2, 2, 0, 122), (24, 2, 3, 0, 124), (29, 2, 1, 0, 120), (37, 4, 0, 1, 106)], [(13, 3, 0, 0, 91), (16, 3, 1, 0, 92), (20, 3, 2, 0, 93)], [(9, 4, 1, 0, 109), (15, 4, 2, 0, 110), (32, 4, 0, 0, 107)], [(9, 5, 0, 0, 173), (15, 5, 1, 0, 174), (18, 5, 2, 0, 175), (21, 5, 3, 0, 176), (24, 5, 4, 0, 177)], [(9, 6, 0, 0, 195), (15, 6, 1, 0, 196)], [(7, 7, 1, 0, 646), (13, 7, 3, 0, 648), (16, 7, 4, 0, 649), (19, 7, 5, 0, 650), (22, 7, 6, 0, 651), (25, 7, 7, 0, 652), (28, 7, 9, 0, 654), (31, 7, 10, 0, 655), (34, 7, 11, 0, 656), (37, 7, 12, 0, 657), (40, 7, 13, 0, 658), (43, 7, 14, 0, 659), (46, 7, 16, 0, 661), (49, 7, 18, 0, 663), (52, 7, 19, 0, 664), (55, 7, 20, 0, 665), (59, 7, 23, 0, 668), (62, 7, 25, 0, 670), (65, 7, 26, 0, 671), (68, 7, 27, 0, 672), (71, 7, 28, 0, 673), (146, 7, 0, 0, 645), (150, 7, 2, 0, 647), (172, 7, 8, 0, 653), (199, 7, 15, 0, 660), (209, 7, 30, 0, 675), (212, 7, 29, 0, 674), (215, 7, 31, 0, 676), (231, 7, 17, 0, 662), (238, 7, 24, 0, 669), (248, 7, 21, 0, 666), (251, 7, 22, 0, 667)], [], []]
def zfl (oc k : Nat) : Option (Nat × Nat) := ((zflL.getD oc []).find? (fun q => q.1 == k)).map (fun q => (q.2.1, q.2.2.1))
def zmlL : List (List (Nat × Nat × Nat × Nat)) := [[(11, 2, 1, 57), (22, 3, 0, 77), (28, 6, 0, 139), (31, 7, 0, 148), (41, 12, 1, 169), (48, 13, 1, 191), (68, 40, 0, 419), (72, 44, 0, 435), (81, 24, 0, 284), (90, 45, 0, 456), (95, 15, 0, 237), (105, 16, 0, 241), (111, 21, 0, 275), (114, 22, 0, 276), (118, 48, 0, 467), (122, 49, 0, 472), (126, 52, 0, 483), (132, 53, 0, 489), (136, 25, 0, 287), (137, 27, 0, 295), (141, 31, 0, 311), (145, 32, 0, 315), (149, 34, 0, 328), (160, 60, 0, 517), (164, 61, 0, 521), (181, 68, 0, 548), (184, 69, 0, 552), (187, 17, 0, 563), (195, 28, 0, 580), (200, 76, 0, 582), (207, 41, 0, 593), (210, 79, 0, 594), (214, 37, 0, 339)], [(34, 9, 0, 156), (37, 11, 0, 163), (40, 8, 0, 152), (50, 10, 0, 160)], [(19, 4, 1, 85), (28, 5, 1, 102), (33, 41, 0, 423)], [(24, 17, 0, 246), (28, 6, 0, 245), (33, 7, 0, 250), (37, 18, 0, 251), (43, 20, 0, 265), (47, 8, 0, 269), (51, 21, 0, 270), (60, 54, 0, 493), (64, 57, 0, 504), (68, 56, 0, 501), (71, 55, 0, 497)], [(19, 34, 1, 598), (23, 6, 0, 255), (28, 8, 0, 256), (35, 19, 0, 257), (39, 7, 0, 264)], [], [(19, 29, 0, 303), (23, 28, 0, 299), (27, 30, 0, 307), (31, 6, 0, 319), (36, 8, 0, 320), (40, 19, 0, 321), (44, 7, 0, 322), (48, 33, 0, 323), (52, 21, 0, 327)], [(82, 81, 0, 609), (142, 82, 0, 613), (153, 94, 0, 795), (157, 91, 0, 775), (169, 93, 0, 791), (175, 100, 0, 818), (180, 85, 0, 752), (183, 87, 0, 760), (186, 92, 0, 779), (189, 89, 0, 767), (193, 90, 0, 771), (196, 95, 0, 798), (202, 96, 0, 802), (205, 97, 0, 806), (218, 102, 0, 826), (222, 104, 0, 834), (225, 105, 0, 838), (228, 106, 0, 841), (234, 111, 0, 861), (241, 113, 0, 869), (245, 114, 0, 873), (254, 119, 0, 893)], [(7, 39, 0, 347), (15, 43, 0, 431), (21, 47, 0, 463), (25, 51, 0, 479), (29, 59, 0, 511), (32, 63, 0, 528), (35, 65, 0, 535), (38, 67, 0, 542), (41, 71, 0, 559), (44, 73, 0, 567), (47, 75, 0, 576), (50, 78, 0, 589), (53, 1, 0, 49), (56, 80, 0, 601), (57, 38, 0, 343), (62, 84, 0, 747), (63, 83, 0, 743), (67, 42, 0, 427), (70, 86, 0, 756), (71, 14, 0, 233), (74, 88, 0, 763), (75, 46, 0, 460), (77, 99, 0, 814), (78, 50, 0, 476), (81, 103, 0, 830), (82, 23, 0, 280), (86, 107, 0, 845), (87, 26, 0, 291), (90, 110, 0, 857), (91, 58, 0, 508), (93, 112, 0, 865), (94, 62, 0, 525), (96, 115, 0, 877), (97, 64, 0, 532), (99, 116, 0, 881), (100, 66, 0, 539), (102, 117, 0, 885), (103, 70, 0, 556), (105, 101, 0, 822), (106, 72, 0, 564), (108, 118, 0, 889), (109, 74, 0, 573), (111, 109, 0, 853), (112, 77, 0, 586), (114, 120, 0, 897), (115, 35, 0, 331), (118, 98, 0, 810), (119, 36, 0, 335), (122, 108, 0, 849)], []]
def zml (oc k : Nat) : Option Nat := ((zmlL.getD oc []).find? (fun q => q.1 == k)).map (fun q => q.2.1)
def zclL : List (List (Nat × (Nat ⊕ Nat) × Nat)) := [[(9, .inl 1, 55), (16, .inl 2, 74), (39, .inl 5, 167), (46, .inl 6, 189), (57, .inr 0, 352), (76, .inr 1, 439)], [], [(9, .inl 4, 81), (17, .inl 3, 83)], [], [], [], [], [], [(8, .inl 0, 47), (54, .inl 7, 599)], []]
def zcl (oc k : Nat) : Option (Nat ⊕ Nat) := ((zclL.getD oc []).find? (fun q => q.1 == k)).map (fun q => q.2.1)
def zklL : List (List (Nat × Int32 × Nat)) := [[(56, 65535, 351)], [], [], [], [], [], [], [(161, 1779033703, 783), (162, -1150833019, 784), (163, 1013904242, 785), (164, -1521486534, 786), (165, 1359893119, 787), (166, -1694144372, 788), (167, 528734635, 789), (168, 1541459225, 790), (179, 65536, 751)], [], []]
def zkl (oc k : Nat) : Option Int32 := ((zklL.getD oc []).find? (fun q => q.1 == k)).map (fun q => q.2.1)
def zkLL : List (List (Nat × Int64 × Nat)) := [[], [], [], [], [], [], [], [(74, 4794697085070296209, 605), (76, -5349999486918337627, 606), (78, 4131703405765792241, 607), (80, -7908458776882290987, 608), (86, -2880145866557793535, 617), (88, 2608012711741390275, 618), (90, 8268148720858477054, 619), (92, -7215885185376849548, 620), (94, -1973867730000001146, 621), (96, 1135362055407968716, 622), (98, 3308224257782482090, 623), (100, 6679025011744409818, 624), (102, -7476448915937442195, 625), (104, -5763719354946846777, 626), (106, -4116276917527146169, 627), (108, 489312709404862823, 628), (110, 2861767655337697592, 629), (112, 5560940570391088403, 630), (114, 7280758554198936251, 631), (116, -9096487095472345979, 632), (118, -6719396338005809589, 633), (120, -4446306890599870045, 634), (122, -3345356375510677980, 635), (124, -860691633158840208, 636), (126, 1847814047869135880, 637), (128, 2830643534987574453, 638), (130, 4115178123771292234, 639), (132, 6601373596217405427, 640), (134, 8399075790807196527, 641), (136, -8878714635704401400, 642), (138, -8016688834709263125, 643), (140, -4685533652720715534, 644)], [], []]
def zkL (oc k : Nat) : Option Int64 := ((zkLL.getD oc []).find? (fun q => q.1 == k)).map (fun q => q.2.1)
def zslL : List (List (Nat × Nat × Nat × String × String × String)) := [[], [(15, 2, 61, "ReleaseLeaves$Digester", "ROUNDS", "[I"), (21, 1, 143, "ReleaseLeaves$Digester", "START", "[I")], [], [], [], [], [], [], [], []]
def zsl (oc k : Nat) : Option Nat := ((zslL.getD oc []).find? (fun q => q.1 == k)).map (fun q => q.2.1)
def zalL : List (List (Nat × String × Nat × Nat)) := [[(16, "ReleaseLeaves$Release", 74, 75)], [], [(9, "ReleaseLeaves$StoredFile", 81, 82)], [], [], [], [], [], [], []]
def zal (oc k : Nat) : Option String := ((zalL.getD oc []).find? (fun q => q.1 == k)).map (fun q => q.2.1)
def zmuL : List (Nat × Nat × Nat) := [(3, 11, 89), (0, 23, 138)]
def zmu (oc k : Nat) : Bool := zmuL.any (fun q => q.1 == oc && q.2.1 == k)
def zobL : List (Nat × Nat × Nat) := [(0, 3, 52), (1, 3, 60), (2, 3, 80), (3, 3, 88), (4, 3, 105), (5, 3, 172), (6, 3, 194), (7, 1, 604)]
def zob (oc k : Nat) : Bool := zobL.any (fun q => q.1 == oc && q.2.1 == k)
def zacL : List (Nat × Nat × Nat) := [(1, 24, 145), (3, 54, 274)]
def zac (oc k : Nat) : Bool := zacL.any (fun q => q.1 == oc && q.2.1 == k)
def zmnL : List (Nat × Nat × Nat) := [(1, 44, 261)]
def zmn (oc k : Nat) : Bool := zmnL.any (fun q => q.1 == oc && q.2.1 == k)
def zxlL : List (List (Nat × Nat × Nat)) := [[(61, 0, 393), (80, 1, 449)], [], [], [], [], [], [], [], [], []]
def zxl (oc k : Nat) : Option Nat := ((zxlL.getD oc []).find? (fun q => q.1 == k)).map (fun q => q.2.1)
def zxcL : List (List (Nat × Nat × Nat)) := [[], [], [], [], [], [], [], [], [(13, 0, 346), (19, 1, 430)], []]
/-- what a handler catches -/
def zxc (oc k : Nat) : Option Nat := ((zxcL.getD oc []).find? (fun q => q.1 == k)).map (fun q => q.2.1)
def zxsL : List (Nat × Nat × String × Nat) := [(0, 59, "no name", 392), (0, 78, "no such open file", 448), (0, 84, "no byte", 455), (0, 130, "no byte ahead of the proof", 488), (0, 153, "no person", 515), (0, 155, "no role", 516), (0, 177, "no such serial number", 546), (0, 179, "nothing such is told of an event", 547), (0, 191, "the list did not grow so", 571), (0, 193, "no byte ahead of the growth", 572), (0, 198, "no such byte of the check", 581), (0, 217, "no such release", 471), (0, 219, "no such leaf", 487), (0, 221, "no such byte of a digest", 475)]
def zxs (oc k : Nat) : Bool := zxsL.any (fun q => q.1 == oc && q.2.1 == k)
def zxnL : List String := ["java/lang/IllegalArgumentException", "java/lang/IndexOutOfBoundsException"]
def zxn (i : Nat) : String := zxnL.getD i ""
/-- where the words of a method stand: code, its class is initialised, static or (instance and selects) -/
def zmP : List (Nat × Nat × Nat × Nat) := [(0, 0, 0, 0), (51, 32, 50, 0), (59, 33, 58, 0), (79, 34, 78, 0), (87, 35, 86, 0), (104, 36, 103, 0), (142, 33, 140, 141), (151, 33, 149, 150), (155, 33, 153, 154), (159, 33, 158, 0), (162, 33, 161, 0), (166, 33, 165, 1), (171, 38, 170, 0), (193, 39, 192, 0), (236, 32, 234, 235), (240, 34, 238, 239), (244, 35, 242, 243), (249, 35, 247, 248), (254, 36, 252, 253), (260, 33, 258, 259), (268, 35, 267, 2), (273, 33, 271, 272), (279, 35, 277, 278), (283, 32, 281, 282), (286, 32, 285, 0), (290, 39, 288, 289), (294, 32, 292, 293), (298, 39, 296, 297), (302, 39, 300, 301), (306, 39, 305, 3), (310, 39, 309, 4), (314, 39, 312, 313), (318, 39, 316, 317), (326, 39, 325, 5), (330, 32, 329, 0), (334, 32, 332, 333), (338, 32, 336, 337), (342, 39, 340, 341), (345, 31, 344, 0), (350, 32, 348, 349), (422, 34, 420, 421), (426, 34, 424, 425), (429, 31, 428, 0), (434, 32, 432, 433), (438, 34, 436, 437), (459, 36, 457, 458), (462, 31, 461, 0), (466, 32, 464, 465), (470, 32, 469, 7), (474, 32, 473, 0), (478, 31, 477, 0), (482, 32, 480, 481), (486, 32, 485, 8), (492, 35, 490, 491), (496, 35, 495, 9), (500, 35, 499, 10), (503, 35, 502, 0), (507, 35, 506, 11), (510, 31, 509, 0), (514, 32, 512, 513), (520, 38, 518, 519), (524, 34, 522, 523), (527, 31, 526, 0), (531, 32, 529, 530), (534, 31, 533, 0), (538, 32, 536, 537), (541, 31, 540, 0), (545, 32, 543, 544), (551, 38, 549, 550), (555, 38, 553, 554), (558, 31, 557, 0), (562, 32, 560, 561), (566, 31, 565, 0), (570, 32, 568, 569), (575, 31, 574, 0), (579, 32, 577, 578), (585, 39, 583, 584), (588, 31, 587, 0), (592, 32, 590, 591), (597, 36, 595, 596), (603, 40, 602, 0), (612, 40, 611, 12), (616, 40, 615, 13), (746, 40, 744, 745), (750, 40, 748, 749), (755, 40, 754, 14), (759, 40, 757, 758), (762, 40, 761, 0), (766, 40, 764, 765), (770, 40, 769, 15), (774, 40, 773, 16), (778, 40, 777, 17), (782, 40, 781, 18), (794, 40, 793, 19), (797, 40, 796, 0), (801, 40, 800, 20), (805, 40, 804, 21), (809, 40, 808, 22), (813, 40, 811, 812), (817, 40, 815, 816), (821, 40, 820, 23), (825, 40, 823, 824), (829, 40, 828, 24), (833, 40, 831, 832), (837, 40, 836, 25), (840, 40, 839, 0), (844, 40, 843, 26), (848, 40, 846, 847), (852, 40, 850, 851), (856, 40, 854, 855), (860, 40, 858, 859), (864, 40, 863, 27), (868, 40, 866, 867), (872, 40, 871, 28), (876, 40, 875, 29), (880, 40, 878, 879), (884, 40, 882, 883), (888, 40, 886, 887), (892, 40, 890, 891), (896, 40, 895, 30), (900, 40, 898, 899)]
/-- the addresses: 0 the script (L ints), 1 and 2 the two static arrays, then what the law makes, in order -/
abbrev zS : Nat := 3
abbrev zTop : Nat := 646
def zK54 (k : Nat) : Option ((FieldType × Nat) ⊕ Nat) :=
  if k < 3 then (if k = 0 then some (.inr 2) else if k = 1 then some (.inl (.object "ReleaseLeaves$StoredFile", 8)) else some (.inr 3))
  else if k < 36 then (if k = 3 then some (.inl (.array .int, 32)) else some (.inl (.int, 32)))
  else if k < 38 then (if k = 36 then some (.inl (.int, 4)) else some (.inl (.int, 16)))
  else if k % 2 = 0 then some (.inr 4) else some (.inl (.int, 64))
def zKhL : List ((FieldType × Nat) ⊕ Nat) := [.inr 0, .inr 1, .inl (.int, 8), .inl (.int, 64), .inl (.object "ReleaseLeaves$Release", 11)]
def zKtL : List ((FieldType × Nat) ⊕ Nat) := [.inl (.int, 60), .inr 5, .inl (.int, 100), .inl (.int, 100), .inl (.int, 100), .inl (.int, 100), .inr 6, .inl (.int, 300), .inl (.int, 32), .inr 7, .inl (.int, 64), .inl (.int, 512), .inl (.int, 64), .inl (.int, 8), .inl (.int, 8), .inl (.int, 32), .inl (.int, 11), .inl (.int, 88), .inl (.int, 88), .inl (.int, 5632), .inl (.int, 2560), .inl (.int, 320), .inl (.int, 256), .inl (.int, 300), .inl (.int, 160), .inl (.boolean, 10), .inl (.int, 60), .inl (.int, 100), .inl (.int, 100), .inl (.int, 100), .inl (.int, 100), .inl (.long, 1)]
/-- the kinds of the cells, by their addresses -/
def zK (L a : Nat) : Option ((FieldType × Nat) ⊕ Nat) :=
  if a < 3 then (if a = 0 then some (.inl (.int, L)) else if a = 1 then some (.inl (.int, 8)) else some (.inl (.int, 64)))
  else if a < 8 then zKhL[a - 3]?
  else if a < 602 then zK54 ((a - 8) % 54)
  else if a < 614 then (if a = 602 then some (.inl (.array .int, 11)) else some (.inl (.int, 32)))
  else zKtL[a - 614]?
/-! what the tables say is said by the words: by places -/
def zgw (w : Cond) : Bool := goodWord w || (match w with
  | .fieldLinkNest .. => true
  | .methodLinkNest .. => true
  | .arrayOver _ => true
  | _ => false)
def zws : List Cond := lw_tbl.filter zgw
def zat0 (p : Nat) (w : Cond) : Bool := decide (lw_tbl[p]? = some w) && zgw w
theorem zin {p : Nat} {w : Cond} (h : zat0 p w = true) : w ∈ zws := by
  unfold zat0 at h
  rw [Bool.and_eq_true, decide_eq_true_eq] at h
  exact List.mem_filter.mpr ⟨List.mem_of_getElem? h.1, h.2⟩
end
section
/-! the tables are the words' -/
theorem zall {α : Type} {n : Nat} {T : List (List α)} {C : Nat → α → Bool} (h : (List.range n).all (fun oc => (T.getD oc []).all (C oc)) = true) (hn : T.length ≤ n) {oc : Nat} {q : α} (hq : q ∈ T.getD oc []) : C oc q = true := by
  have hlt : oc < T.length := by
    refine Nat.lt_of_not_le (fun hge => ?_)
    rw [List.getD_eq_getElem?_getD, List.getElem?_eq_none hge] at hq
    exact absurd hq List.not_mem_nil
  have h1 := List.all_eq_true.mp h oc (List.mem_range.mpr (Nat.lt_of_lt_of_le hlt hn))
  exact List.all_eq_true.mp h1 q hq
theorem zfind {α β : Type} {l : List α} {p : α → Bool} {f : α → β} {b : β} (h : (l.find? p).map f = some b) : ∃ q, q ∈ l ∧ p q = true ∧ f q = b := by
  obtain ⟨q, hq, e⟩ := Option.map_eq_some_iff.mp h
  exact ⟨q, List.mem_of_find?_eq_some hq, List.find?_some hq, e⟩
def zflC (oc : Nat) (q : Nat × Nat × Nat × Nat × Nat) : Bool :=
  (decide (q.2.1 < zNc) && decide (q.2.2.1 < zfN q.2.1)) && (if q.2.2.2.1 = 0 then zat0 q.2.2.2.2 (.fieldLink (zcn oc) q.1 (zfT q.2.1 q.2.2.1).1 (zfT q.2.1 q.2.2.1).2.1 (zfT q.2.1 q.2.2.1).2.2.1) else zat0 q.2.2.2.2 (.fieldLinkNest (zcn oc) q.1 (zfT q.2.1 q.2.2.1).1 (zfT q.2.1 q.2.2.1).2.1 (zfT q.2.1 q.2.2.1).2.2.1 "ReleaseLeaves"))
theorem zfl_all : (List.range 10).all (fun oc => (zflL.getD oc []).all (zflC oc)) = true := by decide +kernel
theorem zfl_ok {oc k ci f : Nat} (h : zfl oc k = some (ci, f)) : Cond.fieldLink (zcn oc) k (zfT ci f).1 (zfT ci f).2.1 (zfT ci f).2.2.1 ∈ zws ∨ ∃ host, Cond.fieldLinkNest (zcn oc) k (zfT ci f).1 (zfT ci f).2.1 (zfT ci f).2.2.1 host ∈ zws := by
  obtain ⟨q, hq, hk, e⟩ := zfind h
  have hc := zall zfl_all (by decide) hq
  cases e
  have hk' : q.1 = k := by simpa using hk
  subst hk'
  unfold zflC at hc
  rw [Bool.and_eq_true] at hc
  have h2 := hc.2
  split at h2
  · exact Or.inl (zin h2)
  · exact Or.inr ⟨_, zin h2⟩
theorem zfl_lt {oc k ci f : Nat} (h : zfl oc k = some (ci, f)) : ci < zNc ∧ f < zfN ci := by
  obtain ⟨q, hq, hk, e⟩ := zfind h
  have hc := zall zfl_all (by decide) hq
  cases e
  unfold zflC at hc
  rw [Bool.and_eq_true, Bool.and_eq_true, decide_eq_true_eq, decide_eq_true_eq] at hc
  exact hc.1
theorem zcls_at : ∀ ci, ci < zNc → zcls[ci]? = some (zcn ci, zfT ci, zfN ci) := by
  intro ci h
  match ci, h with
  | 0, _ => rfl
  | 1, _ => rfl
  | 2, _ => rfl
  | 3, _ => rfl
  | 4, _ => rfl
  | 5, _ => rfl
  | 6, _ => rfl
  | 7, _ => rfl
  | n + 8, h => exact absurd (show n + 8 < 8 from h) (by omega)
theorem zlay_all : (List.range zNc).all (fun ci => (List.range (zfN ci)).all (fun k => zat0 ((zlayP.getD ci []).getD k 0) (u_lay (zcn ci) (zfT ci) k))) = true := by decide +kernel
theorem zlay : ∀ ci, ci < zNc → ∀ w ∈ u_ws (zcn ci) (zfT ci) (zfN ci), w ∈ zws := by
  intro ci hci w hw
  obtain ⟨k, hk, rfl⟩ := List.mem_map.mp hw
  exact zin (List.all_eq_true.mp (List.all_eq_true.mp zlay_all ci (List.mem_range.mpr hci)) k hk)
theorem zty_all : (List.range zNc).all (fun ci => (List.range (zfN ci)).all (fun k => decide (parseFieldDescriptor (zfT ci k).2.2.1 = some (zft ci k)) && decide ((zfT ci k).1 = zcn ci))) = true := by decide +kernel
theorem zty_ok : ∀ ci, ci < zNc → ∀ k, k < zfN ci → parseFieldDescriptor (zfT ci k).2.2.1 = some (zft ci k) := by
  intro ci hci k hk
  have h := List.all_eq_true.mp (List.all_eq_true.mp zty_all ci (List.mem_range.mpr hci)) k (List.mem_range.mpr hk)
  rw [Bool.and_eq_true, decide_eq_true_eq] at h
  exact h.1
theorem zdecl : ∀ ci, ci < zNc → ∀ k, k < zfN ci → (zfT ci k).1 = zcn ci := by
  intro ci hci k hk
  have h := List.all_eq_true.mp (List.all_eq_true.mp zty_all ci (List.mem_range.mpr hci)) k (List.mem_range.mpr hk)
  rw [Bool.and_eq_true, decide_eq_true_eq, decide_eq_true_eq] at h
  exact h.2
theorem znm_all : (List.range zNc).all (fun ci => (List.range (zfN ci)).all (fun a => (List.range (zfN ci)).all (fun b => decide (a = b) || !decide ((zfT ci a).2.1 = (zfT ci b).2.1)))) = true := by decide +kernel
theorem znm_ok : ∀ ci, ci < zNc → ∀ a, a < zfN ci → ∀ b, b < zfN ci → a ≠ b → (zfT ci a).2.1 ≠ (zfT ci b).2.1 := by
  intro ci hci a ha b hb hne
  have h := List.all_eq_true.mp (List.all_eq_true.mp (List.all_eq_true.mp znm_all ci (List.mem_range.mpr hci)) a (List.mem_range.mpr ha)) b (List.mem_range.mpr hb)
  simpa [hne] using h
def zftok (t : FieldType) : Bool := match t with
  | .int => true | .boolean => true | .long => true | .object _ => true | .array _ => true | _ => false
theorem zft_all : (List.range zNc).all (fun ci => (List.range (zfN ci)).all (fun k => zftok (zft ci k))) = true := by decide +kernel
theorem zft_ok : ∀ ci, ci < zNc → ∀ k, k < zfN ci → zftok (zft ci k) = true := by
  intro ci hci k hk
  exact List.all_eq_true.mp (List.all_eq_true.mp zft_all ci (List.mem_range.mpr hci)) k (List.mem_range.mpr hk)
theorem zkl_all : (List.range 10).all (fun oc => (zklL.getD oc []).all (fun q => zat0 q.2.2 (.constant (zcn oc) q.1 q.2.1))) = true := by decide +kernel
theorem zkl_ok {oc k : Nat} {v : Int32} (h : zkl oc k = some v) : Cond.constant (zcn oc) k v ∈ zws := by
  obtain ⟨q, hq, hk, e⟩ := zfind h
  have hc := zall zkl_all (by decide) hq
  cases e
  have hk' : q.1 = k := by simpa using hk
  subst hk'
  exact zin hc
theorem zkL_all : (List.range 10).all (fun oc => (zkLL.getD oc []).all (fun q => zat0 q.2.2 (.constantLong (zcn oc) q.1 q.2.1))) = true := by decide +kernel
theorem zkL_ok {oc k : Nat} {v : Int64} (h : zkL oc k = some v) : Cond.constantLong (zcn oc) k v ∈ zws := by
  obtain ⟨q, hq, hk, e⟩ := zfind h
  have hc := zall zkL_all (by decide) hq
  cases e
  have hk' : q.1 = k := by simpa using hk
  subst hk'
  exact zin hc
/-- instantiable, initialised: of an own class -/
def zinsP : List (Nat × Nat) := [(48, 32), (56, 33), (76, 34), (84, 35), (101, 36), (168, 38), (190, 39), (600, 40)]
theorem zins_all : (List.range zNc).all (fun ci => zat0 (zinsP.getD ci (0, 0)).1 (.instantiable (zcn ci) (zfN ci)) && zat0 (zinsP.getD ci (0, 0)).2 (.initialized (zcn ci))) = true := by decide +kernel
def zclC (oc : Nat) (q : Nat × (Nat ⊕ Nat) × Nat) : Bool := match q.2.1 with
  | .inl ci => decide (ci < zNc) && zat0 q.2.2 (.classLink (zcn oc) q.1 (zcn ci))
  | .inr x => zat0 q.2.2 (.classLink (zcn oc) q.1 (zxn x))
theorem zcl_all : (List.range 10).all (fun oc => (zclL.getD oc []).all (zclC oc)) = true := by decide +kernel
theorem zcl_ok {oc k ci : Nat} (h : zcl oc k = some (.inl ci)) : ci < zNc ∧ Cond.classLink (zcn oc) k (zcn ci) ∈ zws ∧ Cond.instantiable (zcn ci) (zfN ci) ∈ zws ∧ Cond.initialized (zcn ci) ∈ zws := by
  obtain ⟨q, hq, hk, e⟩ := zfind h
  have hc := zall zcl_all (by decide) hq
  have hk' : q.1 = k := by simpa using hk
  subst hk'
  unfold zclC at hc
  rw [e] at hc
  rw [Bool.and_eq_true, decide_eq_true_eq] at hc
  have h2 := List.all_eq_true.mp zins_all ci (List.mem_range.mpr hc.1)
  rw [Bool.and_eq_true] at h2
  exact ⟨hc.1, zin hc.2, zin h2.1, zin h2.2⟩
theorem zclx_ok {oc k x : Nat} (h : zcl oc k = some (.inr x)) : Cond.classLink (zcn oc) k (zxn x) ∈ zws := by
  obtain ⟨q, hq, hk, e⟩ := zfind h
  have hc := zall zcl_all (by decide) hq
  have hk' : q.1 = k := by simpa using hk
  subst hk'
  unfold zclC at hc
  rw [e] at hc
  exact zin hc
theorem zal_all : (List.range 10).all (fun oc => (zalL.getD oc []).all (fun q => zat0 q.2.2.1 (.classLink (zcn oc) q.1 q.2.1) && zat0 q.2.2.2 (.arrayOver (.object q.2.1)))) = true := by decide +kernel
theorem zal_ok {oc k : Nat} {A : String} (h : zal oc k = some A) : Cond.classLink (zcn oc) k A ∈ zws ∧ Cond.arrayOver (.object A) ∈ zws := by
  obtain ⟨q, hq, hk, e⟩ := zfind h
  have hc := zall zal_all (by decide) hq
  cases e
  have hk' : q.1 = k := by simpa using hk
  subst hk'
  rw [Bool.and_eq_true] at hc
  exact ⟨zin hc.1, zin hc.2⟩
theorem zany {l : List (Nat × Nat × Nat)} {C : Nat × Nat × Nat → Bool} (h : l.all C = true) {oc k : Nat} (ha : l.any (fun q => q.1 == oc && q.2.1 == k) = true) : ∃ p, C (oc, k, p) = true := by
  obtain ⟨q, hq, e⟩ := List.any_eq_true.mp ha
  obtain ⟨a, b, p⟩ := q
  simp only [Bool.and_eq_true, beq_iff_eq] at e
  obtain ⟨rfl, rfl⟩ := e
  exact ⟨p, List.all_eq_true.mp h _ hq⟩
theorem zmu_all : zmuL.all (fun q => zat0 q.2.2 (.classLink (zcn q.1) q.2.1 "[[I")) = true := by decide +kernel
theorem zmu_ok {oc k : Nat} (h : zmu oc k = true) : Cond.classLink (zcn oc) k "[[I" ∈ zws := by
  obtain ⟨p, hp⟩ := zany zmu_all h
  exact zin hp
theorem zarr_all : ((zat0 90 (.arrayOver (.array .int)) && zat0 73 (.arrayClass .int)) && (zat0 742 (.arrayClass .boolean) && zat0 901 (.arrayClass .long))) = true := by decide +kernel
theorem zarr_ok : (Cond.arrayOver (.array .int) ∈ zws ∧ Cond.arrayClass .int ∈ zws) ∧ (Cond.arrayClass .boolean ∈ zws ∧ Cond.arrayClass .long ∈ zws) := by
  have h := zarr_all
  rw [Bool.and_eq_true, Bool.and_eq_true, Bool.and_eq_true] at h
  exact ⟨⟨zin h.1.1, zin h.1.2⟩, zin h.2.1, zin h.2.2⟩
theorem zob_all : (zobL.all (fun q => zat0 q.2.2 (.methodLink (zcn q.1) q.2.1 objectInit)) && (zat0 53 (.instanceMethod objectInit) && zat0 54 (.code objectInit ⟨#[0xb1]⟩ 1 none))) = true := by decide +kernel
theorem zob_ok {oc k : Nat} (h : zob oc k = true) : Cond.methodLink (zcn oc) k objectInit ∈ zws ∧ Cond.instanceMethod objectInit ∈ zws ∧ Cond.code objectInit ⟨#[0xb1]⟩ 1 none ∈ zws := by
  have ha := zob_all
  rw [Bool.and_eq_true, Bool.and_eq_true] at ha
  obtain ⟨p, hp⟩ := zany ha.1 h
  exact ⟨zin hp, zin ha.2.1, zin ha.2.2⟩
theorem zac_all : (zacL.all (fun q => zat0 q.2.2 (.methodLink (zcn q.1) q.2.1 arraycopyName)) && ((zat0 147 (.native arraycopyName) && zat0 146 (.static arraycopyName)) && zat0 37 (.initialized "java/lang/System"))) = true := by decide +kernel
theorem zac_ok {oc k : Nat} (h : zac oc k = true) : Cond.methodLink (zcn oc) k arraycopyName ∈ zws ∧ Cond.native arraycopyName ∈ zws ∧ Cond.static arraycopyName ∈ zws ∧ Cond.initialized "java/lang/System" ∈ zws := by
  have ha := zac_all
  rw [Bool.and_eq_true, Bool.and_eq_true, Bool.and_eq_true] at ha
  obtain ⟨p, hp⟩ := zany ha.1 h
  exact ⟨zin hp, zin ha.2.1.1, zin ha.2.1.2, zin ha.2.2⟩
def zmlC (oc : Nat) (q : Nat × Nat × Nat × Nat) : Bool :=
  decide (q.2.1 < zNm) && (if q.2.2.1 = 0 then zat0 q.2.2.2 (.methodLink (zcn oc) q.1 (zy q.2.1)) else zat0 q.2.2.2 (.methodLinkNest (zcn oc) q.1 (zy q.2.1) "ReleaseLeaves"))
theorem zml_all : (List.range 10).all (fun oc => (zmlL.getD oc []).all (zmlC oc)) = true := by decide +kernel
theorem zml_ok {oc k mj : Nat} (h : zml oc k = some mj) : mj < zNm ∧ (Cond.methodLink (zcn oc) k (zy mj) ∈ zws ∨ ∃ host, Cond.methodLinkNest (zcn oc) k (zy mj) host ∈ zws) := by
  obtain ⟨q, hq, hk, e⟩ := zfind h
  have hc := zall zml_all (by decide) hq
  cases e
  have hk' : q.1 = k := by simpa using hk
  subst hk'
  unfold zmlC at hc
  rw [Bool.and_eq_true, decide_eq_true_eq] at hc
  refine ⟨hc.1, ?_⟩
  have h2 := hc.2
  split at h2
  · exact Or.inl (zin h2)
  · exact Or.inr ⟨_, zin h2⟩
/-- the words of a method (not of the law itself), but for its code -/
def zmC (mj : Nat) : Bool :=
  zat0 (zmP.getD mj (0, 0, 0, 0)).2.1 (.initialized (zy mj).cls) &&
  ((if zat mj = true then zat0 (zmP.getD mj (0, 0, 0, 0)).2.2.1 (.static (zy mj)) else (zat0 (zmP.getD mj (0, 0, 0, 0)).2.2.1 (.instanceMethod (zy mj)) && (decide ((zy mj).name = "<init>") || zat0 (zmP.getD mj (0, 0, 0, 0)).2.2.2 (.selects (zy mj).cls (zy mj) (zy mj))))) &&
   (decide ((zy mj).cls = zcn (zoc mj)) && decide ((parseMethodDescriptor (zy mj).desc).map (fun d => d.parameters.length) = some (znp mj)) && Jvm.plainName (zy mj).cls && decide ((zy mj).cls ≠ "java/lang/invoke/MethodHandle" ∧ (zy mj).cls ≠ "java/lang/invoke/VarHandle")))
theorem zm_all : ((List.range zNm).drop 1).all zmC = true := by decide +kernel
theorem zm_ok {mj : Nat} (h0 : mj ≠ 0) (h : mj < zNm) : zmC mj = true := by
  refine List.all_eq_true.mp zm_all mj ?_
  obtain ⟨k, rfl⟩ : ∃ k, mj = k + 1 := ⟨mj - 1, by omega⟩
  refine List.mem_of_getElem? (i := k) ?_
  rw [List.getElem?_drop, List.getElem?_range (by omega)]
  congr 1; omega
theorem zmn_all : (zmnL.all (fun q => zat0 q.2.2 (.methodLink (zcn q.1) q.2.1 Lib.Math.min.name)) && ((zat0 262 (.static Lib.Math.min.name) && zat0 46 (.initialized "java/lang/Math")) && zat0 263 (.code Lib.Math.min.name Lib.Math.min.code 2 (some .int)))) = true := by decide +kernel
theorem zmn_ok {oc k : Nat} (h : zmn oc k = true) : Cond.methodLink (zcn oc) k Lib.Math.min.name ∈ zws ∧ Cond.static Lib.Math.min.name ∈ zws ∧ Cond.initialized "java/lang/Math" ∈ zws ∧ Cond.code Lib.Math.min.name Lib.Math.min.code 2 (some .int) ∈ zws := by
  have ha := zmn_all
  rw [Bool.and_eq_true, Bool.and_eq_true, Bool.and_eq_true] at ha
  obtain ⟨p, hp⟩ := zany ha.1 h
  exact ⟨zin hp, zin ha.2.1.1, zin ha.2.1.2, zin ha.2.2⟩
end
section
/-! the codes of the methods, by program -/
theorem zco_1 : lw_tbl[51]? = some (Cond.code (zy 1) (zcd 1) (zmx 1) (zrt 1)) := by decide +kernel
theorem zco_2 : lw_tbl[59]? = some (Cond.code (zy 2) (zcd 2) (zmx 2) (zrt 2)) := by decide +kernel
theorem zco_3 : lw_tbl[79]? = some (Cond.code (zy 3) (zcd 3) (zmx 3) (zrt 3)) := by decide +kernel
theorem zco_4 : lw_tbl[87]? = some (Cond.code (zy 4) (zcd 4) (zmx 4) (zrt 4)) := by decide +kernel
theorem zco_5 : lw_tbl[104]? = some (Cond.code (zy 5) (zcd 5) (zmx 5) (zrt 5)) := by decide +kernel
theorem zco_6 : lw_tbl[142]? = some (Cond.code (zy 6) (zcd 6) (zmx 6) (zrt 6)) := by decide +kernel
theorem zco_7 : lw_tbl[151]? = some (Cond.code (zy 7) (zcd 7) (zmx 7) (zrt 7)) := by decide +kernel
theorem zco_8 : lw_tbl[155]? = some (Cond.code (zy 8) (zcd 8) (zmx 8) (zrt 8)) := by decide +kernel
theorem zco_9 : lw_tbl[159]? = some (Cond.code (zy 9) (zcd 9) (zmx 9) (zrt 9)) := by decide +kernel
theorem zco_10 : lw_tbl[162]? = some (Cond.code (zy 10) (zcd 10) (zmx 10) (zrt 10)) := by decide +kernel
theorem zco_11 : lw_tbl[166]? = some (Cond.code (zy 11) (zcd 11) (zmx 11) (zrt 11)) := by decide +kernel
theorem zco_12 : lw_tbl[171]? = some (Cond.code (zy 12) (zcd 12) (zmx 12) (zrt 12)) := by decide +kernel
theorem zco_13 : lw_tbl[193]? = some (Cond.code (zy 13) (zcd 13) (zmx 13) (zrt 13)) := by decide +kernel
theorem zco_14 : lw_tbl[236]? = some (Cond.code (zy 14) (zcd 14) (zmx 14) (zrt 14)) := by decide +kernel
theorem zco_15 : lw_tbl[240]? = some (Cond.code (zy 15) (zcd 15) (zmx 15) (zrt 15)) := by decide +kernel
theorem zco_16 : lw_tbl[244]? = some (Cond.code (zy 16) (zcd 16) (zmx 16) (zrt 16)) := by decide +kernel
theorem zco_17 : lw_tbl[249]? = some (Cond.code (zy 17) (zcd 17) (zmx 17) (zrt 17)) := by decide +kernel
theorem zco_18 : lw_tbl[254]? = some (Cond.code (zy 18) (zcd 18) (zmx 18) (zrt 18)) := by decide +kernel
theorem zco_19 : lw_tbl[260]? = some (Cond.code (zy 19) (zcd 19) (zmx 19) (zrt 19)) := by decide +kernel
theorem zco_20 : lw_tbl[268]? = some (Cond.code (zy 20) (zcd 20) (zmx 20) (zrt 20)) := by decide +kernel
theorem zco_21 : lw_tbl[273]? = some (Cond.code (zy 21) (zcd 21) (zmx 21) (zrt 21)) := by decide +kernel
theorem zco_22 : lw_tbl[279]? = some (Cond.code (zy 22) (zcd 22) (zmx 22) (zrt 22)) := by decide +kernel
theorem zco_23 : lw_tbl[283]? = some (Cond.code (zy 23) (zcd 23) (zmx 23) (zrt 23)) := by decide +kernel
theorem zco_24 : lw_tbl[286]? = some (Cond.code (zy 24) (zcd 24) (zmx 24) (zrt 24)) := by decide +kernel
theorem zco_25 : lw_tbl[290]? = some (Cond.code (zy 25) (zcd 25) (zmx 25) (zrt 25)) := by decide +kernel
theorem zco_26 : lw_tbl[294]? = some (Cond.code (zy 26) (zcd 26) (zmx 26) (zrt 26)) := by decide +kernel
theorem zco_27 : lw_tbl[298]? = some (Cond.code (zy 27) (zcd 27) (zmx 27) (zrt 27)) := by decide +kernel
theorem zco_28 : lw_tbl[302]? = some (Cond.code (zy 28) (zcd 28) (zmx 28) (zrt 28)) := by decide +kernel
theorem zco_29 : lw_tbl[306]? = some (Cond.code (zy 29) (zcd 29) (zmx 29) (zrt 29)) := by decide +kernel
theorem zco_30 : lw_tbl[310]? = some (Cond.code (zy 30) (zcd 30) (zmx 30) (zrt 30)) := by decide +kernel
theorem zco_31 : lw_tbl[314]? = some (Cond.code (zy 31) (zcd 31) (zmx 31) (zrt 31)) := by decide +kernel
theorem zco_32 : lw_tbl[318]? = some (Cond.code (zy 32) (zcd 32) (zmx 32) (zrt 32)) := by decide +kernel
theorem zco_33 : lw_tbl[326]? = some (Cond.code (zy 33) (zcd 33) (zmx 33) (zrt 33)) := by decide +kernel
theorem zco_34 : lw_tbl[330]? = some (Cond.code (zy 34) (zcd 34) (zmx 34) (zrt 34)) := by decide +kernel
theorem zco_35 : lw_tbl[334]? = some (Cond.code (zy 35) (zcd 35) (zmx 35) (zrt 35)) := by decide +kernel
theorem zco_36 : lw_tbl[338]? = some (Cond.code (zy 36) (zcd 36) (zmx 36) (zrt 36)) := by decide +kernel
theorem zco_37 : lw_tbl[342]? = some (Cond.code (zy 37) (zcd 37) (zmx 37) (zrt 37)) := by decide +kernel
theorem zco_38 : lw_tbl[345]? = some (Cond.codeWith (zy 38) (zcd 38) (zmx 38) (zrt 38) (zhd 38)) := by decide +kernel
theorem zco_39 : lw_tbl[350]? = some (Cond.code (zy 39) (zcd 39) (zmx 39) (zrt 39)) := by decide +kernel
theorem zco_40 : lw_tbl[422]? = some (Cond.code (zy 40) (zcd 40) (zmx 40) (zrt 40)) := by decide +kernel
theorem zco_41 : lw_tbl[426]? = some (Cond.code (zy 41) (zcd 41) (zmx 41) (zrt 41)) := by decide +kernel
theorem zco_42 : lw_tbl[429]? = some (Cond.codeWith (zy 42) (zcd 42) (zmx 42) (zrt 42) (zhd 42)) := by decide +kernel
theorem zco_43 : lw_tbl[434]? = some (Cond.code (zy 43) (zcd 43) (zmx 43) (zrt 43)) := by decide +kernel
theorem zco_44 : lw_tbl[438]? = some (Cond.code (zy 44) (zcd 44) (zmx 44) (zrt 44)) := by decide +kernel
theorem zco_45 : lw_tbl[459]? = some (Cond.code (zy 45) (zcd 45) (zmx 45) (zrt 45)) := by decide +kernel
theorem zco_46 : lw_tbl[462]? = some (Cond.codeWith (zy 46) (zcd 46) (zmx 46) (zrt 46) (zhd 46)) := by decide +kernel
theorem zco_47 : lw_tbl[466]? = some (Cond.code (zy 47) (zcd 47) (zmx 47) (zrt 47)) := by decide +kernel
theorem zco_48 : lw_tbl[470]? = some (Cond.code (zy 48) (zcd 48) (zmx 48) (zrt 48)) := by decide +kernel
theorem zco_49 : lw_tbl[474]? = some (Cond.code (zy 49) (zcd 49) (zmx 49) (zrt 49)) := by decide +kernel
theorem zco_50 : lw_tbl[478]? = some (Cond.codeWith (zy 50) (zcd 50) (zmx 50) (zrt 50) (zhd 50)) := by decide +kernel
theorem zco_51 : lw_tbl[482]? = some (Cond.code (zy 51) (zcd 51) (zmx 51) (zrt 51)) := by decide +kernel
theorem zco_52 : lw_tbl[486]? = some (Cond.code (zy 52) (zcd 52) (zmx 52) (zrt 52)) := by decide +kernel
theorem zco_53 : lw_tbl[492]? = some (Cond.code (zy 53) (zcd 53) (zmx 53) (zrt 53)) := by decide +kernel
theorem zco_54 : lw_tbl[496]? = some (Cond.code (zy 54) (zcd 54) (zmx 54) (zrt 54)) := by decide +kernel
theorem zco_55 : lw_tbl[500]? = some (Cond.code (zy 55) (zcd 55) (zmx 55) (zrt 55)) := by decide +kernel
theorem zco_56 : lw_tbl[503]? = some (Cond.code (zy 56) (zcd 56) (zmx 56) (zrt 56)) := by decide +kernel
theorem zco_57 : lw_tbl[507]? = some (Cond.code (zy 57) (zcd 57) (zmx 57) (zrt 57)) := by decide +kernel
theorem zco_58 : lw_tbl[510]? = some (Cond.codeWith (zy 58) (zcd 58) (zmx 58) (zrt 58) (zhd 58)) := by decide +kernel
theorem zco_59 : lw_tbl[514]? = some (Cond.code (zy 59) (zcd 59) (zmx 59) (zrt 59)) := by decide +kernel
theorem zco_60 : lw_tbl[520]? = some (Cond.code (zy 60) (zcd 60) (zmx 60) (zrt 60)) := by decide +kernel
theorem zco_61 : lw_tbl[524]? = some (Cond.code (zy 61) (zcd 61) (zmx 61) (zrt 61)) := by decide +kernel
theorem zco_62 : lw_tbl[527]? = some (Cond.codeWith (zy 62) (zcd 62) (zmx 62) (zrt 62) (zhd 62)) := by decide +kernel
theorem zco_63 : lw_tbl[531]? = some (Cond.code (zy 63) (zcd 63) (zmx 63) (zrt 63)) := by decide +kernel
theorem zco_64 : lw_tbl[534]? = some (Cond.codeWith (zy 64) (zcd 64) (zmx 64) (zrt 64) (zhd 64)) := by decide +kernel
theorem zco_65 : lw_tbl[538]? = some (Cond.code (zy 65) (zcd 65) (zmx 65) (zrt 65)) := by decide +kernel
theorem zco_66 : lw_tbl[541]? = some (Cond.codeWith (zy 66) (zcd 66) (zmx 66) (zrt 66) (zhd 66)) := by decide +kernel
theorem zco_67 : lw_tbl[545]? = some (Cond.code (zy 67) (zcd 67) (zmx 67) (zrt 67)) := by decide +kernel
theorem zco_68 : lw_tbl[551]? = some (Cond.code (zy 68) (zcd 68) (zmx 68) (zrt 68)) := by decide +kernel
theorem zco_69 : lw_tbl[555]? = some (Cond.code (zy 69) (zcd 69) (zmx 69) (zrt 69)) := by decide +kernel
theorem zco_70 : lw_tbl[558]? = some (Cond.codeWith (zy 70) (zcd 70) (zmx 70) (zrt 70) (zhd 70)) := by decide +kernel
theorem zco_71 : lw_tbl[562]? = some (Cond.code (zy 71) (zcd 71) (zmx 71) (zrt 71)) := by decide +kernel
theorem zco_72 : lw_tbl[566]? = some (Cond.codeWith (zy 72) (zcd 72) (zmx 72) (zrt 72) (zhd 72)) := by decide +kernel
theorem zco_73 : lw_tbl[570]? = some (Cond.code (zy 73) (zcd 73) (zmx 73) (zrt 73)) := by decide +kernel
theorem zco_74 : lw_tbl[575]? = some (Cond.codeWith (zy 74) (zcd 74) (zmx 74) (zrt 74) (zhd 74)) := by decide +kernel
theorem zco_75 : lw_tbl[579]? = some (Cond.code (zy 75) (zcd 75) (zmx 75) (zrt 75)) := by decide +kernel
theorem zco_76 : lw_tbl[585]? = some (Cond.code (zy 76) (zcd 76) (zmx 76) (zrt 76)) := by decide +kernel
theorem zco_77 : lw_tbl[588]? = some (Cond.codeWith (zy 77) (zcd 77) (zmx 77) (zrt 77) (zhd 77)) := by decide +kernel
theorem zco_78 : lw_tbl[592]? = some (Cond.code (zy 78) (zcd 78) (zmx 78) (zrt 78)) := by decide +kernel
theorem zco_79 : lw_tbl[597]? = some (Cond.code (zy 79) (zcd 79) (zmx 79) (zrt 79)) := by decide +kernel
theorem zco_80 : lw_tbl[603]? = some (Cond.code (zy 80) (zcd 80) (zmx 80) (zrt 80)) := by decide +kernel
theorem zco_81 : lw_tbl[612]? = some (Cond.code (zy 81) (zcd 81) (zmx 81) (zrt 81)) := by decide +kernel
theorem zco_82 : lw_tbl[616]? = some (Cond.code (zy 82) (zcd 82) (zmx 82) (zrt 82)) := by decide +kernel
theorem zco_83 : lw_tbl[746]? = some (Cond.code (zy 83) (zcd 83) (zmx 83) (zrt 83)) := by decide +kernel
theorem zco_84 : lw_tbl[750]? = some (Cond.code (zy 84) (zcd 84) (zmx 84) (zrt 84)) := by decide +kernel
theorem zco_85 : lw_tbl[755]? = some (Cond.code (zy 85) (zcd 85) (zmx 85) (zrt 85)) := by decide +kernel
theorem zco_86 : lw_tbl[759]? = some (Cond.code (zy 86) (zcd 86) (zmx 86) (zrt 86)) := by decide +kernel
theorem zco_87 : lw_tbl[762]? = some (Cond.code (zy 87) (zcd 87) (zmx 87) (zrt 87)) := by decide +kernel
theorem zco_88 : lw_tbl[766]? = some (Cond.code (zy 88) (zcd 88) (zmx 88) (zrt 88)) := by decide +kernel
theorem zco_89 : lw_tbl[770]? = some (Cond.code (zy 89) (zcd 89) (zmx 89) (zrt 89)) := by decide +kernel
theorem zco_90 : lw_tbl[774]? = some (Cond.code (zy 90) (zcd 90) (zmx 90) (zrt 90)) := by decide +kernel
theorem zco_91 : lw_tbl[778]? = some (Cond.code (zy 91) (zcd 91) (zmx 91) (zrt 91)) := by decide +kernel
theorem zco_92 : lw_tbl[782]? = some (Cond.code (zy 92) (zcd 92) (zmx 92) (zrt 92)) := by decide +kernel
theorem zco_93 : lw_tbl[794]? = some (Cond.code (zy 93) (zcd 93) (zmx 93) (zrt 93)) := by decide +kernel
theorem zco_94 : lw_tbl[797]? = some (Cond.code (zy 94) (zcd 94) (zmx 94) (zrt 94)) := by decide +kernel
theorem zco_95 : lw_tbl[801]? = some (Cond.code (zy 95) (zcd 95) (zmx 95) (zrt 95)) := by decide +kernel
theorem zco_96 : lw_tbl[805]? = some (Cond.code (zy 96) (zcd 96) (zmx 96) (zrt 96)) := by decide +kernel
theorem zco_97 : lw_tbl[809]? = some (Cond.code (zy 97) (zcd 97) (zmx 97) (zrt 97)) := by decide +kernel
theorem zco_98 : lw_tbl[813]? = some (Cond.code (zy 98) (zcd 98) (zmx 98) (zrt 98)) := by decide +kernel
theorem zco_99 : lw_tbl[817]? = some (Cond.code (zy 99) (zcd 99) (zmx 99) (zrt 99)) := by decide +kernel
theorem zco_100 : lw_tbl[821]? = some (Cond.code (zy 100) (zcd 100) (zmx 100) (zrt 100)) := by decide +kernel
theorem zco_101 : lw_tbl[825]? = some (Cond.code (zy 101) (zcd 101) (zmx 101) (zrt 101)) := by decide +kernel
theorem zco_102 : lw_tbl[829]? = some (Cond.code (zy 102) (zcd 102) (zmx 102) (zrt 102)) := by decide +kernel
theorem zco_103 : lw_tbl[833]? = some (Cond.code (zy 103) (zcd 103) (zmx 103) (zrt 103)) := by decide +kernel
theorem zco_104 : lw_tbl[837]? = some (Cond.code (zy 104) (zcd 104) (zmx 104) (zrt 104)) := by decide +kernel
theorem zco_105 : lw_tbl[840]? = some (Cond.code (zy 105) (zcd 105) (zmx 105) (zrt 105)) := by decide +kernel
theorem zco_106 : lw_tbl[844]? = some (Cond.code (zy 106) (zcd 106) (zmx 106) (zrt 106)) := by decide +kernel
theorem zco_107 : lw_tbl[848]? = some (Cond.code (zy 107) (zcd 107) (zmx 107) (zrt 107)) := by decide +kernel
theorem zco_108 : lw_tbl[852]? = some (Cond.code (zy 108) (zcd 108) (zmx 108) (zrt 108)) := by decide +kernel
theorem zco_109 : lw_tbl[856]? = some (Cond.code (zy 109) (zcd 109) (zmx 109) (zrt 109)) := by decide +kernel
theorem zco_110 : lw_tbl[860]? = some (Cond.code (zy 110) (zcd 110) (zmx 110) (zrt 110)) := by decide +kernel
theorem zco_111 : lw_tbl[864]? = some (Cond.code (zy 111) (zcd 111) (zmx 111) (zrt 111)) := by decide +kernel
theorem zco_112 : lw_tbl[868]? = some (Cond.code (zy 112) (zcd 112) (zmx 112) (zrt 112)) := by decide +kernel
theorem zco_113 : lw_tbl[872]? = some (Cond.code (zy 113) (zcd 113) (zmx 113) (zrt 113)) := by decide +kernel
theorem zco_114 : lw_tbl[876]? = some (Cond.code (zy 114) (zcd 114) (zmx 114) (zrt 114)) := by decide +kernel
theorem zco_115 : lw_tbl[880]? = some (Cond.code (zy 115) (zcd 115) (zmx 115) (zrt 115)) := by decide +kernel
theorem zco_116 : lw_tbl[884]? = some (Cond.code (zy 116) (zcd 116) (zmx 116) (zrt 116)) := by decide +kernel
theorem zco_117 : lw_tbl[888]? = some (Cond.code (zy 117) (zcd 117) (zmx 117) (zrt 117)) := by decide +kernel
theorem zco_118 : lw_tbl[892]? = some (Cond.code (zy 118) (zcd 118) (zmx 118) (zrt 118)) := by decide +kernel
theorem zco_119 : lw_tbl[896]? = some (Cond.code (zy 119) (zcd 119) (zmx 119) (zrt 119)) := by decide +kernel
theorem zco_120 : lw_tbl[900]? = some (Cond.code (zy 120) (zcd 120) (zmx 120) (zrt 120)) := by decide +kernel
end
