section
-- ===== PART A: goes FIRST, ahead of the names: the tables' words, and 'selects' of the private methods out of them =====
/-- a private method of a class that the tables say can be made, by its rows of tables_1 -/
def lw_okq (q : MethodName × Nat) : Prop := (q.1.cls ≠ "java/lang/invoke/MethodHandle" ∧ q.1.cls ≠ "java/lang/invoke/VarHandle") ∧ Cond.instantiable q.1.cls q.2 ∈ tables_1 ∧ Cond.privateMethod q.1 ∈ tables_1 ∧ Cond.instanceMethod q.1 ∈ tables_1
theorem lw_p0 : lw_okq (⟨"PagedTree$Way", "add", "(II)V"⟩, 3) := ⟨⟨by decide +kernel, by decide +kernel⟩, List.mem_of_getElem? (i := 85) (by decide +kernel), List.mem_of_getElem? (i := 174) (by decide +kernel), List.mem_of_getElem? (i := 175) (by decide +kernel)⟩
theorem lw_p1 : lw_okq (⟨"PagedTree$Disk", "cellOf", "(II)I"⟩, 5) := ⟨⟨by decide +kernel, by decide +kernel⟩, List.mem_of_getElem? (i := 26) (by decide +kernel), List.mem_of_getElem? (i := 202) (by decide +kernel), List.mem_of_getElem? (i := 203) (by decide +kernel)⟩
theorem lw_p2 : lw_okq (⟨"PagedTree", "endCursor", "()V"⟩, 10) := ⟨⟨by decide +kernel, by decide +kernel⟩, List.mem_of_getElem? (i := 18) (by decide +kernel), List.mem_of_getElem? (i := 219) (by decide +kernel), List.mem_of_getElem? (i := 220) (by decide +kernel)⟩
theorem lw_p3 : lw_okq (⟨"PagedTree", "touchWay", "()V"⟩, 10) := ⟨⟨by decide +kernel, by decide +kernel⟩, List.mem_of_getElem? (i := 18) (by decide +kernel), List.mem_of_getElem? (i := 223) (by decide +kernel), List.mem_of_getElem? (i := 224) (by decide +kernel)⟩
theorem lw_p4 : lw_okq (⟨"PagedTree$Frames", "vacateFrame", "()I"⟩, 8) := ⟨⟨by decide +kernel, by decide +kernel⟩, List.mem_of_getElem? (i := 52) (by decide +kernel), List.mem_of_getElem? (i := 240) (by decide +kernel), List.mem_of_getElem? (i := 241) (by decide +kernel)⟩
theorem lw_p5 : lw_okq (⟨"PagedTree$Frames", "givesWay", "(I)Z"⟩, 8) := ⟨⟨by decide +kernel, by decide +kernel⟩, List.mem_of_getElem? (i := 52) (by decide +kernel), List.mem_of_getElem? (i := 247) (by decide +kernel), List.mem_of_getElem? (i := 248) (by decide +kernel)⟩
theorem lw_p6 : lw_okq (⟨"PagedTree$Frames", "clear", "(I)V"⟩, 8) := ⟨⟨by decide +kernel, by decide +kernel⟩, List.mem_of_getElem? (i := 52) (by decide +kernel), List.mem_of_getElem? (i := 251) (by decide +kernel), List.mem_of_getElem? (i := 252) (by decide +kernel)⟩
theorem lw_p7 : lw_okq (⟨"PagedTree", "mendUpwards", "()V"⟩, 10) := ⟨⟨by decide +kernel, by decide +kernel⟩, List.mem_of_getElem? (i := 18) (by decide +kernel), List.mem_of_getElem? (i := 272) (by decide +kernel), List.mem_of_getElem? (i := 273) (by decide +kernel)⟩
theorem lw_p8 : lw_okq (⟨"PagedTree", "mend", "(I)V"⟩, 10) := ⟨⟨by decide +kernel, by decide +kernel⟩, List.mem_of_getElem? (i := 18) (by decide +kernel), List.mem_of_getElem? (i := 277) (by decide +kernel), List.mem_of_getElem? (i := 278) (by decide +kernel)⟩
theorem lw_p9 : lw_okq (⟨"PagedTree", "giveFromLeft", "(IIII)V"⟩, 10) := ⟨⟨by decide +kernel, by decide +kernel⟩, List.mem_of_getElem? (i := 18) (by decide +kernel), List.mem_of_getElem? (i := 286) (by decide +kernel), List.mem_of_getElem? (i := 287) (by decide +kernel)⟩
theorem lw_p10 : lw_okq (⟨"PagedTree", "soilThree", "(III)V"⟩, 10) := ⟨⟨by decide +kernel, by decide +kernel⟩, List.mem_of_getElem? (i := 18) (by decide +kernel), List.mem_of_getElem? (i := 300) (by decide +kernel), List.mem_of_getElem? (i := 301) (by decide +kernel)⟩
theorem lw_p11 : lw_okq (⟨"PagedTree", "giveFromRight", "(IIII)V"⟩, 10) := ⟨⟨by decide +kernel, by decide +kernel⟩, List.mem_of_getElem? (i := 18) (by decide +kernel), List.mem_of_getElem? (i := 304) (by decide +kernel), List.mem_of_getElem? (i := 305) (by decide +kernel)⟩
theorem lw_p12 : lw_okq (⟨"PagedTree", "join", "(IIII)V"⟩, 10) := ⟨⟨by decide +kernel, by decide +kernel⟩, List.mem_of_getElem? (i := 18) (by decide +kernel), List.mem_of_getElem? (i := 308) (by decide +kernel), List.mem_of_getElem? (i := 309) (by decide +kernel)⟩
theorem lw_p13 : lw_okq (⟨"PagedTree", "releasePage", "(I)V"⟩, 10) := ⟨⟨by decide +kernel, by decide +kernel⟩, List.mem_of_getElem? (i := 18) (by decide +kernel), List.mem_of_getElem? (i := 324) (by decide +kernel), List.mem_of_getElem? (i := 325) (by decide +kernel)⟩
theorem lw_p14 : lw_okq (⟨"PagedTree", "lowerRoot", "()V"⟩, 10) := ⟨⟨by decide +kernel, by decide +kernel⟩, List.mem_of_getElem? (i := 18) (by decide +kernel), List.mem_of_getElem? (i := 332) (by decide +kernel), List.mem_of_getElem? (i := 333) (by decide +kernel)⟩
theorem lw_p15 : lw_okq (⟨"PagedTree", "moveCursor", "(II)Z"⟩, 10) := ⟨⟨by decide +kernel, by decide +kernel⟩, List.mem_of_getElem? (i := 18) (by decide +kernel), List.mem_of_getElem? (i := 344) (by decide +kernel), List.mem_of_getElem? (i := 345) (by decide +kernel)⟩
def lw_privs_1 : List (MethodName × Nat) := [(⟨"PagedTree$Way", "add", "(II)V"⟩, 3), (⟨"PagedTree$Disk", "cellOf", "(II)I"⟩, 5), (⟨"PagedTree", "endCursor", "()V"⟩, 10), (⟨"PagedTree", "touchWay", "()V"⟩, 10), (⟨"PagedTree$Frames", "vacateFrame", "()I"⟩, 8), (⟨"PagedTree$Frames", "givesWay", "(I)Z"⟩, 8), (⟨"PagedTree$Frames", "clear", "(I)V"⟩, 8), (⟨"PagedTree", "mendUpwards", "()V"⟩, 10), (⟨"PagedTree", "mend", "(I)V"⟩, 10), (⟨"PagedTree", "giveFromLeft", "(IIII)V"⟩, 10), (⟨"PagedTree", "soilThree", "(III)V"⟩, 10), (⟨"PagedTree", "giveFromRight", "(IIII)V"⟩, 10), (⟨"PagedTree", "join", "(IIII)V"⟩, 10), (⟨"PagedTree", "releasePage", "(I)V"⟩, 10), (⟨"PagedTree", "lowerRoot", "()V"⟩, 10), (⟨"PagedTree", "moveCursor", "(II)Z"⟩, 10)]
theorem lw_r1 : ∀ q ∈ lw_privs_1, lw_okq q := List.forall_mem_cons.mpr ⟨lw_p0, List.forall_mem_cons.mpr ⟨lw_p1, List.forall_mem_cons.mpr ⟨lw_p2, List.forall_mem_cons.mpr ⟨lw_p3, List.forall_mem_cons.mpr ⟨lw_p4, List.forall_mem_cons.mpr ⟨lw_p5, List.forall_mem_cons.mpr ⟨lw_p6, List.forall_mem_cons.mpr ⟨lw_p7, List.forall_mem_cons.mpr ⟨lw_p8, List.forall_mem_cons.mpr ⟨lw_p9, List.forall_mem_cons.mpr ⟨lw_p10, List.forall_mem_cons.mpr ⟨lw_p11, List.forall_mem_cons.mpr ⟨lw_p12, List.forall_mem_cons.mpr ⟨lw_p13, List.forall_mem_cons.mpr ⟨lw_p14, List.forall_mem_cons.mpr ⟨lw_p15, fun _ h => absurd h List.not_mem_nil⟩⟩⟩⟩⟩⟩⟩⟩⟩⟩⟩⟩⟩⟩⟩⟩
theorem lw_p16 : lw_okq (⟨"PagedTree$Survey", "meet", "(IIJJ)V"⟩, 6) := ⟨⟨by decide +kernel, by decide +kernel⟩, List.mem_of_getElem? (i := 101) (by decide +kernel), List.mem_of_getElem? (i := 400) (by decide +kernel), List.mem_of_getElem? (i := 401) (by decide +kernel)⟩
theorem lw_p17 : lw_okq (⟨"PagedTree$Survey", "meetChildren", "(LPagedTree$Disk;I)V"⟩, 6) := ⟨⟨by decide +kernel, by decide +kernel⟩, List.mem_of_getElem? (i := 101) (by decide +kernel), List.mem_of_getElem? (i := 404) (by decide +kernel), List.mem_of_getElem? (i := 405) (by decide +kernel)⟩
theorem lw_p18 : lw_okq (⟨"PagedTree$Survey", "isAstray", "(LPagedTree$Disk;LPagedTree$Frames;II)Z"⟩, 6) := ⟨⟨by decide +kernel, by decide +kernel⟩, List.mem_of_getElem? (i := 101) (by decide +kernel), List.mem_of_getElem? (i := 412) (by decide +kernel), List.mem_of_getElem? (i := 413) (by decide +kernel)⟩
theorem lw_p19 : lw_okq (⟨"PagedTree$Survey", "leafDueAfter", "(LPagedTree$Disk;I)I"⟩, 6) := ⟨⟨by decide +kernel, by decide +kernel⟩, List.mem_of_getElem? (i := 101) (by decide +kernel), List.mem_of_getElem? (i := 422) (by decide +kernel), List.mem_of_getElem? (i := 423) (by decide +kernel)⟩
theorem lw_p20 : lw_okq (⟨"PagedTree$Survey", "countIsRight", "(LPagedTree$Disk;IZ)Z"⟩, 6) := ⟨⟨by decide +kernel, by decide +kernel⟩, List.mem_of_getElem? (i := 101) (by decide +kernel), List.mem_of_getElem? (i := 426) (by decide +kernel), List.mem_of_getElem? (i := 427) (by decide +kernel)⟩
theorem lw_p21 : lw_okq (⟨"PagedTree$Survey", "childrenArePages", "(LPagedTree$Disk;I)Z"⟩, 6) := ⟨⟨by decide +kernel, by decide +kernel⟩, List.mem_of_getElem? (i := 101) (by decide +kernel), List.mem_of_getElem? (i := 430) (by decide +kernel), List.mem_of_getElem? (i := 431) (by decide +kernel)⟩
theorem lw_p22 : lw_okq (⟨"PagedTree$Survey", "keysAreInPlace", "(LPagedTree$Disk;I)Z"⟩, 6) := ⟨⟨by decide +kernel, by decide +kernel⟩, List.mem_of_getElem? (i := 101) (by decide +kernel), List.mem_of_getElem? (i := 434) (by decide +kernel), List.mem_of_getElem? (i := 435) (by decide +kernel)⟩
theorem lw_p23 : lw_okq (⟨"PagedTree", "newPagesForEntry", "()I"⟩, 10) := ⟨⟨by decide +kernel, by decide +kernel⟩, List.mem_of_getElem? (i := 18) (by decide +kernel), List.mem_of_getElem? (i := 446) (by decide +kernel), List.mem_of_getElem? (i := 447) (by decide +kernel)⟩
theorem lw_p24 : lw_okq (⟨"java/lang/Throwable", "fillInStackTrace", "(I)Ljava/lang/Throwable;"⟩, 6) := ⟨⟨by decide +kernel, by decide +kernel⟩, List.mem_of_getElem? (i := 490) (by decide +kernel), List.mem_of_getElem? (i := 488) (by decide +kernel), List.mem_of_getElem? (i := 489) (by decide +kernel)⟩
theorem lw_p25 : lw_okq (⟨"PagedTree", "splitUpwards", "()V"⟩, 10) := ⟨⟨by decide +kernel, by decide +kernel⟩, List.mem_of_getElem? (i := 18) (by decide +kernel), List.mem_of_getElem? (i := 521) (by decide +kernel), List.mem_of_getElem? (i := 522) (by decide +kernel)⟩
theorem lw_p26 : lw_okq (⟨"PagedTree", "split", "(I)V"⟩, 10) := ⟨⟨by decide +kernel, by decide +kernel⟩, List.mem_of_getElem? (i := 18) (by decide +kernel), List.mem_of_getElem? (i := 525) (by decide +kernel), List.mem_of_getElem? (i := 526) (by decide +kernel)⟩
theorem lw_p27 : lw_okq (⟨"PagedTree", "takePage", "(I)I"⟩, 10) := ⟨⟨by decide +kernel, by decide +kernel⟩, List.mem_of_getElem? (i := 18) (by decide +kernel), List.mem_of_getElem? (i := 529) (by decide +kernel), List.mem_of_getElem? (i := 530) (by decide +kernel)⟩
theorem lw_p28 : lw_okq (⟨"PagedTree", "raiseRoot", "(I)V"⟩, 10) := ⟨⟨by decide +kernel, by decide +kernel⟩, List.mem_of_getElem? (i := 18) (by decide +kernel), List.mem_of_getElem? (i := 537) (by decide +kernel), List.mem_of_getElem? (i := 538) (by decide +kernel)⟩
theorem lw_p29 : lw_okq (⟨"PagedTreeModel", "find", "(I)V"⟩, 24) := ⟨⟨by decide +kernel, by decide +kernel⟩, List.mem_of_getElem? (i := 681) (by decide +kernel), List.mem_of_getElem? (i := 768) (by decide +kernel), List.mem_of_getElem? (i := 769) (by decide +kernel)⟩
theorem lw_p30 : lw_okq (⟨"PagedTreeModel", "placeOf", "(I)I"⟩, 24) := ⟨⟨by decide +kernel, by decide +kernel⟩, List.mem_of_getElem? (i := 681) (by decide +kernel), List.mem_of_getElem? (i := 772) (by decide +kernel), List.mem_of_getElem? (i := 773) (by decide +kernel)⟩
theorem lw_p31 : lw_okq (⟨"PagedTreeModel", "isAt", "(II)Z"⟩, 24) := ⟨⟨by decide +kernel, by decide +kernel⟩, List.mem_of_getElem? (i := 681) (by decide +kernel), List.mem_of_getElem? (i := 776) (by decide +kernel), List.mem_of_getElem? (i := 777) (by decide +kernel)⟩
def lw_privs_2 : List (MethodName × Nat) := [(⟨"PagedTree$Survey", "meet", "(IIJJ)V"⟩, 6), (⟨"PagedTree$Survey", "meetChildren", "(LPagedTree$Disk;I)V"⟩, 6), (⟨"PagedTree$Survey", "isAstray", "(LPagedTree$Disk;LPagedTree$Frames;II)Z"⟩, 6), (⟨"PagedTree$Survey", "leafDueAfter", "(LPagedTree$Disk;I)I"⟩, 6), (⟨"PagedTree$Survey", "countIsRight", "(LPagedTree$Disk;IZ)Z"⟩, 6), (⟨"PagedTree$Survey", "childrenArePages", "(LPagedTree$Disk;I)Z"⟩, 6), (⟨"PagedTree$Survey", "keysAreInPlace", "(LPagedTree$Disk;I)Z"⟩, 6), (⟨"PagedTree", "newPagesForEntry", "()I"⟩, 10), (⟨"java/lang/Throwable", "fillInStackTrace", "(I)Ljava/lang/Throwable;"⟩, 6), (⟨"PagedTree", "splitUpwards", "()V"⟩, 10), (⟨"PagedTree", "split", "(I)V"⟩, 10), (⟨"PagedTree", "takePage", "(I)I"⟩, 10), (⟨"PagedTree", "raiseRoot", "(I)V"⟩, 10), (⟨"PagedTreeModel", "find", "(I)V"⟩, 24), (⟨"PagedTreeModel", "placeOf", "(I)I"⟩, 24), (⟨"PagedTreeModel", "isAt", "(II)Z"⟩, 24)]
theorem lw_r2 : ∀ q ∈ lw_privs_2, lw_okq q := List.forall_mem_cons.mpr ⟨lw_p16, List.forall_mem_cons.mpr ⟨lw_p17, List.forall_mem_cons.mpr ⟨lw_p18, List.forall_mem_cons.mpr ⟨lw_p19, List.forall_mem_cons.mpr ⟨lw_p20, List.forall_mem_cons.mpr ⟨lw_p21, List.forall_mem_cons.mpr ⟨lw_p22, List.forall_mem_cons.mpr ⟨lw_p23, List.forall_mem_cons.mpr ⟨lw_p24, List.forall_mem_cons.mpr ⟨lw_p25, List.forall_mem_cons.mpr ⟨lw_p26, List.forall_mem_cons.mpr ⟨lw_p27, List.forall_mem_cons.mpr ⟨lw_p28, List.forall_mem_cons.mpr ⟨lw_p29, List.forall_mem_cons.mpr ⟨lw_p30, List.forall_mem_cons.mpr ⟨lw_p31, fun _ h => absurd h List.not_mem_nil⟩⟩⟩⟩⟩⟩⟩⟩⟩⟩⟩⟩⟩⟩⟩⟩
theorem lw_p32 : lw_okq (⟨"PagedTreeModel", "pagesInUse", "()I"⟩, 24) := ⟨⟨by decide +kernel, by decide +kernel⟩, List.mem_of_getElem? (i := 681) (by decide +kernel), List.mem_of_getElem? (i := 780) (by decide +kernel), List.mem_of_getElem? (i := 781) (by decide +kernel)⟩
theorem lw_p33 : lw_okq (⟨"PagedTreeModel", "wanted", "()I"⟩, 24) := ⟨⟨by decide +kernel, by decide +kernel⟩, List.mem_of_getElem? (i := 681) (by decide +kernel), List.mem_of_getElem? (i := 784) (by decide +kernel), List.mem_of_getElem? (i := 785) (by decide +kernel)⟩
theorem lw_p34 : lw_okq (⟨"PagedTreeModel", "touchWay", "()V"⟩, 24) := ⟨⟨by decide +kernel, by decide +kernel⟩, List.mem_of_getElem? (i := 681) (by decide +kernel), List.mem_of_getElem? (i := 788) (by decide +kernel), List.mem_of_getElem? (i := 789) (by decide +kernel)⟩
theorem lw_p35 : lw_okq (⟨"PagedTreeModel", "touch", "(IZ)V"⟩, 24) := ⟨⟨by decide +kernel, by decide +kernel⟩, List.mem_of_getElem? (i := 681) (by decide +kernel), List.mem_of_getElem? (i := 792) (by decide +kernel), List.mem_of_getElem? (i := 793) (by decide +kernel)⟩
theorem lw_p36 : lw_okq (⟨"PagedTreeModel", "frameOf", "(I)I"⟩, 24) := ⟨⟨by decide +kernel, by decide +kernel⟩, List.mem_of_getElem? (i := 681) (by decide +kernel), List.mem_of_getElem? (i := 796) (by decide +kernel), List.mem_of_getElem? (i := 797) (by decide +kernel)⟩
theorem lw_p37 : lw_okq (⟨"PagedTreeModel", "freeFrame", "()I"⟩, 24) := ⟨⟨by decide +kernel, by decide +kernel⟩, List.mem_of_getElem? (i := 681) (by decide +kernel), List.mem_of_getElem? (i := 800) (by decide +kernel), List.mem_of_getElem? (i := 801) (by decide +kernel)⟩
theorem lw_p38 : lw_okq (⟨"PagedTreeModel", "goOn", "()V"⟩, 24) := ⟨⟨by decide +kernel, by decide +kernel⟩, List.mem_of_getElem? (i := 681) (by decide +kernel), List.mem_of_getElem? (i := 804) (by decide +kernel), List.mem_of_getElem? (i := 805) (by decide +kernel)⟩
theorem lw_p39 : lw_okq (⟨"PagedTreeModel", "change", "(I)V"⟩, 24) := ⟨⟨by decide +kernel, by decide +kernel⟩, List.mem_of_getElem? (i := 681) (by decide +kernel), List.mem_of_getElem? (i := 808) (by decide +kernel), List.mem_of_getElem? (i := 809) (by decide +kernel)⟩
theorem lw_p40 : lw_okq (⟨"PagedTreeModel", "insert", "(IIII)V"⟩, 24) := ⟨⟨by decide +kernel, by decide +kernel⟩, List.mem_of_getElem? (i := 681) (by decide +kernel), List.mem_of_getElem? (i := 812) (by decide +kernel), List.mem_of_getElem? (i := 813) (by decide +kernel)⟩
theorem lw_p41 : lw_okq (⟨"PagedTreeModel", "split", "(I)V"⟩, 24) := ⟨⟨by decide +kernel, by decide +kernel⟩, List.mem_of_getElem? (i := 681) (by decide +kernel), List.mem_of_getElem? (i := 816) (by decide +kernel), List.mem_of_getElem? (i := 817) (by decide +kernel)⟩
theorem lw_p42 : lw_okq (⟨"PagedTreeModel", "leastFree", "()I"⟩, 24) := ⟨⟨by decide +kernel, by decide +kernel⟩, List.mem_of_getElem? (i := 681) (by decide +kernel), List.mem_of_getElem? (i := 820) (by decide +kernel), List.mem_of_getElem? (i := 821) (by decide +kernel)⟩
theorem lw_p43 : lw_okq (⟨"PagedTreeModel", "unpin", "()V"⟩, 24) := ⟨⟨by decide +kernel, by decide +kernel⟩, List.mem_of_getElem? (i := 681) (by decide +kernel), List.mem_of_getElem? (i := 824) (by decide +kernel), List.mem_of_getElem? (i := 825) (by decide +kernel)⟩
theorem lw_p44 : lw_okq (⟨"PagedTreeModel", "removeAt", "(II)V"⟩, 24) := ⟨⟨by decide +kernel, by decide +kernel⟩, List.mem_of_getElem? (i := 681) (by decide +kernel), List.mem_of_getElem? (i := 836) (by decide +kernel), List.mem_of_getElem? (i := 837) (by decide +kernel)⟩
theorem lw_p45 : lw_okq (⟨"PagedTreeModel", "mend", "(I)V"⟩, 24) := ⟨⟨by decide +kernel, by decide +kernel⟩, List.mem_of_getElem? (i := 681) (by decide +kernel), List.mem_of_getElem? (i := 840) (by decide +kernel), List.mem_of_getElem? (i := 841) (by decide +kernel)⟩
theorem lw_p46 : lw_okq (⟨"PagedTreeModel", "give", "(IIZ)V"⟩, 24) := ⟨⟨by decide +kernel, by decide +kernel⟩, List.mem_of_getElem? (i := 681) (by decide +kernel), List.mem_of_getElem? (i := 844) (by decide +kernel), List.mem_of_getElem? (i := 845) (by decide +kernel)⟩
theorem lw_p47 : lw_okq (⟨"PagedTreeModel", "join", "(II)V"⟩, 24) := ⟨⟨by decide +kernel, by decide +kernel⟩, List.mem_of_getElem? (i := 681) (by decide +kernel), List.mem_of_getElem? (i := 848) (by decide +kernel), List.mem_of_getElem? (i := 849) (by decide +kernel)⟩
def lw_privs_3 : List (MethodName × Nat) := [(⟨"PagedTreeModel", "pagesInUse", "()I"⟩, 24), (⟨"PagedTreeModel", "wanted", "()I"⟩, 24), (⟨"PagedTreeModel", "touchWay", "()V"⟩, 24), (⟨"PagedTreeModel", "touch", "(IZ)V"⟩, 24), (⟨"PagedTreeModel", "frameOf", "(I)I"⟩, 24), (⟨"PagedTreeModel", "freeFrame", "()I"⟩, 24), (⟨"PagedTreeModel", "goOn", "()V"⟩, 24), (⟨"PagedTreeModel", "change", "(I)V"⟩, 24), (⟨"PagedTreeModel", "insert", "(IIII)V"⟩, 24), (⟨"PagedTreeModel", "split", "(I)V"⟩, 24), (⟨"PagedTreeModel", "leastFree", "()I"⟩, 24), (⟨"PagedTreeModel", "unpin", "()V"⟩, 24), (⟨"PagedTreeModel", "removeAt", "(II)V"⟩, 24), (⟨"PagedTreeModel", "mend", "(I)V"⟩, 24), (⟨"PagedTreeModel", "give", "(IIZ)V"⟩, 24), (⟨"PagedTreeModel", "join", "(II)V"⟩, 24)]
theorem lw_r3 : ∀ q ∈ lw_privs_3, lw_okq q := List.forall_mem_cons.mpr ⟨lw_p32, List.forall_mem_cons.mpr ⟨lw_p33, List.forall_mem_cons.mpr ⟨lw_p34, List.forall_mem_cons.mpr ⟨lw_p35, List.forall_mem_cons.mpr ⟨lw_p36, List.forall_mem_cons.mpr ⟨lw_p37, List.forall_mem_cons.mpr ⟨lw_p38, List.forall_mem_cons.mpr ⟨lw_p39, List.forall_mem_cons.mpr ⟨lw_p40, List.forall_mem_cons.mpr ⟨lw_p41, List.forall_mem_cons.mpr ⟨lw_p42, List.forall_mem_cons.mpr ⟨lw_p43, List.forall_mem_cons.mpr ⟨lw_p44, List.forall_mem_cons.mpr ⟨lw_p45, List.forall_mem_cons.mpr ⟨lw_p46, List.forall_mem_cons.mpr ⟨lw_p47, fun _ h => absurd h List.not_mem_nil⟩⟩⟩⟩⟩⟩⟩⟩⟩⟩⟩⟩⟩⟩⟩⟩
theorem lw_p48 : lw_okq (⟨"PagedTreeModel", "release", "(I)V"⟩, 24) := ⟨⟨by decide +kernel, by decide +kernel⟩, List.mem_of_getElem? (i := 681) (by decide +kernel), List.mem_of_getElem? (i := 852) (by decide +kernel), List.mem_of_getElem? (i := 853) (by decide +kernel)⟩
theorem lw_p49 : lw_okq (⟨"PagedTreeModel", "arrive", "(II)Z"⟩, 24) := ⟨⟨by decide +kernel, by decide +kernel⟩, List.mem_of_getElem? (i := 681) (by decide +kernel), List.mem_of_getElem? (i := 860) (by decide +kernel), List.mem_of_getElem? (i := 861) (by decide +kernel)⟩
theorem lw_p50 : lw_okq (⟨"PagedTreeModel", "levels", "()I"⟩, 24) := ⟨⟨by decide +kernel, by decide +kernel⟩, List.mem_of_getElem? (i := 681) (by decide +kernel), List.mem_of_getElem? (i := 896) (by decide +kernel), List.mem_of_getElem? (i := 897) (by decide +kernel)⟩
def lw_privs_4 : List (MethodName × Nat) := [(⟨"PagedTreeModel", "release", "(I)V"⟩, 24), (⟨"PagedTreeModel", "arrive", "(II)Z"⟩, 24), (⟨"PagedTreeModel", "levels", "()I"⟩, 24)]
theorem lw_r4 : ∀ q ∈ lw_privs_4, lw_okq q := List.forall_mem_cons.mpr ⟨lw_p48, List.forall_mem_cons.mpr ⟨lw_p49, List.forall_mem_cons.mpr ⟨lw_p50, fun _ h => absurd h List.not_mem_nil⟩⟩⟩
def lw_privs : List (MethodName × Nat) := lw_privs_1 ++ (lw_privs_2 ++ (lw_privs_3 ++ (lw_privs_4)))
def lw_tbl : List Cond := k2_sels lw_privs ++ tables_1
theorem lw_privs_ok : ∀ q ∈ lw_privs, lw_okq q := by
  show ∀ q ∈ lw_privs_1 ++ (lw_privs_2 ++ (lw_privs_3 ++ (lw_privs_4))), lw_okq q
  exact List.forall_mem_append.mpr ⟨lw_r1, List.forall_mem_append.mpr ⟨lw_r2, List.forall_mem_append.mpr ⟨lw_r3, lw_r4⟩⟩⟩
end
section
/-! ===== BEGIN words of one list among another's, by their places ===== -/
theorem goodIn_r {big : List Cond} (ws : List Cond) (ps : List Nat) (hp : ws = ps.filterMap (fun i => big[i]?)) (h : ws.all goodWord = true) : GoodIn big ws := by
  intro w hw
  have h1 := List.all_eq_true.mp h w hw
  rw [hp] at hw
  obtain ⟨i, -, hi⟩ := List.mem_filterMap.mp hw
  have hm : w ∈ big := by first | exact List.mem_of_getElem? hi | exact List.getElem?_mem hi
  exact ⟨hm, good_of_word h1⟩
theorem goodIn_app {big a b : List Cond} (ha : GoodIn big a) (hb : GoodIn big b) : GoodIn big (a ++ b) := fun w h => (List.mem_append.mp h).elim (ha w) (hb w)
theorem goodIn_ca {big a b : List Cond} {c : Cond} (ha : GoodIn big (c :: a)) (hb : GoodIn big b) : GoodIn big (c :: (a ++ b)) := fun w h => (List.mem_cons.mp h).elim (fun e => ha w (List.mem_cons.mpr (Or.inl e))) (fun h => (List.mem_append.mp h).elim (fun h => ha w (List.mem_cons.mpr (Or.inr h))) (hb w))
theorem goodIn_sub {big ws : List Cond} (hm : ∀ w ∈ ws, w ∈ big) (h : ws.all goodWord = true) : GoodIn big ws := fun w hw => ⟨hm w hw, good_of_word (List.all_eq_true.mp h w hw)⟩
/-! ===== END ===== -/

/-! ===== BEGIN exceptions that leave a method, and their catching by the caller (launches without stack traces) ===== -/
section VXA
/-! The laws vx_back, vx_callV, vx_callS, vx_callSW, vx_throw0, vx_throwS follow proofs of the library, with one case more: JvmDerived/Free/Laws.lean (Back.of_free), Shelf42/LK1.lean (callV, callS), Shelf/KitTraced.lean (throwNew0V, throwNewS). -/
/-- where a method has thrown q: the class by its name, the cell, what was written, the world -/
def vx_T (XC : String → State → State → Prop) (st : State) (q : Addr) (t : State) (mc ms : Nat) (free : Addr → Prop) : Prop :=
  ∃ (E : String) (ce : Cell) (L : List Loc), XC E st t ∧ t.heap[q]? = some ce ∧ ce.vm = .none ∧ st.vm.findClass E = some ce.cls ∧ st.WarmedH t.vm ∧ st.sameButNew ({ t with vm := st.vm } : State) L mc ms ∧ ∀ z ∈ L, free z.base
def vx_Q (Qc : Array Value → State → Outcome → State → Prop) (XC : String → State → State → Prop) (mc ms : Nat) (free : Addr → Prop) : Array Value → State → Outcome → State → Prop := fun a st o t =>
  (Qc a st o t ∧ ∃ L, FrameEnd st o t L mc ms ∧ ∀ q ∈ L, free q.base) ∨ ∃ q, o = .threw q ∧ vx_T XC st q t mc ms free
/-- a callee that returns or throws -/
def vx_Met (l : Launch) (y : MethodName) (ws : List Cond) (rm : Room) (Pc : Array Value → State → Prop) (Qc : Array Value → State → Outcome → State → Prop) (XC : String → State → State → Prop) (mc ms : Nat) (free : Addr → Prop) : Prop :=
  MetFree l y (headSpec ws rm) Pc (fun _ _ _ _ _ => True) (vx_Q Qc XC mc ms free)
def vx_Post (XC : String → State → State → Prop) (mc ms : Nat) (free : Addr → Prop) : Pt → Array Value → Addr → Pt → Prop := fun A a q B =>
  ∃ (g : JFrame) (mk : MethodId) (t : State) (L : List Loc) (E : String) (ce : Cell), B.U.heap = t.heap ∧ B.U.vm = t.vm ∧ XC E (A.U.calling g mk a) t ∧ t.heap[q]? = some ce ∧ ce.vm = .none ∧ A.U.vm.findClass E = some ce.cls ∧ B.locs = A.locs ++ L ∧ (∀ z ∈ L, free z.base) ∧ B.cells = A.cells + mc ∧ B.slots = A.slots + ms
def vx_Back (l : Launch) (R : Room) (p : Program) (e : Env) (below : List Frame) (s : State) (sargs : Array Value) (y : MethodName) (len W9 : Nat)
    (Pre : Pt → Array Value → Prop) (Post : Pt → Array Value → Option Value → Pt → Prop) (PostX : Pt → Array Value → Addr → Pt → Prop) : Prop :=
  ∀ (m : MethodId) (meth : Method) (c : Code) (A : Pt) (g : JFrame) (ig : Instr) (mk : MethodId) (a : Array Value),
    Stand p l e R s m sargs below meth c A.U A.locs A.cells A.slots → g.method = m → g.locals.size = c.maxLocals → decode c.code g.pc = .ok (ig, len) →
    2 * g.monitorRoom + (g.stack.map fun v => v.category).sum ≤ W9 → A.U.methodNamed? y = some mk → Pre A a →
    (∃ (v : Option Value) (B : Pt), Stand p l e R s m sargs below meth c B.U B.locs B.cells B.slots ∧ Post A a v B ∧
      Steps p.tables e below (doInvoke e (A.U.setTop g) [] mk a).1 (B.U.setTop { g with pc := g.pc + len, stack := v.toList ++ g.stack })) ∨
    (∃ (q : Addr) (B : Pt), Stand p l e R s m sargs below meth c B.U B.locs B.cells B.slots ∧ PostX A a q B ∧
      Steps p.tables e below (doInvoke e (A.U.setTop g) [] mk a).1 ((B.U.setTop g).pushFrame (.throwing q)))
section Payer
variable {l : Launch} {R : Room} {p : Program} {e : Env} {below : List Frame} {s : State} {sargs : Array Value} {y : MethodName} {len W9 : Nat}
theorem vx_back {ws : List Cond} {rm : Room} {Pc : Array Value → State → Prop} {Qc : Array Value → State → Outcome → State → Prop} {XC : String → State → State → Prop} {mc ms : Nat} {free : Addr → Prop} {bytes : ByteArray} {maxL : Nat} {ret : Option FieldType}
    (hM : vx_Met l y ws rm Pc Qc XC mc ms free) (hblind : FrameBlind Pc) (hrc : rm.cells = mc) (hrs : rm.slots = ms)
    (hframes : rm.frames + 1 ≤ R.frames) (hlocals : W9 + (maxL + 11) + rm.locals ≤ R.locals)
    (hws : ∀ w ∈ ws, ∀ a' U, s.WarmedH U.vm → w.before a' U = true) (hcode : Cond.code y bytes maxL ret ∈ ws) (hinit : ∀ a' U, s.WarmedH U.vm → (Cond.initialized y.cls).before a' U = true) :
    vx_Back l R p e below s sargs y len W9 (PreOf R mc ms Pc) (PostOf Qc mc ms free) (vx_Post XC mc ms free) := by
  intro m meth c A g ig mk a X hg hsize hdg hW hn hp
  have h1 : (headSpec ws rm).pre.before a A.U = true := atoms_intro fun w hw => hws w hw _ _ X.warmed
  have h2 : (Cond.code y bytes maxL ret).before a A.U = true := hws _ hcode _ _ X.warmed
  have h3 : (Cond.initialized y.cls).before a A.U = true := hinit _ _ X.warmed
  have h4 : A.cells + (headSpec ws rm).room.cells ≤ R.cells := by rw [show (headSpec ws rm).room.cells = mc from hrc]; exact hp.1
  have h5 : A.slots + (headSpec ws rm).room.slots ≤ R.slots := by rw [show (headSpec ws rm).room.slots = ms from hrs]; exact hp.2.1
  have hPc : Pc a (A.U.calling g mk a) := hblind _ _ _ _ hp.2.2
  obtain ⟨U, Ls, c0, s0⟩ := A
  dsimp only [Pt.U, Pt.locs, Pt.cells, Pt.slots] at h1 h2 h3 h4 h5 X hn hPc ⊢
  obtain ⟨methY, cY, hmY, hcY, -, hlY, -, -, -, -⟩ := Cond.code_spec hn h2
  obtain ⟨kY, hkY, -⟩ := className_of_methodNamed hn
  have hinitY : kY.init = .initialized := Cond.initialized_spec (findClass_of_methodNamed hn) hkY h3
  have h : At U g.method c below := by rw [hg]; exact X.here
  have hlocals9 : W9 + (maxL + 11) + (headSpec ws rm).room.locals ≤ R.locals := hlocals
  have happ : (headSpec ws rm).appliesLoose y e.platform (U.calling g mk a) = true :=
    Spec.appliesLoose_calling (g := g) h hdg hn hkY hinitY
      (X.room_calling (g := g) (R' := (headSpec ws rm).room) hsize hmY hcY hframes (by rw [hlY]; omega) h4 h5) h1
  obtain ⟨mid, hmid⟩ := h.above
  have hfr : (U.setTop g).frames = (.java g :: mid) ++ below := by rw [State.frames_setTop' g h.top, hmid]; rfl
  obtain ⟨o, s₂, hsteps, -, hend, hq⟩ := Steps.callFree hM p X.admits X.cas X.clock (acts := []) hfr happ hPc trivial
  have hq' : vx_Q Qc XC mc ms free a (U.calling g mk a) o s₂ := hq
  rw [State.frames_setTop' g h.top] at hend
  obtain ⟨g₀, hg0⟩ := Option.isSome_iff_exists.mp h.top
  obtain ⟨r, hr⟩ := State.topJava?_eq_some.mp hg0
  have hr' : (({ U with heap := s₂.heap, slotsUsed := s₂.slotsUsed } : State).setVm s₂.vm).frames = .java g₀ :: r := hr
  rcases hq' with ⟨hqc, L, hfe, hL⟩ | ⟨q, rfl, E, ce, L, hx, hce, hcv, hcl, hW₂, hsm, hL⟩
  · obtain ⟨⟨v, rfl⟩, hW₂, e2, q2, q3, q4, q5, q6⟩ := id hfe
    have e3 : s₂ = ({ (U.calling g mk a).setFrames s₂.frames with heap := s₂.heap, slotsUsed := s₂.slotsUsed } : State).setVm s₂.vm := by
      have : s₂ = ({ s₂ with vm := (U.calling g mk a).vm } : State).setVm s₂.vm := rfl
      rw [e2] at this
      exact this
    obtain ⟨c₂, i₂, len₂, hc₂, hd₂, hf₂⟩ := hend
    have hW' : U.WarmedH s₂.vm := hW₂
    have hcc : c₂ = c := by
      have h1 : s₂.code? g.method = U.code? g.method := by
        rw [State.code?_eq, State.code?_eq, hW'.alike.method?]
      exact Option.some.inj (hc₂.symm.trans (h1.trans h.code))
    subst hcc
    have hlen : len₂ = len := by rw [hdg] at hd₂; cases hd₂; rfl
    subst hlen
    have hs₂ : s₂ = (({ U with heap := s₂.heap, slotsUsed := s₂.slotsUsed } : State).setVm s₂.vm).setTop { g with pc := g.pc + len₂, stack := v.toList ++ g.stack } := by
      refine e3.trans ?_
      rw [hf₂, State.calling_eq h.top, State.setFrames_setFrames, State.setTop_of_frames _ hr', hr]
      rfl
    have hsame : U.sameButNew ({ U with heap := s₂.heap, slotsUsed := s₂.slotsUsed } : State) L mc ms := by
      refine ⟨?_, q2, q3, q4, q5, q6⟩
      obtain ⟨t, ht, -⟩ := State.frames_cons hr
      show ({ U with heap := s₂.heap, slotsUsed := s₂.slotsUsed } : State) = { U.setFrames U.frames with heap := s₂.heap, slotsUsed := s₂.slotsUsed }
      rw [State.setFrames_self ht]
    subst hg
    refine Or.inl ⟨v, ⟨(({ U with heap := s₂.heap, slotsUsed := s₂.slotsUsed } : State).setVm s₂.vm), Ls ++ L, c0 + mc, s0 + ms⟩,
      ⟨X.admits, X.cas, X.clock, X.frames, X.room, X.hears, X.method, X.code, (X.here.setHeapUsed s₂.heap s₂.slotsUsed).setVm hW'.alike, X.tail, State.WarmedH.trans X.warmed hW', X.limits, X.bytes, X.same.trans (hsame.setVm s.vm)⟩,
      ⟨g, mk, s₂, L, rfl, rfl, hqc, rfl, hL, rfl, rfl⟩, ?_⟩
    show Steps p.tables e below _ ((({ U with heap := s₂.heap, slotsUsed := s₂.slotsUsed } : State).setVm s₂.vm).setTop { g with pc := g.pc + len₂, stack := v.toList ++ g.stack })
    rw [← hs₂]
    exact hsteps
  · obtain ⟨e2, q2, q3, q4, q5, q6⟩ := id hsm
    have e3 : s₂ = ({ (U.calling g mk a).setFrames s₂.frames with heap := s₂.heap, slotsUsed := s₂.slotsUsed } : State).setVm s₂.vm := by
      have : s₂ = ({ s₂ with vm := (U.calling g mk a).vm } : State).setVm s₂.vm := rfl
      rw [e2] at this
      exact this
    have hf₂ : s₂.frames = .throwing q :: .java g :: U.frames.tail := hend
    have hW' : U.WarmedH s₂.vm := hW₂
    have hs₂ : s₂ = ((({ U with heap := s₂.heap, slotsUsed := s₂.slotsUsed } : State).setVm s₂.vm).setTop g).pushFrame (.throwing q) := by
      refine e3.trans ?_
      rw [hf₂, State.calling_eq h.top, State.setFrames_setFrames, State.pushFrame, State.frames_setTop _ hr', State.setTop_of_frames _ hr', State.setFrames_setFrames, hr]
      rfl
    have hsame : U.sameButNew ({ U with heap := s₂.heap, slotsUsed := s₂.slotsUsed } : State) L mc ms := by
      refine ⟨?_, q2, q3, q4, q5, q6⟩
      obtain ⟨t, ht, -⟩ := State.frames_cons hr
      show ({ U with heap := s₂.heap, slotsUsed := s₂.slotsUsed } : State) = { U.setFrames U.frames with heap := s₂.heap, slotsUsed := s₂.slotsUsed }
      rw [State.setFrames_self ht]
    subst hg
    refine Or.inr ⟨q, ⟨(({ U with heap := s₂.heap, slotsUsed := s₂.slotsUsed } : State).setVm s₂.vm), Ls ++ L, c0 + mc, s0 + ms⟩,
      ⟨X.admits, X.cas, X.clock, X.frames, X.room, X.hears, X.method, X.code, (X.here.setHeapUsed s₂.heap s₂.slotsUsed).setVm hW'.alike, X.tail, State.WarmedH.trans X.warmed hW', X.limits, X.bytes, X.same.trans (hsame.setVm s.vm)⟩,
      ⟨g, mk, s₂, L, E, ce, rfl, rfl, hx, hce, hcv, hcl, rfl, hL, rfl, rfl⟩, ?_⟩
    show Steps p.tables e below _ (((({ U with heap := s₂.heap, slotsUsed := s₂.slotsUsed } : State).setVm s₂.vm).setTop g).pushFrame (.throwing q))
    rw [← hs₂]
    exact hsteps
end Payer
section Calls
variable {p : Program} {l : Launch} {e : Env} {R : Room} {s : State} {m : MethodId} {args : Array Value} {below : List Frame} {meth : Method} {c : Code} {T : State} {locs : List Loc} {cells slots : Nat}
theorem vx_callV (X : Stand p l e R s m args below meth c T locs cells slots) (hexec : p.tables.exec = Jvm.exec) {own C : String} {index : Nat} {y : MethodName} {bytes : ByteArray} {maxL : Nat} {ret : Option FieldType}
    (hown : s.vm.findClass own = some m.cls) (hlink : (Cond.methodLink own index y).before args s = true) (hinst : (Cond.instanceMethod y).before args s = true) (hsel : (Cond.selects C y y).before args s = true)
    (hcode : (Cond.code y bytes maxL ret).before args s = true) (hy : y.cls ≠ "java/lang/invoke/MethodHandle" ∧ y.cls ≠ "java/lang/invoke/VarHandle")
    {W9 : Nat} {Pre : Pt → Array Value → Prop} {Post : Pt → Array Value → Option Value → Pt → Prop} {PostX : Pt → Array Value → Addr → Pt → Prop} (hK : vx_Back l R p e below s args y 3 W9 Pre Post PostX)
    {b : Addr} {cellB : Cell} (hcell : T.heap[b]? = some cellB) (hobj : cellB.vm.isStatics = false) (hcls : s.vm.findClass C = some cellB.cls)
    {g : JFrame} (hg : g.method = m) (hsize : g.locals.size = c.maxLocals) {argsL rest : List Value} (hlen : ∀ sig, parseMethodDescriptor y.desc = some sig → argsL.length = sig.parameters.length)
    (hstack : g.stack = argsL.reverse ++ .ref b :: rest) (hW : 2 * g.monitorRoom + (rest.map fun v => v.category).sum ≤ W9) (hdg : decode c.code g.pc = .ok (.invokevirtual index, 3))
    (hpre : ∀ vm₁, s.WarmedH vm₁ → Pre ⟨T.setVm vm₁, locs, cells, slots⟩ (Value.ref b :: argsL).toArray) :
    (∃ (v : Option Value) (vm₁ : Vm) (B : Pt), s.WarmedH vm₁ ∧ Stand p l e R s m args below meth c B.U B.locs B.cells B.slots ∧ Post ⟨T.setVm vm₁, locs, cells, slots⟩ (Value.ref b :: argsL).toArray v B ∧
      ∀ target, Steps p.tables e below (B.U.setTop { g with pc := g.pc + 3, stack := v.toList ++ rest }) target → Steps p.tables e below (T.setTop g) target) ∨
    (∃ (q : Addr) (vm₁ : Vm) (B : Pt), s.WarmedH vm₁ ∧ Stand p l e R s m args below meth c B.U B.locs B.cells B.slots ∧ PostX ⟨T.setVm vm₁, locs, cells, slots⟩ (Value.ref b :: argsL).toArray q B ∧
      Steps p.tables e below (T.setTop g) ((B.U.setTop { g with stack := rest }).pushFrame (.throwing q))) := by
  obtain ⟨mk, methM, hnamed, hmethM, hstM, habM⟩ := Cond.instanceMethod_spec hinst
  obtain ⟨methM', cM, hmethM', -, -, -, -, -, -, hsigM⟩ := Cond.code_spec hnamed hcode
  cases hmethM.symm.trans hmethM'
  obtain ⟨c2, r2, m2, q1, q2, q3, q4, kP, hkP, hkPi⟩ := Cond.selects_spec hsel
  cases hcls.symm.trans q1
  cases (State.methodFound?_of_named hnamed hy).symm.trans q2
  cases hnamed.symm.trans q3
  have hselP : selectMethod e.platform s.vm cellB.cls mk = .method mk := by rw [Launch.admits_selectMethod X.admits]; exact q4
  obtain ⟨vm₁, X₁, hstep₁⟩ := X.invokevirtual hexec hown hlink hnamed hmethM hstM hkP hkPi hy (a := b) (cell := cellB) hcell
    (fun z h => by rw [h] at hobj; cases hobj) hselP hmethM habM hkP hkPi (g := g) hg (argsL := argsL) (rest := rest) (hlen _ hsigM) hstack hdg
  rcases hK m meth c ⟨T.setVm vm₁, locs, cells, slots⟩ { g with stack := rest } (.invokevirtual index) mk (Value.ref b :: argsL).toArray X₁ hg hsize hdg hW (X₁.named hnamed) (hpre vm₁ X₁.warmed) with ⟨v, B, X', hpost, hsteps⟩ | ⟨q, B, X', hpost, hsteps⟩
  · exact Or.inl ⟨v, vm₁, B, X₁.warmed, X', hpost, fun target h => hstep₁ _ fun acts => by rw [doInvoke_state]; exact hsteps.trans h⟩
  · exact Or.inr ⟨q, vm₁, B, X₁.warmed, X', hpost, hstep₁ _ fun acts => by rw [doInvoke_state]; exact hsteps⟩
theorem vx_callS (X : Stand p l e R s m args below meth c T locs cells slots) (hexec : p.tables.exec = Jvm.exec) {own : String} {index : Nat} {y : MethodName} {bytes : ByteArray} {maxL : Nat} {ret : Option FieldType}
    (hown : s.vm.findClass own = some m.cls) (hlink : (Cond.methodLink own index y).before args s = true) (hstat : (Cond.static y).before args s = true) (hinit : (Cond.initialized y.cls).before args s = true)
    (hcode : (Cond.code y bytes maxL ret).before args s = true) (hy : y.cls ≠ "java/lang/invoke/MethodHandle" ∧ y.cls ≠ "java/lang/invoke/VarHandle")
    {W9 : Nat} {Pre : Pt → Array Value → Prop} {Post : Pt → Array Value → Option Value → Pt → Prop} {PostX : Pt → Array Value → Addr → Pt → Prop} (hK : vx_Back l R p e below s args y 3 W9 Pre Post PostX)
    {g : JFrame} (hg : g.method = m) (hsize : g.locals.size = c.maxLocals) {argsL rest : List Value} (hlen : ∀ sig, parseMethodDescriptor y.desc = some sig → argsL.length = sig.parameters.length)
    (hstack : g.stack = argsL.reverse ++ rest) (hW : 2 * g.monitorRoom + (rest.map fun v => v.category).sum ≤ W9) (hdg : decode c.code g.pc = .ok (.invokestatic index, 3))
    (hpre : ∀ vm₁, s.WarmedH vm₁ → Pre ⟨T.setVm vm₁, locs, cells, slots⟩ argsL.toArray) :
    (∃ (v : Option Value) (vm₁ : Vm) (B : Pt), s.WarmedH vm₁ ∧ Stand p l e R s m args below meth c B.U B.locs B.cells B.slots ∧ Post ⟨T.setVm vm₁, locs, cells, slots⟩ argsL.toArray v B ∧
      ∀ target, Steps p.tables e below (B.U.setTop { g with pc := g.pc + 3, stack := v.toList ++ rest }) target → Steps p.tables e below (T.setTop g) target) ∨
    (∃ (q : Addr) (vm₁ : Vm) (B : Pt), s.WarmedH vm₁ ∧ Stand p l e R s m args below meth c B.U B.locs B.cells B.slots ∧ PostX ⟨T.setVm vm₁, locs, cells, slots⟩ argsL.toArray q B ∧
      Steps p.tables e below (T.setTop g) ((B.U.setTop { g with stack := rest }).pushFrame (.throwing q))) := by
  obtain ⟨mk, hnamed⟩ := Cond.code_named hcode
  obtain ⟨methM, cM, hmethM, -, -, -, -, -, -, hsigM⟩ := Cond.code_spec hnamed hcode
  have hstatic : methM.isStatic = true := Cond.static_spec hnamed hmethM hstat
  obtain ⟨kP, hkP, -⟩ := className_of_methodNamed hnamed
  have hinitP : kP.init = .initialized := Cond.initialized_spec (findClass_of_methodNamed hnamed) hkP hinit
  obtain ⟨vm₁, X₁, hstep₁⟩ := X.invokestatic hexec hown hlink hnamed hmethM hstatic hkP hinitP hy (g := g) hg (argsL := argsL) (rest := rest) (hlen _ hsigM) hstack hdg
  rcases hK m meth c ⟨T.setVm vm₁, locs, cells, slots⟩ { g with stack := rest } (.invokestatic index) mk argsL.toArray X₁ hg hsize hdg hW (X₁.named hnamed) (hpre vm₁ X₁.warmed) with ⟨v, B, X', hpost, hsteps⟩ | ⟨q, B, X', hpost, hsteps⟩
  · exact Or.inl ⟨v, vm₁, B, X₁.warmed, X', hpost, fun target h => hstep₁ _ fun acts => by rw [doInvoke_state]; exact hsteps.trans h⟩
  · exact Or.inr ⟨q, vm₁, B, X₁.warmed, X', hpost, hstep₁ _ fun acts => by rw [doInvoke_state]; exact hsteps⟩
end Calls
theorem vx_cls {s : State} {T : State} {vm₁ : Vm} {E : String} {k : ClassId} (hW : s.WarmedH vm₁) (h : (T.setVm vm₁).vm.findClass E = some k) : s.vm.findClass E = some k := by
  have h1 : vm₁.findClass E = some k := h
  rw [hW.alike.findClass] at h1
  exact h1
/-- the method's frame g, with q thrown over it -/
def vx_W (p : Program) (l : Launch) (e : Env) (R : Room) (s : State) (m : MethodId) (args : Array Value) (below : List Frame) (meth : Method) (c : Code) (H : Heap) (locs : List Loc) (cells slots : Nat) (Q : State → Prop) (g : JFrame) (q : Addr) : Prop :=
  ∀ T : State, T.heap = H → Stand p l e R s m args below meth c T locs cells slots → ∃ t, Steps p.tables e below ((T.setTop g).pushFrame (.throwing q)) t ∧ Q t
def vx_Run (p : Program) (l : Launch) (e : Env) (R : Room) (s : State) (m : MethodId) (args : Array Value) (below : List Frame) (meth : Method) (c : Code) (H : Heap) (locs : List Loc) (cells slots mc ms : Nat) (g : JFrame) (rest : List Value) (Qa : State → Outcome → State → Prop) (XC : String → State → State → Prop) (free : Addr → Prop) : Prop :=
  ∀ T : State, T.heap = H → Stand p l e R s m args below meth c T locs cells slots →
    (∃ (v : Option Value) (st₀ t T' : State) (L : List Loc), st₀.heap = H ∧ Stand p l e R s m args below meth c T' (locs ++ L) (cells + mc) (slots + ms) ∧ (∀ q ∈ L, free q.base) ∧ T'.heap = t.heap ∧ T'.vm = t.vm ∧ Qa st₀ (.returned v) t ∧
      Goes p e below T g T' { g with pc := g.pc + 3, stack := v.toList ++ rest }) ∨
    (∃ (q : Addr) (st₀ t T' : State) (L : List Loc) (E : String) (ce : Cell), st₀.heap = H ∧ Stand p l e R s m args below meth c T' (locs ++ L) (cells + mc) (slots + ms) ∧ (∀ z ∈ L, free z.base) ∧ T'.heap = t.heap ∧ T'.vm = t.vm ∧ XC E st₀ t ∧ t.heap[q]? = some ce ∧ ce.vm = .none ∧ s.vm.findClass E = some ce.cls ∧
      Steps p.tables e below (T.setTop g) ((T'.setTop { g with stack := rest }).pushFrame (.throwing q)))
def vx_X {S : Type} (px : S → Prop) (B : String → S → State → Prop) (A : Nat → Prop) : String → State → State → Prop := fun E st t => ∃ u : S, px u ∧ B E u t ∧ va_F A st t
section Runs
variable {p : Program} {l : Launch} {e : Env} {R : Room} {s : State} {m : MethodId} {args : Array Value} {below : List Frame} {meth : Method} {c : Code} {H : Heap} {locs : List Loc} {cells slots : Nat}
variable {y : MethodName} {bytes cc : ByteArray} {maxL nL mc ms n index : Nat} {ret : Option FieldType} {ws : List Cond} {rm : Room} {Pc : Array Value → State → Prop} {Qc : Array Value → State → Outcome → State → Prop} {XC : String → State → State → Prop} {free : Addr → Prop} {Ts : List Cond} {own C : String} {b : Addr} {As rest : List Value} {g : JFrame}
theorem vx_callBack (cb : CallB R s args own index y bytes maxL ret ws rm mc ms n) (hM : vx_Met l y ws rm Pc Qc XC mc ms free) (hbl : FrameBlind Pc) : vx_Back l R p e below s args y 3 8 (PreOf R mc ms Pc) (PostOf Qc mc ms free) (vx_Post XC mc ms free) := by
  obtain ⟨hrc, hrs, hfr, hlo, hws, hcw, -, hini, -⟩ := cb
  exact vx_back (bytes := bytes) (maxL := maxL) (ret := ret) hM hbl hrc hrs hfr hlo hws hcw (fun a' U hW => word_at hW (Or.inl (by first | rfl | simp [Cond.onTables, Cond.keeps, Cond.steady])) hini)
theorem vx_runV (S : CallFix p m c cc nL s args Ts own) (hM : vx_Met l y ws rm Pc Qc XC mc ms free) (cw : CallW R s args own C index y bytes maxL ret ws rm mc ms n) (hp : PreV s H C b Pc As)
    (hg : g.method = m) (hn : As.length = n) (hsize : g.locals.size = nL) (hstack : g.stack = As.reverse ++ .ref b :: rest) (hW : 2 * g.monitorRoom + (rest.map fun v => v.category).sum ≤ 8) (hdg : decode cc g.pc = .ok (.invokevirtual index, 3)) (hf : cells + mc ≤ R.cells ∧ slots + ms ≤ R.slots) :
    vx_Run p l e R s m args below meth c H locs cells slots mc ms g rest (Qc (Value.ref b :: As).toArray) XC free := by
  have hK : vx_Back l R p e below s args y 3 8 (PreOf R mc ms Pc) (PostOf Qc mc ms free) (vx_Post XC mc ms free) := vx_callBack cw.1 hM hp.1
  obtain ⟨⟨-, -, -, -, -, -, hcode, -, hy, hlen, hl⟩, hin, hse⟩ := cw
  obtain ⟨hx, hb, hml, ho, -⟩ := S
  obtain ⟨-, ⟨cellB, hcB, hoB, hclB⟩, hPc⟩ := hp
  intro T hT X
  rcases vx_callV X hx (C := C) (bytes := bytes) (maxL := maxL) (ret := ret) ho hl hin hse hcode hy hK (by rw [hT]; exact hcB) hoB hclB hg (hsize.trans hml.symm) (argsL := As) (rest := rest) (fun sig h => hn.trans (hlen sig h)) hstack hW (by rw [hb]; exact hdg)
    (fun vm₁ hW₁ => ⟨hf.1, hf.2, hPc (T.setVm vm₁) hT hW₁⟩) with ⟨v, vm₁, ⟨U', l2, c2, s2⟩, hW₁, X', ⟨g', mk, t, L, e1, e2, hq, h1, hL, h2, h3⟩, st⟩ | ⟨q, vm₁, ⟨U', l2, c2, s2⟩, hW₁, X', ⟨g', mk, t, L, E, ce, e1, e2, hq, hce, hcv, hcl, h1, hL, h2, h3⟩, st⟩
  · dsimp only [Pt.U, Pt.locs, Pt.cells, Pt.slots] at X' e1 e2 h1 h2 h3 st
    subst h1; subst h2; subst h3
    exact Or.inl ⟨v, (T.setVm vm₁).calling g' mk (Value.ref b :: As).toArray, t, U', L, hT, X', hL, e1, e2, hq, st⟩
  · dsimp only [Pt.U, Pt.locs, Pt.cells, Pt.slots] at X' e1 e2 h1 h2 h3 st hcl
    subst h1; subst h2; subst h3
    exact Or.inr ⟨q, (T.setVm vm₁).calling g' mk (Value.ref b :: As).toArray, t, U', L, E, ce, hT, X', hL, e1, e2, hq, hce, hcv, vx_cls hW₁ hcl, st⟩
theorem vx_runS (S : CallFix p m c cc nL s args Ts own) (hM : vx_Met l y ws rm Pc Qc XC mc ms free) (cw : CallB R s args own index y bytes maxL ret ws rm mc ms n ∧ (Cond.static y).before args s = true) (hp : PreS s H Pc As)
    (hg : g.method = m) (hn : As.length = n) (hsize : g.locals.size = nL) (hstack : g.stack = As.reverse ++ rest) (hW : 2 * g.monitorRoom + (rest.map fun v => v.category).sum ≤ 8) (hdg : decode cc g.pc = .ok (.invokestatic index, 3)) (hf : cells + mc ≤ R.cells ∧ slots + ms ≤ R.slots) :
    vx_Run p l e R s m args below meth c H locs cells slots mc ms g rest (Qc As.toArray) XC free := by
  have hK : vx_Back l R p e below s args y 3 8 (PreOf R mc ms Pc) (PostOf Qc mc ms free) (vx_Post XC mc ms free) := vx_callBack cw.1 hM hp.1
  obtain ⟨⟨-, -, -, -, -, -, hcode, hini, hy, hlen, hl⟩, hstt⟩ := cw
  obtain ⟨hx, hb, hml, ho, -⟩ := S
  intro T hT X
  rcases vx_callS X hx (bytes := bytes) (maxL := maxL) (ret := ret) ho hl hstt hini hcode hy hK hg (hsize.trans hml.symm) (argsL := As) (rest := rest) (fun sig h => hn.trans (hlen sig h)) hstack hW (by rw [hb]; exact hdg)
    (fun vm₁ hW₁ => ⟨hf.1, hf.2, hp.2 (T.setVm vm₁) hT hW₁⟩) with ⟨v, vm₁, ⟨U', l2, c2, s2⟩, hW₁, X', ⟨g', mk, t, L, e1, e2, hq, h1, hL, h2, h3⟩, st⟩ | ⟨q, vm₁, ⟨U', l2, c2, s2⟩, hW₁, X', ⟨g', mk, t, L, E, ce, e1, e2, hq, hce, hcv, hcl, h1, hL, h2, h3⟩, st⟩
  · dsimp only [Pt.U, Pt.locs, Pt.cells, Pt.slots] at X' e1 e2 h1 h2 h3 st
    subst h1; subst h2; subst h3
    exact Or.inl ⟨v, (T.setVm vm₁).calling g' mk As.toArray, t, U', L, hT, X', hL, e1, e2, hq, st⟩
  · dsimp only [Pt.U, Pt.locs, Pt.cells, Pt.slots] at X' e1 e2 h1 h2 h3 st hcl
    subst h1; subst h2; subst h3
    exact Or.inr ⟨q, (T.setVm vm₁).calling g' mk As.toArray, t, U', L, E, ce, hT, X', hL, e1, e2, hq, hce, hcv, vx_cls hW₁ hcl, st⟩
end Runs
section Rows
variable {p : Program} {l : Launch} {e : Env} {R : Room} {s : State} {m : MethodId} {args : Array Value} {below : List Frame} {meth : Method} {c : Code} {H : Heap} {locs : List Loc} {cells slots : Nat} {Q : State → Prop}
variable {mc ms : Nat} {free : Addr → Prop} {A0 A1 : Nat → Prop} {H0 : Heap} {a : Array Value} {pc : Nat} {ls : Array Slot} {st0 rest : List Value}
theorem vx_keep {st₀ t T' : State} {L : List Loc} (h0 : st₀.heap = H) (e1 : T'.heap = t.heap) (hS : va_S A0 H0 H locs) (hA : ∀ q, q < H.size → A1 q → A0 q) (hf : ∀ q, free q → A0 q) (hL : ∀ q ∈ L, free q.base) (hF : va_F A1 st₀ t) :
    H.size ≤ T'.heap.size ∧ (∀ q : Nat, q < H.size → ¬ A1 q → T'.heap[q]? = H[q]?) ∧ va_S A0 H0 T'.heap (locs ++ L) := by
  obtain ⟨hz, hk⟩ := hF
  rw [h0] at hz hk
  exact ⟨by rw [e1]; exact hz, fun q h1 h2 => by rw [e1]; exact hk q h1 h2,
    ⟨Nat.le_trans hS.1 (by rw [e1]; exact hz), fun q h1 h2 => by rw [e1, hk q (Nat.lt_of_lt_of_le h1 hS.1) (fun z => h2 (hA q (Nat.lt_of_lt_of_le h1 hS.1) z))]; exact hS.2.1 q h1 h2, fun q hq => by
      rcases List.mem_append.mp hq with h | h
      · exact hS.2.2 q h
      · exact hf _ (hL q h)⟩⟩
theorem vx_calli {S SX : Type} {post : Int32 → S → Prop} {px : SX → Prop} {B : S → State → Prop} {BX : String → SX → State → Prop} {AX : Nat → Prop} (hr : vx_Run p l e R s m args below meth c H locs cells slots mc ms (F0 m pc ls st0) rest (va_Qi post B A1 a) (vx_X px BX AX) free) (hS : va_S A0 H0 H locs) (hA : ∀ q, q < H.size → A1 q → A0 q) (hf : ∀ q, free q → A0 q) (hAX : ∀ q, q < H.size → AX q → A0 q)
    (kx : ∀ (E : String) (ce : Cell) (q9 : Addr) (u : SX) (t : State) (H1 : Heap) (locs1 : List Loc), t.heap = H1 → s.vm.Alike t.vm → px u → BX E u t → H.size ≤ H1.size → (∀ q : Nat, q < H.size → ¬ AX q → H1[q]? = H[q]?) → va_S A0 H0 H1 locs1 → H1[q9]? = some ce → ce.vm = .none → s.vm.findClass E = some ce.cls → vx_W p l e R s m args below meth c H1 locs1 (cells + mc) (slots + ms) Q (F0 m pc ls rest) q9)
    (kk : ∀ (r : Int32) (u : S) (t : State) (H1 : Heap) (locs1 : List Loc), t.heap = H1 → s.vm.Alike t.vm → post r u → B u t → H.size ≤ H1.size → (∀ q : Nat, q < H.size → ¬ A1 q → H1[q]? = H[q]?) → va_S A0 H0 H1 locs1 → W p l e R s m args below meth c H1 locs1 (cells + mc) (slots + ms) Q (F0 m (pc + 3) ls (.int r :: rest))) : W p l e R s m args below meth c H locs cells slots Q (F0 m pc ls st0) := by
  intro T hT X
  rcases hr T hT X with ⟨v, st₀, t, T', L, h0, X', hL, e1, e2, ⟨⟨r, u, hv, hp, hb⟩, hF⟩, st⟩ | ⟨q, st₀, t, T', L, E, ce, h0, X', hL, e1, e2, ⟨u, hp, hb, hF⟩, hce, hcv, hcl, st⟩
  · cases hv
    obtain ⟨k1, k2, k3⟩ := vx_keep h0 e1 hS hA hf hL hF
    obtain ⟨t2, a1, b1⟩ := kk r u t T'.heap (locs ++ L) e1.symm (by rw [← e2]; exact X'.warmed.alike) hp hb k1 k2 k3 T' rfl X'
    exact ⟨t2, st t2 a1, b1⟩
  · obtain ⟨k1, k2, k3⟩ := vx_keep h0 e1 hS hAX hf hL hF
    obtain ⟨t2, a1, b1⟩ := kx E ce q u t T'.heap (locs ++ L) e1.symm (by rw [← e2]; exact X'.warmed.alike) hp hb k1 k2 k3 (by rw [e1]; exact hce) hcv hcl T' rfl X'
    exact ⟨t2, st.trans a1, b1⟩
theorem vx_calll {S SX : Type} {post : Int64 → S → Prop} {px : SX → Prop} {B : S → State → Prop} {BX : String → SX → State → Prop} {AX : Nat → Prop} (hr : vx_Run p l e R s m args below meth c H locs cells slots mc ms (F0 m pc ls st0) rest (va_Ql post B A1 a) (vx_X px BX AX) free) (hS : va_S A0 H0 H locs) (hA : ∀ q, q < H.size → A1 q → A0 q) (hf : ∀ q, free q → A0 q) (hAX : ∀ q, q < H.size → AX q → A0 q)
    (kx : ∀ (E : String) (ce : Cell) (q9 : Addr) (u : SX) (t : State) (H1 : Heap) (locs1 : List Loc), t.heap = H1 → s.vm.Alike t.vm → px u → BX E u t → H.size ≤ H1.size → (∀ q : Nat, q < H.size → ¬ AX q → H1[q]? = H[q]?) → va_S A0 H0 H1 locs1 → H1[q9]? = some ce → ce.vm = .none → s.vm.findClass E = some ce.cls → vx_W p l e R s m args below meth c H1 locs1 (cells + mc) (slots + ms) Q (F0 m pc ls rest) q9)
    (kk : ∀ (r : Int64) (u : S) (t : State) (H1 : Heap) (locs1 : List Loc), t.heap = H1 → s.vm.Alike t.vm → post r u → B u t → H.size ≤ H1.size → (∀ q : Nat, q < H.size → ¬ A1 q → H1[q]? = H[q]?) → va_S A0 H0 H1 locs1 → W p l e R s m args below meth c H1 locs1 (cells + mc) (slots + ms) Q (F0 m (pc + 3) ls (.long r :: rest))) : W p l e R s m args below meth c H locs cells slots Q (F0 m pc ls st0) := by
  intro T hT X
  rcases hr T hT X with ⟨v, st₀, t, T', L, h0, X', hL, e1, e2, ⟨⟨r, u, hv, hp, hb⟩, hF⟩, st⟩ | ⟨q, st₀, t, T', L, E, ce, h0, X', hL, e1, e2, ⟨u, hp, hb, hF⟩, hce, hcv, hcl, st⟩
  · cases hv
    obtain ⟨k1, k2, k3⟩ := vx_keep h0 e1 hS hA hf hL hF
    obtain ⟨t2, a1, b1⟩ := kk r u t T'.heap (locs ++ L) e1.symm (by rw [← e2]; exact X'.warmed.alike) hp hb k1 k2 k3 T' rfl X'
    exact ⟨t2, st t2 a1, b1⟩
  · obtain ⟨k1, k2, k3⟩ := vx_keep h0 e1 hS hAX hf hL hF
    obtain ⟨t2, a1, b1⟩ := kx E ce q u t T'.heap (locs ++ L) e1.symm (by rw [← e2]; exact X'.warmed.alike) hp hb k1 k2 k3 (by rw [e1]; exact hce) hcv hcl T' rfl X'
    exact ⟨t2, st.trans a1, b1⟩
theorem vx_callf {S SX : Type} {post : UInt32 → S → Prop} {px : SX → Prop} {B : S → State → Prop} {BX : String → SX → State → Prop} {AX : Nat → Prop} (hr : vx_Run p l e R s m args below meth c H locs cells slots mc ms (F0 m pc ls st0) rest (va_Qf post B A1 a) (vx_X px BX AX) free) (hS : va_S A0 H0 H locs) (hA : ∀ q, q < H.size → A1 q → A0 q) (hf : ∀ q, free q → A0 q) (hAX : ∀ q, q < H.size → AX q → A0 q)
    (kx : ∀ (E : String) (ce : Cell) (q9 : Addr) (u : SX) (t : State) (H1 : Heap) (locs1 : List Loc), t.heap = H1 → s.vm.Alike t.vm → px u → BX E u t → H.size ≤ H1.size → (∀ q : Nat, q < H.size → ¬ AX q → H1[q]? = H[q]?) → va_S A0 H0 H1 locs1 → H1[q9]? = some ce → ce.vm = .none → s.vm.findClass E = some ce.cls → vx_W p l e R s m args below meth c H1 locs1 (cells + mc) (slots + ms) Q (F0 m pc ls rest) q9)
    (kk : ∀ (r : UInt32) (u : S) (t : State) (H1 : Heap) (locs1 : List Loc), t.heap = H1 → s.vm.Alike t.vm → post r u → B u t → H.size ≤ H1.size → (∀ q : Nat, q < H.size → ¬ A1 q → H1[q]? = H[q]?) → va_S A0 H0 H1 locs1 → W p l e R s m args below meth c H1 locs1 (cells + mc) (slots + ms) Q (F0 m (pc + 3) ls (.float r :: rest))) : W p l e R s m args below meth c H locs cells slots Q (F0 m pc ls st0) := by
  intro T hT X
  rcases hr T hT X with ⟨v, st₀, t, T', L, h0, X', hL, e1, e2, ⟨⟨r, u, hv, hp, hb⟩, hF⟩, st⟩ | ⟨q, st₀, t, T', L, E, ce, h0, X', hL, e1, e2, ⟨u, hp, hb, hF⟩, hce, hcv, hcl, st⟩
  · cases hv
    obtain ⟨k1, k2, k3⟩ := vx_keep h0 e1 hS hA hf hL hF
    obtain ⟨t2, a1, b1⟩ := kk r u t T'.heap (locs ++ L) e1.symm (by rw [← e2]; exact X'.warmed.alike) hp hb k1 k2 k3 T' rfl X'
    exact ⟨t2, st t2 a1, b1⟩
  · obtain ⟨k1, k2, k3⟩ := vx_keep h0 e1 hS hAX hf hL hF
    obtain ⟨t2, a1, b1⟩ := kx E ce q u t T'.heap (locs ++ L) e1.symm (by rw [← e2]; exact X'.warmed.alike) hp hb k1 k2 k3 (by rw [e1]; exact hce) hcv hcl T' rfl X'
    exact ⟨t2, st.trans a1, b1⟩
theorem vx_calld {S SX : Type} {post : UInt64 → S → Prop} {px : SX → Prop} {B : S → State → Prop} {BX : String → SX → State → Prop} {AX : Nat → Prop} (hr : vx_Run p l e R s m args below meth c H locs cells slots mc ms (F0 m pc ls st0) rest (va_Qd post B A1 a) (vx_X px BX AX) free) (hS : va_S A0 H0 H locs) (hA : ∀ q, q < H.size → A1 q → A0 q) (hf : ∀ q, free q → A0 q) (hAX : ∀ q, q < H.size → AX q → A0 q)
    (kx : ∀ (E : String) (ce : Cell) (q9 : Addr) (u : SX) (t : State) (H1 : Heap) (locs1 : List Loc), t.heap = H1 → s.vm.Alike t.vm → px u → BX E u t → H.size ≤ H1.size → (∀ q : Nat, q < H.size → ¬ AX q → H1[q]? = H[q]?) → va_S A0 H0 H1 locs1 → H1[q9]? = some ce → ce.vm = .none → s.vm.findClass E = some ce.cls → vx_W p l e R s m args below meth c H1 locs1 (cells + mc) (slots + ms) Q (F0 m pc ls rest) q9)
    (kk : ∀ (r : UInt64) (u : S) (t : State) (H1 : Heap) (locs1 : List Loc), t.heap = H1 → s.vm.Alike t.vm → post r u → B u t → H.size ≤ H1.size → (∀ q : Nat, q < H.size → ¬ A1 q → H1[q]? = H[q]?) → va_S A0 H0 H1 locs1 → W p l e R s m args below meth c H1 locs1 (cells + mc) (slots + ms) Q (F0 m (pc + 3) ls (.double r :: rest))) : W p l e R s m args below meth c H locs cells slots Q (F0 m pc ls st0) := by
  intro T hT X
  rcases hr T hT X with ⟨v, st₀, t, T', L, h0, X', hL, e1, e2, ⟨⟨r, u, hv, hp, hb⟩, hF⟩, st⟩ | ⟨q, st₀, t, T', L, E, ce, h0, X', hL, e1, e2, ⟨u, hp, hb, hF⟩, hce, hcv, hcl, st⟩
  · cases hv
    obtain ⟨k1, k2, k3⟩ := vx_keep h0 e1 hS hA hf hL hF
    obtain ⟨t2, a1, b1⟩ := kk r u t T'.heap (locs ++ L) e1.symm (by rw [← e2]; exact X'.warmed.alike) hp hb k1 k2 k3 T' rfl X'
    exact ⟨t2, st t2 a1, b1⟩
  · obtain ⟨k1, k2, k3⟩ := vx_keep h0 e1 hS hAX hf hL hF
    obtain ⟨t2, a1, b1⟩ := kx E ce q u t T'.heap (locs ++ L) e1.symm (by rw [← e2]; exact X'.warmed.alike) hp hb k1 k2 k3 (by rw [e1]; exact hce) hcv hcl T' rfl X'
    exact ⟨t2, st.trans a1, b1⟩
theorem vx_callv {S SX : Type} {post : S → Prop} {px : SX → Prop} {B : S → State → Prop} {BX : String → SX → State → Prop} {AX : Nat → Prop} (hr : vx_Run p l e R s m args below meth c H locs cells slots mc ms (F0 m pc ls st0) rest (va_Qv post B A1 a) (vx_X px BX AX) free) (hS : va_S A0 H0 H locs) (hA : ∀ q, q < H.size → A1 q → A0 q) (hf : ∀ q, free q → A0 q) (hAX : ∀ q, q < H.size → AX q → A0 q)
    (kx : ∀ (E : String) (ce : Cell) (q9 : Addr) (u : SX) (t : State) (H1 : Heap) (locs1 : List Loc), t.heap = H1 → s.vm.Alike t.vm → px u → BX E u t → H.size ≤ H1.size → (∀ q : Nat, q < H.size → ¬ AX q → H1[q]? = H[q]?) → va_S A0 H0 H1 locs1 → H1[q9]? = some ce → ce.vm = .none → s.vm.findClass E = some ce.cls → vx_W p l e R s m args below meth c H1 locs1 (cells + mc) (slots + ms) Q (F0 m pc ls rest) q9)
    (kk : ∀ (u : S) (t : State) (H1 : Heap) (locs1 : List Loc), t.heap = H1 → s.vm.Alike t.vm → post u → B u t → H.size ≤ H1.size → (∀ q : Nat, q < H.size → ¬ A1 q → H1[q]? = H[q]?) → va_S A0 H0 H1 locs1 → W p l e R s m args below meth c H1 locs1 (cells + mc) (slots + ms) Q (F0 m (pc + 3) ls (rest))) : W p l e R s m args below meth c H locs cells slots Q (F0 m pc ls st0) := by
  intro T hT X
  rcases hr T hT X with ⟨v, st₀, t, T', L, h0, X', hL, e1, e2, ⟨⟨u, hv, hp, hb⟩, hF⟩, st⟩ | ⟨q, st₀, t, T', L, E, ce, h0, X', hL, e1, e2, ⟨u, hp, hb, hF⟩, hce, hcv, hcl, st⟩
  · cases hv
    obtain ⟨k1, k2, k3⟩ := vx_keep h0 e1 hS hA hf hL hF
    obtain ⟨t2, a1, b1⟩ := kk u t T'.heap (locs ++ L) e1.symm (by rw [← e2]; exact X'.warmed.alike) hp hb k1 k2 k3 T' rfl X'
    exact ⟨t2, st t2 a1, b1⟩
  · obtain ⟨k1, k2, k3⟩ := vx_keep h0 e1 hS hAX hf hL hF
    obtain ⟨t2, a1, b1⟩ := kx E ce q u t T'.heap (locs ++ L) e1.symm (by rw [← e2]; exact X'.warmed.alike) hp hb k1 k2 k3 (by rw [e1]; exact hce) hcv hcl T' rfl X'
    exact ⟨t2, st.trans a1, b1⟩
/-- caught by the row x of this method's table; the rows ahead don't take it -/
theorem vx_catch {own name : String} {E : String} {ce : Cell} {q : Addr} (hown : s.vm.findClass own = some m.cls) (pre : List ExceptionTableEntry) (x : ExceptionTableEntry) (suf : List ExceptionTableEntry) (hsplit : c.exceptionTable.toList = pre ++ x :: suf)
    (hpass : ∀ z ∈ pre, covers z pc = false ∨ (z.catchType ≠ 0 ∧ ∃ nm : String, (Cond.classLink own z.catchType nm).before args s = true ∧ va_Nc E nm s)) (hx : covers x pc = true) (h0 : x.catchType ≠ 0)
    (hlink : (Cond.classLink own x.catchType name).before args s = true) (hcast : (Cond.castable E name).before args s = true) (hcell : H[q]? = some ce) (hv : ce.vm = .none) (hcl : s.vm.findClass E = some ce.cls)
    (kk : W p l e R s m args below meth c H locs cells slots Q (F0 m x.handlerPc ls [.ref q])) : vx_W p l e R s m args below meth c H locs cells slots Q (F0 m pc ls rest) q := by
  intro T hT X
  have hpl : e.platform.magicAccessors = ({} : Platform).magicAccessors := by rw [X.admits.platform]
  obtain ⟨c3, c4, hc3, hc4, hasg⟩ := Cond.castable_spec hcast
  cases Option.some.inj (hc3.symm.trans hcl)
  obtain ⟨c5, hc5, hcl5⟩ := Cond.classLink_spec hown hlink e.platform hpl
  cases Option.some.inj (hc4.symm.trans hc5)
  obtain ⟨vm', X', st⟩ := Stand.thenCaughtThrough X q (g := F0 m pc ls rest) rfl (Steps.refl _) (by rw [hT]; exact hcell) (by rw [hv]; rfl) (by obtain ⟨k9, h9, -⟩ := Vm.findClass_spec hcl; exact ⟨k9, h9⟩) pre x suf hsplit
    (fun z hz => by
      rcases hpass z hz with h | ⟨hz0, nm, hl1, hn1⟩
      · exact Or.inl h
      · obtain ⟨c6, hc6, hcl6⟩ := Cond.classLink_spec hown hl1 e.platform hpl
        obtain ⟨a8, b8, h1, h2, h3⟩ := hn1
        cases Option.some.inj (h1.symm.trans hcl)
        cases Option.some.inj (h2.symm.trans hc6)
        exact Or.inr ⟨hz0, _, hcl6, h3⟩) hx (Or.inr ⟨h0, c4, hcl5, hasg⟩)
  obtain ⟨t, a1, b1⟩ := kk (T.setVm vm') hT X'
  exact ⟨t, st.trans a1, b1⟩
end Rows
section Ends
variable {p : Program} {l : Launch} {e : Env} {R : Room} {s : State} {m : MethodId} {args : Array Value} {below : List Frame} {meth : Method} {c : Code} {H : Heap} {locs : List Loc} {cells slots : Nat} {Q : State → Prop}
variable {mc ms : Nat} {free : Addr → Prop} {A0 A1 : Nat → Prop} {H0 : Heap} {a : Array Value} {ls : Array Slot} {st0 rest : List Value}
variable {Qc : Array Value → State → Outcome → State → Prop} {XC : String → State → State → Prop}
/-- what a body that may throw owes at its end -/
def vx_MQ (below : List Frame) (Qc : Array Value → State → Outcome → State → Prop) (XC : String → State → State → Prop) (a : Array Value) (s : State) (mc ms : Nat) (free : Addr → Prop) : State → Prop := fun t =>
  ∃ o, t.status = .running ∧ Ended t below o ∧ vx_Q Qc XC mc ms free a s o t
theorem vx_ret {g : JFrame} {mc ms : Nat} (k : W p l e R s m args below meth c H locs cells slots (MQ below Qc args s mc ms free) g) : W p l e R s m args below meth c H locs cells slots (vx_MQ below Qc XC args s mc ms free) g := by
  intro T hT X
  obtain ⟨t, a1, o, b1, b2, b3, b4⟩ := k T hT X
  exact ⟨t, a1, o, b1, b2, Or.inl ⟨b3, b4⟩⟩
/-- not caught here: it goes on to the caller -/
theorem vx_widen {g : JFrame} {q : Addr} {k n : Nat} (h1 : cells ≤ k) (h2 : slots ≤ n) (kk : vx_W p l e R s m args below meth c H locs k n Q g q) : vx_W p l e R s m args below meth c H locs cells slots Q g q := fun T hT X => kk T hT (stand_widen X h1 h2)
theorem vx_out {pc : Nat} {E : String} {ce : Cell} {q : Addr} {mc ms : Nat} (hout : ∀ x ∈ c.exceptionTable.toList, covers x pc = false) (hlocks : meth.locks = false) (hcell : H[q]? = some ce) (hv : ce.vm = .none) (hcl : s.vm.findClass E = some ce.cls)
    (hx : ∀ t : State, t.heap = H → s.vm.Alike t.vm → XC E s t) (hf : ∀ z ∈ locs, free z.base) (hc : cells ≤ mc) (hs : slots ≤ ms) :
    vx_W p l e R s m args below meth c H locs cells slots (vx_MQ below Qc XC args s mc ms free) (F0 m pc ls rest) q := by
  intro T hT X
  obtain ⟨st1, hrun, hend, hW, hsm⟩ := X.leaveThrown q (g := F0 m pc ls rest) rfl rfl rfl hout hlocks
  have hcell9 : (T.setFrames (.throwing q :: below)).heap[q]? = some ce := by
    show T.heap[q]? = some ce
    rw [hT]; exact hcell
  exact ⟨_, st1, .threw q, hrun, hend, Or.inr ⟨q, rfl, E, ce, locs, hx _ hT hW.alike, hcell9, hv, hcl, hW, hsm.mono hc hs, hf⟩⟩
theorem vx_frame {U : State} {k n : Nat} (h : s.sameButNew ({ U with vm := s.vm } : State) locs k n) : s.heap.size ≤ U.heap.size ∧ ∀ q : Nat, q < s.heap.size → (∀ z ∈ locs, z.base ≠ q) → U.heap[q]? = s.heap[q]? := by
  obtain ⟨-, h2, -, -, -, h6⟩ := h
  refine ⟨h2, fun q hq hz => ?_⟩
  obtain ⟨c9, e1, e2, e3, e4⟩ := h6 q _ (Array.getElem?_eq_getElem hq)
  have hs : c9.slots = (s.heap[q]).slots := Array.ext_getElem? fun i => e4 i fun hm => hz _ hm rfl
  have h9 : c9 = s.heap[q] := by
    rw [hs] at e2
    exact e2
  have e5 : U.heap[q]? = some c9 := e1
  rw [e5, h9, Array.getElem?_eq_getElem hq]
/-- the words of a throw but the four that speak of the heap -/
def vx_no (w : Cond) : Bool := decide (w ≠ .isRef (.static Bundle.tN "UNASSIGNED_STACK" Bundle.steD)) && decide (w ≠ .isRef (.static Bundle.tN "SUPPRESSED_SENTINEL" Bundle.listD)) && decide (w ≠ .laysStatic Bundle.tN "UNASSIGNED_STACK" Bundle.steD) && decide (w ≠ .laysStatic Bundle.tN "SUPPRESSED_SENTINEL" Bundle.listD)
def vx_at0 (own : String) (ic : Nat) (X : String) (names : List String) : List Cond := (Bundle.ownAtoms0 own ic X names).filter vx_no
def vx_atS (own : String) (ic : Nat) (X : String) (names : List String) : List Cond := (Bundle.ownAtoms own ic X names).filter vx_no
/-- a word that the tables alone decide, or a good one -/
def vx_ot (w : Cond) : Bool := w.onTables || goodWord w
theorem vx_ot_at {args a' : Array Value} {s U : State} {w : Cond} (hW : s.WarmedH U.vm) (hvm : s.vm = U.vm) (hg : vx_ot w = true) (h : w.before args s = true) : w.before a' U = true := by
  simp only [vx_ot, Bool.or_eq_true] at hg
  rcases hg with hg | hg
  · exact va_tabs hg hvm h
  · exact word_at hW (good_of_word hg) h
/-- a list's words: the good ones out of the method's own list, the others by premises of their own -/
theorem vx_hat {args : Array Value} {s : State} {L B : List Cond} (h1 : ∀ w ∈ L.filter goodWord, w.before args s = true) (h2 : ∀ w ∈ L.filter (fun w => !goodWord w), w ∈ B) (h3 : ∀ w ∈ B, w.before args s = true) : ∀ w ∈ L, w.before args s = true := by
  intro w hw
  by_cases g : goodWord w = true
  · exact h1 w (List.mem_filter.mpr ⟨hw, g⟩)
  · refine h3 w (h2 w (List.mem_filter.mpr ⟨hw, ?_⟩))
    show (!goodWord w) = true
    cases hgw : goodWord w
    · rfl
    · exact absurd hgw g
theorem vx_c {args : Array Value} {s : State} {w : Cond} {B : List Cond} (h : w.before args s = true) (t : ∀ w ∈ B, w.before args s = true) : ∀ w' ∈ w :: B, w'.before args s = true := fun w' h' => (List.mem_cons.mp h').elim (fun e => by rw [e]; exact h) (t w')
theorem vx_n {args : Array Value} {s : State} : ∀ w ∈ ([] : List Cond), w.before args s = true := fun _ h => nomatch h
theorem vx_own {args : Array Value} {s : State} {L : List Cond} (h1 : ∀ w ∈ L.filter vx_no, w.before args s = true)
    (hU : (Cond.isRef (.static Bundle.tN "UNASSIGNED_STACK" Bundle.steD)).before args s = true) (hN : (Cond.isRef (.static Bundle.tN "SUPPRESSED_SENTINEL" Bundle.listD)).before args s = true)
    (lU : (Cond.laysStatic Bundle.tN "UNASSIGNED_STACK" Bundle.steD).before args s = true) (lN : (Cond.laysStatic Bundle.tN "SUPPRESSED_SENTINEL" Bundle.listD).before args s = true) : ∀ w ∈ L, w.before args s = true := by
  intro w hw
  by_cases e1 : w = .isRef (.static Bundle.tN "UNASSIGNED_STACK" Bundle.steD)
  · rw [e1]; exact hU
  · by_cases e2 : w = .isRef (.static Bundle.tN "SUPPRESSED_SENTINEL" Bundle.listD)
    · rw [e2]; exact hN
    · by_cases e3 : w = .laysStatic Bundle.tN "UNASSIGNED_STACK" Bundle.steD
      · rw [e3]; exact lU
      · by_cases e4 : w = .laysStatic Bundle.tN "SUPPRESSED_SENTINEL" Bundle.listD
        · rw [e4]; exact lN
        · exact h1 w (List.mem_filter.mpr ⟨hw, by unfold vx_no; rw [decide_eq_true e1, decide_eq_true e2, decide_eq_true e3, decide_eq_true e4]; rfl⟩)
/-- where a static field lies, its class's statics cell in H -/
def vx_L (C n d : String) (A : Nat → Prop) (U : State) (H : Heap) : Prop := ∃ (c : ClassId) (k : Class) (i : Nat) (f : Field) (a : Nat) (cell : Cell), U.vm.findClass C = some c ∧ U.fieldFound? C n d = some (c, k, i, f) ∧ f.isStatic = true ∧ k.statics = some a ∧ H[a]? = some cell ∧ cell.vm.isStatics = true ∧ cell.cls = c ∧ f.slot < cell.slots.size ∧ k.staticTypes[f.slot]? = some f.type ∧ ¬ A a
theorem vx_L.moved {C n d : String} {A : Nat → Prop} {u U : State} {H : Heap} (hvm : u.vm.Alike U.vm) (h : vx_L C n d A u H) : vx_L C n d A U H := by
  obtain ⟨c, k, i, f, a, cell, h1, h2, h3, h4, h5, h6, h7, h8, h9, h10⟩ := h
  obtain ⟨k', hi', he⟩ := State.fieldFound?_setVm hvm h2
  exact ⟨c, k', i, f, a, cell, by rw [hvm.findClass]; exact h1, hi', h3, by rw [he]; exact h4, h5, h6, h7, h8, by rw [he]; exact h9, h10⟩
theorem vx_L.kept {C n d : String} {A : Nat → Prop} {U : State} {H H1 : Heap} (h : vx_L C n d A U H) (hq : ∀ a : Nat, a < H.size → ¬ A a → H1[a]? = H[a]?) : vx_L C n d A U H1 := by
  obtain ⟨c, k, i, f, a, cell, h1, h2, h3, h4, h5, h6, h7, h8, h9, h10⟩ := h
  exact ⟨c, k, i, f, a, cell, h1, h2, h3, h4, by rw [hq a (Array.getElem?_eq_some_iff.mp h5).1 h10]; exact h5, h6, h7, h8, h9, h10⟩
theorem vx_L.narrow {C n d : String} {A B : Nat → Prop} {U : State} {H : Heap} (h : vx_L C n d A U H) (hAB : ∀ q, B q → A q) : vx_L C n d B U H := by
  obtain ⟨c, k, i, f, a, cell, h1, h2, h3, h4, h5, h6, h7, h8, h9, h10⟩ := h
  exact ⟨c, k, i, f, a, cell, h1, h2, h3, h4, h5, h6, h7, h8, h9, fun z => h10 (hAB _ z)⟩
theorem vx_L.word {C n d : String} {A : Nat → Prop} {s : State} {args : Array Value} (h : vx_L C n d A s s.heap) : (Cond.laysStatic C n d).before args s = true := by
  obtain ⟨c, k, i, f, a, cell, h1, h2, h3, h4, h5, h6, h7, h8, h9, -⟩ := h
  show (Cond.laysStatic C n d).holds args s none s [] = true
  exact Cond.laysStatic_of h1 h2 h3 h4 h5 h6 h7 h8 h9
/-- .. and what it holds: null or some reference -/
def vx_Zq (C n d : String) (A : Nat → Prop) (U : State) (H : Heap) : Prop := va_Zq C n d A U H ∧ vx_L C n d A U H
theorem vx_Zq.moved {C n d : String} {A : Nat → Prop} {u U : State} {H : Heap} (hvm : u.vm.Alike U.vm) (h : vx_Zq C n d A u H) : vx_Zq C n d A U H := ⟨va_Zq.moved hvm h.1, vx_L.moved hvm h.2⟩
theorem vx_Zq.kept {C n d : String} {A : Nat → Prop} {U : State} {H H1 : Heap} (h : vx_Zq C n d A U H) (hq : ∀ a : Nat, a < H.size → ¬ A a → H1[a]? = H[a]?) : vx_Zq C n d A U H1 := ⟨va_Zq.kept h.1 hq, vx_L.kept h.2 hq⟩
theorem vx_Zq.narrow {C n d : String} {A B : Nat → Prop} {U : State} {H : Heap} (h : vx_Zq C n d A U H) (hAB : ∀ q, B q → A q) : vx_Zq C n d B U H := ⟨va_Zq.narrow h.1 hAB, vx_L.narrow h.2 hAB⟩
theorem vx_Zqof {args : Array Value} {s : State} {C n d : String} {A : Nat → Prop} (hl : (Cond.laysStatic C n d).before args s = true) (hini : (Cond.initialized C).before args s = true) (h : (Cond.isRef (.static C n d)).before args s = true) (hA : ∀ a : Nat, a < s.heap.size → ¬ A a) : vx_Zq C n d A s s.heap := by
  refine ⟨va_Zqof hl hini h hA, ?_⟩
  obtain ⟨c, k, i, f, a, cell, h1, h2, h3, h4, h5, h6, h7, h8, h9⟩ := Cond.laysStatic_spec hl
  exact ⟨c, k, i, f, a, cell, h1, h2, h3, h4, h5, h6, h7, h8, h9, hA a (Array.getElem?_eq_some_iff.mp h5).1⟩
theorem vx_isRef {C n d : String} {v : Value} {A : Nat → Prop} {s : State} {args : Array Value} (h : va_Z C n d v A s s.heap) (hv : v.isRef = true) : (Cond.isRef (.static C n d)).before args s = true := by
  obtain ⟨cf, kf, fi, f, a, cell, h1, h2, h3, h4, h5, h6, h7, -⟩ := h
  have he : (Term.static C n d).eval args s none [] s = some v := by
    simp [Term.eval, State.fieldNamed?, h1, h2, h4, h5, h6, h7]
  simp only [Cond.before, Cond.holds, Cond.value, he]
  cases v <;> simp_all [Value.isRef]
theorem vx_isRefq {C n d : String} {A : Nat → Prop} {s : State} {args : Array Value} (h : va_Zq C n d A s s.heap) : (Cond.isRef (.static C n d)).before args s = true := by
  rcases h with h | ⟨t, h⟩
  · exact vx_isRef h rfl
  · exact vx_isRef h rfl
/-- the same frame, seen from here: as if the method were called anew in this heap -/
theorem vx_rebase {T : State} (X : Stand p l e R s m args below meth c T locs cells slots) {R' : Room} (hf : R'.frames ≤ R.frames) (hl : R'.locals ≤ R.locals) (hc : cells + R'.cells ≤ R.cells) (hs : slots + R'.slots ≤ R.slots) :
    Stand p l e R' ((T.setVm s.vm).setFrames (.invoking m args :: below)) m args below meth c T [] 0 0 := by
  have htop : (T.setVm s.vm).topJava?.isSome := X.here.top
  have hF : ((T.setVm s.vm).setFrames (.invoking m args :: below)).frames = .invoking m args :: below := State.frames_setFrames _ (State.cur_lt_of_top htop)
  obtain ⟨g₀, hg0⟩ := Option.isSome_iff_exists.mp htop
  obtain ⟨r, hr⟩ := State.topJava?_eq_some.mp hg0
  have hl9 : e.platform.stackLimits (T.setVm s.vm).me = e.platform.stackLimits s.me := X.limits
  have hb9 : (T.setVm s.vm).me.stackBytes = s.me.stackBytes := X.bytes
  refine ⟨X.admits, X.cas, X.clock, hF, ?_, X.hears, X.method, X.code, X.here, X.tail, X.warmed, ?_, ?_, ?_⟩
  · have h := X.room
    have hU : ((T.setVm s.vm).setFrames (.invoking m args :: below)).localsInUse = s.localsInUse := by
      rw [State.localsInUse_invoking hF (meth := meth) (c := c) X.method X.code, State.localsInUse_invoking X.frames X.method X.code]
    simp only [State.hasRoom, Bool.and_eq_true, decide_eq_true_eq] at h ⊢
    obtain ⟨⟨⟨⟨h1, h2, h3, h4, h5, h6⟩, h7⟩, h8⟩, h9⟩ := h
    rw [X.frames, List.length_cons] at h2 h3
    have q1 := X.heapSize
    have q2 := X.used
    simp only [hF, hU, List.length_cons, State.stackLimits_setFrames, State.stackBytes_setFrames, hl9, hb9]
    refine ⟨⟨⟨⟨by omega, by omega, by omega, by omega, by omega, h6⟩, ?_⟩, ?_⟩, X.book⟩
    · show T.heap.size + R'.cells ≤ e.platform.maxCells
      omega
    · show T.slotsUsed + R'.slots ≤ e.platform.maxSlots
      omega
  · rw [State.stackLimits_setFrames]; rfl
  · rw [State.stackBytes_setFrames]; rfl
  · refine ⟨?_, Nat.le_refl _, Nat.le_refl _, ?_, ?_, fun a c9 h9 => ⟨c9, h9, rfl, rfl, fun _ _ => rfl⟩⟩
    · obtain ⟨t, ht, -⟩ := State.frames_cons hr
      show T.setVm s.vm = { ((T.setVm s.vm).setFrames (.invoking m args :: below)).setFrames (T.setVm s.vm).frames with heap := T.heap, slotsUsed := T.slotsUsed }
      rw [State.setFrames_setFrames, State.setFrames_self ht]
      rfl
    · show T.slotsUsed = T.slotsUsed + ((T.heap.toList.drop T.heap.size).map (·.slots.size)).sum
      rw [List.drop_eq_nil_of_le (Nat.le_of_eq Array.length_toList)]
      rfl
    · show ((T.heap.toList.drop T.heap.size).map (·.slots.size)).sum ≤ 0
      rw [List.drop_eq_nil_of_le (Nat.le_of_eq Array.length_toList)]
      exact Nat.le_refl _
/-- 'throw new E()': new; dup; invokespecial; athrow -/
theorem vx_throw0 {cc : ByteArray} {pc : Nat} (hexec : p.tables.exec = Jvm.exec) (hb : c.code = cc) (hl : l.stackTraces = false) {own cls : String} {names : List String} {ik ic mc ms : Nat} {A : Nat → Prop}
    (hown : s.vm.findClass own = some m.cls) (hcls : Bundle.fit cls = true) (hnames : ∀ n ∈ names, Bundle.fit n = true)
    (hk : (Cond.classLink own ik cls).before args s = true) (hini : (Cond.initialized cls).before args s = true) (hat : ∀ w ∈ vx_at0 own ic cls names, w.before args s = true)
    (hgood : ∀ w ∈ Cond.classLink own ik cls :: Cond.initialized cls :: vx_at0 own ic cls names, vx_ot w = true)
    (hU : vx_Zq Bundle.tN "UNASSIGNED_STACK" Bundle.steD A s s.heap) (hN : vx_Zq Bundle.tN "SUPPRESSED_SENTINEL" Bundle.listD A s s.heap) (hS : va_S A s.heap H locs) (hsize : ls.size = c.maxLocals)
    (d0 : decode cc pc = .ok (.new ik, 3)) (d3 : decode cc (pc + 3) = .ok (.dup, 1)) (d4 : decode cc (pc + 4) = .ok (.invokespecial ic, 3)) (d7 : decode cc (pc + 7) = .ok (.athrow, 1))
    (hout : ∀ x ∈ c.exceptionTable.toList, covers x (pc + 7) = false)
    (hRframes : names.length + 3 < R.frames) (hRlocals : (rest.map fun v => v.category).sum + (13 * (names.length + 1) + 42) ≤ R.locals) (hRcells : cells + 1 ≤ R.cells) (hRslots : slots + 6 ≤ R.slots) (hlocks : meth.locks = false)
    (hx : ∀ t : State, s.vm.Alike t.vm → H.size ≤ t.heap.size → (∀ q : Nat, q < H.size → t.heap[q]? = H[q]?) → XC cls s t)
    (hf : ∀ z ∈ locs, free z.base) (hc : cells + 1 ≤ mc) (hs : slots + 6 ≤ ms) :
    W p l e R s m args below meth c H locs cells slots (vx_MQ below Qc XC args s mc ms free) (F0 m pc ls rest) := by
  intro T hT X
  have htr : e.platform.stackTraces = false := (show e.platform.stackTraces = l.stackTraces by rw [X.admits.platform]).trans hl
  have Y := vx_rebase X (R' := { frames := R.frames, locals := R.locals, cells := 1, slots := 6 }) (Nat.le_refl _) (Nat.le_refl _) hRcells hRslots
  obtain ⟨s', hA⟩ : ∃ z, z = (T.setVm s.vm).setFrames (.invoking m args :: below) := ⟨_, rfl⟩
  rw [← hA] at Y
  have hvm : s'.vm = s.vm := by rw [hA]; rfl
  have hhp : s'.heap = H := by rw [hA]; exact hT
  have hW0 : s.WarmedH s'.vm := by rw [hvm]; exact State.WarmedH.refl s
  have hat' : ∀ w ∈ vx_at0 own ic cls names, w.before args s' = true := fun w hw => vx_ot_at hW0 hvm.symm (hgood w (List.mem_cons_of_mem _ (List.mem_cons_of_mem _ hw))) (hat w hw)
  have hk' : (Cond.classLink own ik cls).before args s' = true := vx_ot_at hW0 hvm.symm (hgood _ List.mem_cons_self) hk
  have hini' : (Cond.initialized cls).before args s' = true := vx_ot_at hW0 hvm.symm (hgood _ (List.mem_cons_of_mem _ List.mem_cons_self)) hini
  have hU' : vx_Zq Bundle.tN "UNASSIGNED_STACK" Bundle.steD A s' s'.heap := by rw [hhp]; exact vx_Zq.moved hW0.alike (hU.kept hS.2.1)
  have hN' : vx_Zq Bundle.tN "SUPPRESSED_SENTINEL" Bundle.listD A s' s'.heap := by rw [hhp]; exact vx_Zq.moved hW0.alike (hN.kept hS.2.1)
  have h : ∀ w ∈ Bundle.ownAtoms0 own ic cls names, w.before args s' = true := vx_own hat' (vx_isRefq hU'.1) (vx_isRefq hN'.1) hU'.2.word hN'.2.word
  have hown' : s'.vm.findClass own = some m.cls := by rw [hvm]; exact hown
  have hins : (Cond.instantiable cls 6).before args s' = true := h _ (by simp [Bundle.ownAtoms0])
  obtain ⟨vm₁, cX, kX, hfX, hkX, -, -, X₁, st1⟩ := Y.newCold hexec (own := own) (C := cls) (index := ik) (n := 6) hown' hk' hins hini'
    (g := F0 m pc ls rest) rfl (by rw [hb]; exact d0) (Nat.le_refl _) (Nat.le_refl _)
  generalize hT1 : (T.setVm vm₁).pushCell { cls := cX, slots := kX.instanceTypes.map defaultValue, vm := .none } = T1 at X₁ st1
  have hcat : (Value.ref T.heap.size).category = 1 := rfl
  have hcellA : T1.heap[T.heap.size]? = some (freshCell cX kX) := by rw [← hT1]; exact State.heap_pushCell_size _ _
  have d3' : decode c.code (pc + 3) = .ok (.dup, 1) := by rw [hb]; exact d3
  obtain ⟨U, hsteps, hrun, hend, hW, hsame, ce, hce, hO⟩ := X₁.ctorThrow0 hexec htr (own := own) (cls := cls) (names := names) (ic := ic) hown' hcls hnames h (fun x hx => nomatch hx) hfX hkX hcellA (by rw [hhp, hT]; exact Nat.le_refl _)
    (g := { method := m, pc := pc + 4, locals := ls, stack := .ref T.heap.size :: .ref T.heap.size :: rest, locked := none }) rfl hsize rfl rfl (rest := rest) rfl
    (by rw [hb]; exact d4) (by rw [hb]; exact d7) hout hRframes (by simp only [List.map_cons, List.sum_cons, hcat]; omega) hlocks
  obtain ⟨f1, f2⟩ := vx_frame hsame
  rw [hhp] at f1 f2
  have hWs : s.WarmedH U.vm := State.WarmedH.trans hW0 hW
  have hcl : s.vm.findClass cls = some ce.cls := by
    have h9 := hO.cls
    rw [hvm] at h9
    exact h9
  have hall : s.sameButNew ({ U with vm := s.vm } : State) locs mc ms := by
    subst hA
    obtain ⟨e1, e2⟩ := hsame
    rw [State.setFrames_setFrames] at e1
    have h2 : (T.setVm s.vm).sameButNew ({ U with vm := s.vm } : State) [] (0 + 1) (0 + 6) := ⟨e1, e2⟩
    have h3 := X.same.trans h2
    rw [List.append_nil] at h3
    exact h3.mono hc hs
  refine ⟨U, ?_, .threw T.heap.size, hrun, hend, Or.inr ⟨T.heap.size, rfl, cls, ce, locs, hx U hWs.alike f1 (fun q hq => f2 q hq (fun z hz => nomatch hz)), hce, hO.vm, hcl, hWs, hall, hf⟩⟩
  refine st1 _ ?_
  show Steps p.tables e below (T1.setTop { method := m, pc := pc + 3, locals := ls, stack := .ref T.heap.size :: rest, locked := none }) _
  jvm_step X₁.here [X₁.here.top, hexec, d3', Value.category]
  exact hsteps
/-- 'throw new E("text")': new; dup; ldc; invokespecial; athrow -/
theorem vx_throwS {cc : ByteArray} {pc : Nat} (hexec : p.tables.exec = Jvm.exec) (hb : c.code = cc) (hl : l.stackTraces = false) {own cls text : String} {names : List String} {ik is ic mc ms sa : Nat} {A : Nat → Prop}
    (hown : s.vm.findClass own = some m.cls) (hcls : Bundle.fit cls = true) (hnames : ∀ n ∈ names, Bundle.fit n = true)
    (hk : (Cond.classLink own ik cls).before args s = true) (hini : (Cond.initialized cls).before args s = true) (hstr : vk_R own is text sa s) (hat : ∀ w ∈ vx_atS own ic cls names, w.before args s = true)
    (hgood : ∀ w ∈ Cond.classLink own ik cls :: Cond.initialized cls :: vx_atS own ic cls names, vx_ot w = true)
    (hU : vx_Zq Bundle.tN "UNASSIGNED_STACK" Bundle.steD A s s.heap) (hN : vx_Zq Bundle.tN "SUPPRESSED_SENTINEL" Bundle.listD A s s.heap) (hS : va_S A s.heap H locs) (hsize : ls.size = c.maxLocals)
    (d0 : decode cc pc = .ok (.new ik, 3)) (d3 : decode cc (pc + 3) = .ok (.dup, 1)) (d4 : decode cc (pc + 4) = .ok (.ldc is, 2)) (d6 : decode cc (pc + 6) = .ok (.invokespecial ic, 3)) (d9 : decode cc (pc + 9) = .ok (.athrow, 1))
    (hout : ∀ x ∈ c.exceptionTable.toList, covers x (pc + 9) = false)
    (hRframes : names.length + 3 < R.frames) (hRlocals : (rest.map fun v => v.category).sum + (13 * (names.length + 1) + 43) ≤ R.locals) (hRcells : cells + 1 ≤ R.cells) (hRslots : slots + 6 ≤ R.slots) (hlocks : meth.locks = false)
    (hx : ∀ t : State, s.vm.Alike t.vm → H.size ≤ t.heap.size → (∀ q : Nat, q < H.size → t.heap[q]? = H[q]?) → XC cls s t)
    (hf : ∀ z ∈ locs, free z.base) (hc : cells + 1 ≤ mc) (hs : slots + 6 ≤ ms) :
    W p l e R s m args below meth c H locs cells slots (vx_MQ below Qc XC args s mc ms free) (F0 m pc ls rest) := by
  intro T hT X
  have htr : e.platform.stackTraces = false := (show e.platform.stackTraces = l.stackTraces by rw [X.admits.platform]).trans hl
  have Y := vx_rebase X (R' := { frames := R.frames, locals := R.locals, cells := 1, slots := 6 }) (Nat.le_refl _) (Nat.le_refl _) hRcells hRslots
  obtain ⟨s', hA⟩ : ∃ z, z = (T.setVm s.vm).setFrames (.invoking m args :: below) := ⟨_, rfl⟩
  rw [← hA] at Y
  have hvm : s'.vm = s.vm := by rw [hA]; rfl
  have hhp : s'.heap = H := by rw [hA]; exact hT
  have hW0 : s.WarmedH s'.vm := by rw [hvm]; exact State.WarmedH.refl s
  have hat' : ∀ w ∈ vx_atS own ic cls names, w.before args s' = true := fun w hw => vx_ot_at hW0 hvm.symm (hgood w (List.mem_cons_of_mem _ (List.mem_cons_of_mem _ hw))) (hat w hw)
  have hk' : (Cond.classLink own ik cls).before args s' = true := vx_ot_at hW0 hvm.symm (hgood _ List.mem_cons_self) hk
  have hini' : (Cond.initialized cls).before args s' = true := vx_ot_at hW0 hvm.symm (hgood _ (List.mem_cons_of_mem _ List.mem_cons_self)) hini
  have hU' : vx_Zq Bundle.tN "UNASSIGNED_STACK" Bundle.steD A s' s'.heap := by rw [hhp]; exact vx_Zq.moved hW0.alike (hU.kept hS.2.1)
  have hN' : vx_Zq Bundle.tN "SUPPRESSED_SENTINEL" Bundle.listD A s' s'.heap := by rw [hhp]; exact vx_Zq.moved hW0.alike (hN.kept hS.2.1)
  have h : ∀ w ∈ Bundle.ownAtoms own ic cls names, w.before args s' = true := vx_own hat' (vx_isRefq hU'.1) (vx_isRefq hN'.1) hU'.2.word hN'.2.word
  have hown' : s'.vm.findClass own = some m.cls := by rw [hvm]; exact hown
  have hins : (Cond.instantiable cls 6).before args s' = true := h _ (by simp [Bundle.ownAtoms])
  obtain ⟨vm₁, cX, kX, hfX, hkX, -, -, X₁, st1⟩ := Y.newCold hexec (own := own) (C := cls) (index := ik) (n := 6) hown' hk' hins hini'
    (g := F0 m pc ls rest) rfl (by rw [hb]; exact d0) (Nat.le_refl _) (Nat.le_refl _)
  generalize hT1 : (T.setVm vm₁).pushCell { cls := cX, slots := kX.instanceTypes.map defaultValue, vm := .none } = T1 at X₁ st1
  have hcat : (Value.ref T.heap.size).category = 1 := rfl
  have hcellA : T1.heap[T.heap.size]? = some (freshCell cX kX) := by rw [← hT1]; exact State.heap_pushCell_size _ _
  have d3' : decode c.code (pc + 3) = .ok (.dup, 1) := by rw [hb]; exact d3
  have d4' : decode c.code (pc + 4) = .ok (.ldc is, 2) := by rw [hb]; exact d4
  have hstr' : vk_R own is text sa s' := vk_R.warm hW0 hstr
  obtain ⟨U, hsteps, hrun, hend, hW, hsame, ce, hce, hO⟩ := X₁.ctorThrowS hexec htr (own := own) (cls := cls) (names := names) (ic := ic) hown' hcls hnames h (fun x hx => nomatch hx) hfX hkX hcellA (by rw [hhp, hT]; exact Nat.le_refl _) (msg := .ref sa) rfl
    (g := { method := m, pc := pc + 6, locals := ls, stack := .ref sa :: .ref T.heap.size :: .ref T.heap.size :: rest, locked := none }) rfl hsize rfl rfl (rest := rest) rfl
    (by rw [hb]; exact d6) (by rw [hb]; exact d9) hout hRframes (by simp only [List.map_cons, List.sum_cons, hcat]; omega) hlocks
  obtain ⟨f1, f2⟩ := vx_frame hsame
  rw [hhp] at f1 f2
  have hWs : s.WarmedH U.vm := State.WarmedH.trans hW0 hW
  have hcl : s.vm.findClass cls = some ce.cls := by
    have h9 := hO.cls
    rw [hvm] at h9
    exact h9
  have hall : s.sameButNew ({ U with vm := s.vm } : State) locs mc ms := by
    subst hA
    obtain ⟨e1, e2⟩ := hsame
    rw [State.setFrames_setFrames] at e1
    have h2 : (T.setVm s.vm).sameButNew ({ U with vm := s.vm } : State) [] (0 + 1) (0 + 6) := ⟨e1, e2⟩
    have h3 := X.same.trans h2
    rw [List.append_nil] at h3
    exact h3.mono hc hs
  refine ⟨U, ?_, .threw T.heap.size, hrun, hend, Or.inr ⟨T.heap.size, rfl, cls, ce, locs, hx U hWs.alike f1 (fun q hq => f2 q hq (fun z hz => nomatch hz)), hce, hO.vm, hcl, hWs, hall, hf⟩⟩
  refine st1 _ ?_
  show Steps p.tables e below (T1.setTop { method := m, pc := pc + 3, locals := ls, stack := .ref T.heap.size :: rest, locked := none }) _
  jvm_step X₁.here [X₁.here.top, hexec, d3', Value.category]
  exact X₁.ldcString hexec (own := own) (text := text) (index := is) (a := sa) hown' hstr'.1 hstr'.2
    (g := { method := m, pc := pc + 4, locals := ls, stack := .ref T.heap.size :: .ref T.heap.size :: rest, locked := none }) rfl d4' _ hsteps
/-- 'throw new E("text")', the text by a wide index -/
theorem vx_throwSW {cc : ByteArray} {pc : Nat} (hexec : p.tables.exec = Jvm.exec) (hb : c.code = cc) (hl : l.stackTraces = false) {own cls text : String} {names : List String} {ik is ic mc ms sa : Nat} {A : Nat → Prop}
    (hown : s.vm.findClass own = some m.cls) (hcls : Bundle.fit cls = true) (hnames : ∀ n ∈ names, Bundle.fit n = true)
    (hk : (Cond.classLink own ik cls).before args s = true) (hini : (Cond.initialized cls).before args s = true) (hstr : vk_R own is text sa s) (hat : ∀ w ∈ vx_atS own ic cls names, w.before args s = true)
    (hgood : ∀ w ∈ Cond.classLink own ik cls :: Cond.initialized cls :: vx_atS own ic cls names, vx_ot w = true)
    (hU : vx_Zq Bundle.tN "UNASSIGNED_STACK" Bundle.steD A s s.heap) (hN : vx_Zq Bundle.tN "SUPPRESSED_SENTINEL" Bundle.listD A s s.heap) (hS : va_S A s.heap H locs) (hsize : ls.size = c.maxLocals)
    (d0 : decode cc pc = .ok (.new ik, 3)) (d3 : decode cc (pc + 3) = .ok (.dup, 1)) (d4 : decode cc (pc + 4) = .ok (.ldc_w is, 3)) (d7 : decode cc (pc + 7) = .ok (.invokespecial ic, 3)) (d10 : decode cc (pc + 10) = .ok (.athrow, 1))
    (hout : ∀ x ∈ c.exceptionTable.toList, covers x (pc + 10) = false)
    (hRframes : names.length + 3 < R.frames) (hRlocals : (rest.map fun v => v.category).sum + (13 * (names.length + 1) + 43) ≤ R.locals) (hRcells : cells + 1 ≤ R.cells) (hRslots : slots + 6 ≤ R.slots) (hlocks : meth.locks = false)
    (hx : ∀ t : State, s.vm.Alike t.vm → H.size ≤ t.heap.size → (∀ q : Nat, q < H.size → t.heap[q]? = H[q]?) → XC cls s t)
    (hf : ∀ z ∈ locs, free z.base) (hc : cells + 1 ≤ mc) (hs : slots + 6 ≤ ms) :
    W p l e R s m args below meth c H locs cells slots (vx_MQ below Qc XC args s mc ms free) (F0 m pc ls rest) := by
  intro T hT X
  have htr : e.platform.stackTraces = false := (show e.platform.stackTraces = l.stackTraces by rw [X.admits.platform]).trans hl
  have Y := vx_rebase X (R' := { frames := R.frames, locals := R.locals, cells := 1, slots := 6 }) (Nat.le_refl _) (Nat.le_refl _) hRcells hRslots
  obtain ⟨s', hA⟩ : ∃ z, z = (T.setVm s.vm).setFrames (.invoking m args :: below) := ⟨_, rfl⟩
  rw [← hA] at Y
  have hvm : s'.vm = s.vm := by rw [hA]; rfl
  have hhp : s'.heap = H := by rw [hA]; exact hT
  have hW0 : s.WarmedH s'.vm := by rw [hvm]; exact State.WarmedH.refl s
  have hat' : ∀ w ∈ vx_atS own ic cls names, w.before args s' = true := fun w hw => vx_ot_at hW0 hvm.symm (hgood w (List.mem_cons_of_mem _ (List.mem_cons_of_mem _ hw))) (hat w hw)
  have hk' : (Cond.classLink own ik cls).before args s' = true := vx_ot_at hW0 hvm.symm (hgood _ List.mem_cons_self) hk
  have hini' : (Cond.initialized cls).before args s' = true := vx_ot_at hW0 hvm.symm (hgood _ (List.mem_cons_of_mem _ List.mem_cons_self)) hini
  have hU' : vx_Zq Bundle.tN "UNASSIGNED_STACK" Bundle.steD A s' s'.heap := by rw [hhp]; exact vx_Zq.moved hW0.alike (hU.kept hS.2.1)
  have hN' : vx_Zq Bundle.tN "SUPPRESSED_SENTINEL" Bundle.listD A s' s'.heap := by rw [hhp]; exact vx_Zq.moved hW0.alike (hN.kept hS.2.1)
  have h : ∀ w ∈ Bundle.ownAtoms own ic cls names, w.before args s' = true := vx_own hat' (vx_isRefq hU'.1) (vx_isRefq hN'.1) hU'.2.word hN'.2.word
  have hown' : s'.vm.findClass own = some m.cls := by rw [hvm]; exact hown
  have hins : (Cond.instantiable cls 6).before args s' = true := h _ (by simp [Bundle.ownAtoms])
  obtain ⟨vm₁, cX, kX, hfX, hkX, -, -, X₁, st1⟩ := Y.newCold hexec (own := own) (C := cls) (index := ik) (n := 6) hown' hk' hins hini'
    (g := F0 m pc ls rest) rfl (by rw [hb]; exact d0) (Nat.le_refl _) (Nat.le_refl _)
  generalize hT1 : (T.setVm vm₁).pushCell { cls := cX, slots := kX.instanceTypes.map defaultValue, vm := .none } = T1 at X₁ st1
  have hcat : (Value.ref T.heap.size).category = 1 := rfl
  have hcellA : T1.heap[T.heap.size]? = some (freshCell cX kX) := by rw [← hT1]; exact State.heap_pushCell_size _ _
  have d3' : decode c.code (pc + 3) = .ok (.dup, 1) := by rw [hb]; exact d3
  have d4' : decode c.code (pc + 4) = .ok (.ldc_w is, 3) := by rw [hb]; exact d4
  have hstr' : vk_R own is text sa s' := vk_R.warm hW0 hstr
  obtain ⟨U, hsteps, hrun, hend, hW, hsame, ce, hce, hO⟩ := X₁.ctorThrowS hexec htr (own := own) (cls := cls) (names := names) (ic := ic) hown' hcls hnames h (fun x hx => nomatch hx) hfX hkX hcellA (by rw [hhp, hT]; exact Nat.le_refl _) (msg := .ref sa) rfl
    (g := { method := m, pc := pc + 7, locals := ls, stack := .ref sa :: .ref T.heap.size :: .ref T.heap.size :: rest, locked := none }) rfl hsize rfl rfl (rest := rest) rfl
    (by rw [hb]; exact d7) (by rw [hb]; exact d10) hout hRframes (by simp only [List.map_cons, List.sum_cons, hcat]; omega) hlocks
  obtain ⟨f1, f2⟩ := vx_frame hsame
  rw [hhp] at f1 f2
  have hWs : s.WarmedH U.vm := State.WarmedH.trans hW0 hW
  have hcl : s.vm.findClass cls = some ce.cls := by
    have h9 := hO.cls
    rw [hvm] at h9
    exact h9
  have hall : s.sameButNew ({ U with vm := s.vm } : State) locs mc ms := by
    subst hA
    obtain ⟨e1, e2⟩ := hsame
    rw [State.setFrames_setFrames] at e1
    have h2 : (T.setVm s.vm).sameButNew ({ U with vm := s.vm } : State) [] (0 + 1) (0 + 6) := ⟨e1, e2⟩
    have h3 := X.same.trans h2
    rw [List.append_nil] at h3
    exact h3.mono hc hs
  refine ⟨U, ?_, .threw T.heap.size, hrun, hend, Or.inr ⟨T.heap.size, rfl, cls, ce, locs, hx U hWs.alike f1 (fun q hq => f2 q hq (fun z hz => nomatch hz)), hce, hO.vm, hcl, hWs, hall, hf⟩⟩
  refine st1 _ ?_
  show Steps p.tables e below (T1.setTop { method := m, pc := pc + 3, locals := ls, stack := .ref T.heap.size :: rest, locked := none }) _
  jvm_step X₁.here [X₁.here.top, hexec, d3', Value.category]
  exact X₁.ldcStringW hexec (own := own) (text := text) (index := is) (a := sa) hown' hstr'.1 hstr'.2
    (g := { method := m, pc := pc + 4, locals := ls, stack := .ref T.heap.size :: .ref T.heap.size :: rest, locked := none }) rfl d4' _ hsteps
end Ends
section Bodies
variable {l : Launch}
theorem vx_ofW {y : MethodName} {ws ws' : List Cond} {rm : Room} {Pc : Array Value → State → Prop} {Qc : Array Value → State → Outcome → State → Prop} {XC : String → State → State → Prop} {mc ms : Nat} {free : Addr → Prop} {cc : ByteArray} {maxL : Nat} {ret : Option FieldType}
    (hy : plainName y.cls = true) (hw : ws = Cond.code y cc maxL ret :: ws')
    (body : ∀ p e s m args below meth c s₁, BodyLoose p l y (headSpec ws rm) cc maxL ret e s m args below meth c s₁ → c.maxLocals = maxL → (∀ x ∈ c.exceptionTable.toList, False) → Pc args s →
      W p l e (headSpec ws rm).room s m args below meth c s.heap [] 0 0 (vx_MQ below Qc XC args s mc ms free) (entryFrame m args maxL)) : vx_Met l y ws rm Pc Qc XC mc ms free := by
  refine MetFree.of_bodyS (code := cc) (maxLocals := maxL) (ret := ret) hy ?_ ?_
  · intro args s m h hn
    obtain ⟨meth, c, h1, h2, h3, h4, h5, h6, -, -⟩ := Cond.code_spec hn (atoms_spec (ws := ws) h _ (by rw [hw]; exact List.mem_cons_self))
    exact ⟨meth, c, h1, h2, h3, h4, h5, h6⟩
  · intro p e s m args below meth c s₁ B hml hP _
    have hh0 : s₁.heap = s.heap := by rw [B.state]; rfl
    have ht : ∀ x ∈ c.exceptionTable.toList, False := by
      obtain ⟨meth9, c9, h1, h2, -, -, -, -, h7, -⟩ := Cond.code_spec B.named (atoms_spec (ws := ws) B.pre _ (by rw [hw]; exact List.mem_cons_self))
      cases Option.some.inj (h1.symm.trans B.method)
      cases Option.some.inj (h2.symm.trans (Stand.of_body B).code)
      intro x hx
      rw [Array.isEmpty_iff.mp h7] at hx
      cases hx
    obtain ⟨t, a1, o, b1, b2, b3⟩ := body p e s m args below meth c s₁ B hml ht hP s₁ hh0 (Stand.of_body B)
    exact ⟨t, o, a1, b1, b2, b3⟩
/-- the table of a body with handlers -/
theorem vx_table {p : Program} {x y : MethodName} {S : Spec} {cc bytes : ByteArray} {maxL maxL' : Nat} {ret ret' : Option FieldType} {e : Env} {s s₁ : State} {m : MethodId} {args : Array Value} {below : List Frame} {meth : Method} {c : Code} {hh : List (Nat × Nat × Nat × Nat)}
    (B : BodyLoose p l y S cc maxL ret e s m args below meth c s₁) (h : (Cond.codeWith y bytes maxL' ret' hh).before args s = true) : c.exceptionTable.toList = tableOf hh := by
  obtain ⟨m9, meth9, c9, hn9, h1, h2, -, -, h6, -⟩ := Cond.codeWith_spec h
  cases Option.some.inj (hn9.symm.trans B.named)
  cases Option.some.inj (h1.symm.trans B.method)
  cases Option.some.inj (h2.symm.trans (Stand.of_body B).code)
  rw [← h6, table_eq]
end Bodies
end VXA
/-! ===== END ===== -/
/-! ===== BEGIN a static call of a method with an exception table ===== -/
section VXS
variable {p : Program} {l : Launch} {e : Env} {R : Room} {s : State} {m : MethodId} {args : Array Value} {below : List Frame} {meth : Method} {c : Code} {T : State} {H : Heap} {locs : List Loc} {cells slots : Nat}
abbrev vx_CSW (R : Room) (s : State) (args : Array Value) (own : String) (index : Nat) (y : MethodName) (bytes : ByteArray) (maxL : Nat) (ret : Option FieldType) (hh : List (Nat × Nat × Nat × Nat)) (ws : List Cond) (rm : Room) (mc ms n : Nat) : Prop :=
  (rm.cells = mc ∧ rm.slots = ms ∧ rm.frames + 1 ≤ R.frames ∧ 8 + (maxL + 11) + rm.locals ≤ R.locals ∧ (∀ w ∈ ws, ∀ (a' : Array Value) (U : State), s.WarmedH U.vm → w.before a' U = true) ∧ Cond.codeWith y bytes maxL ret hh ∈ ws) ∧
  (Cond.codeWith y bytes maxL ret hh).before args s = true ∧ (Cond.initialized y.cls).before args s = true ∧ (y.cls ≠ "java/lang/invoke/MethodHandle" ∧ y.cls ≠ "java/lang/invoke/VarHandle") ∧
  (∀ sig, parseMethodDescriptor y.desc = some sig → n = sig.parameters.length) ∧ (Cond.methodLink own index y).before args s = true ∧ (Cond.static y).before args s = true
theorem vx_cwSW {own : String} {index maxL mc ms : Nat} {y : MethodName} {bytes : ByteArray} {ret : Option FieldType} {hh : List (Nat × Nat × Nat × Nat)} {Ts ws ws' : List Cond} {rm : Room} (n : Nat) (ht : ∀ w ∈ Ts, w.before args s = true) (hT : GoodIn Ts (va_wsS own index y ws)) (hw : ws = Cond.codeWith y bytes maxL ret hh :: ws') (hrc : rm.cells = mc) (hrs : rm.slots = ms)
    (hd : y.cls ≠ "java/lang/invoke/MethodHandle" ∧ y.cls ≠ "java/lang/invoke/VarHandle" ∧ (parseMethodDescriptor y.desc).map (fun d => d.parameters.length) = some n) (hR : rm.frames + 1 ≤ R.frames ∧ 8 + (maxL + 11) + rm.locals ≤ R.locals) :
    vx_CSW R s args own index y bytes maxL ret hh ws rm mc ms n := by
  have ok : ∀ w ∈ va_wsS own index y ws, w.before args s = true := fun w h => ht w (hT w h).1
  have hG : GoodIn Ts ws := fun w h => hT w (by unfold va_wsS; exact List.mem_append_right _ h)
  have hc : Cond.codeWith y bytes maxL ret hh ∈ ws := by rw [hw]; exact List.mem_cons_self
  refine ⟨⟨hrc, hrs, hR.1, hR.2, pay_in ht hG, hc⟩, ht _ (hG _ hc).1, ok _ (by simp [va_wsS]), ⟨hd.1, hd.2.1⟩, fun sig h => ?_, ok _ (by simp [va_wsS]), ok _ (by simp [va_wsS])⟩
  have h2 := hd.2.2
  rw [h] at h2
  exact (Option.some.inj h2).symm
theorem vx_callSW (X : Stand p l e R s m args below meth c T locs cells slots) (hexec : p.tables.exec = Jvm.exec) {own : String} {index : Nat} {y : MethodName} {bytes : ByteArray} {maxL : Nat} {ret : Option FieldType} {hh : List (Nat × Nat × Nat × Nat)}
    (hown : s.vm.findClass own = some m.cls) (hlink : (Cond.methodLink own index y).before args s = true) (hstat : (Cond.static y).before args s = true) (hinit : (Cond.initialized y.cls).before args s = true)
    (hcode : (Cond.codeWith y bytes maxL ret hh).before args s = true) (hy : y.cls ≠ "java/lang/invoke/MethodHandle" ∧ y.cls ≠ "java/lang/invoke/VarHandle")
    {W9 : Nat} {Pre : Pt → Array Value → Prop} {Post : Pt → Array Value → Option Value → Pt → Prop} (hK : Back l R p e below s args y 3 W9 Pre Post)
    {g : JFrame} (hg : g.method = m) (hsize : g.locals.size = c.maxLocals) {argsL rest : List Value} (hlen : ∀ sig, parseMethodDescriptor y.desc = some sig → argsL.length = sig.parameters.length)
    (hstack : g.stack = argsL.reverse ++ rest) (hW : 2 * g.monitorRoom + (rest.map fun v => v.category).sum ≤ W9) (hdg : decode c.code g.pc = .ok (.invokestatic index, 3))
    (hpre : ∀ vm₁, s.WarmedH vm₁ → Pre ⟨T.setVm vm₁, locs, cells, slots⟩ argsL.toArray) :
    ∃ (v : Option Value) (vm₁ : Vm) (B : Pt), s.WarmedH vm₁ ∧ Stand p l e R s m args below meth c B.U B.locs B.cells B.slots ∧ Post ⟨T.setVm vm₁, locs, cells, slots⟩ argsL.toArray v B ∧
      ∀ target, Steps p.tables e below (B.U.setTop { g with pc := g.pc + 3, stack := v.toList ++ rest }) target → Steps p.tables e below (T.setTop g) target := by
  obtain ⟨mk, methM, cM, hnamed, hmethM, -, -, -, -, -, -, hsigM⟩ := Cond.codeWith_spec hcode
  have hstatic : methM.isStatic = true := Cond.static_spec hnamed hmethM hstat
  obtain ⟨kP, hkP, -⟩ := className_of_methodNamed hnamed
  have hinitP : kP.init = .initialized := Cond.initialized_spec (findClass_of_methodNamed hnamed) hkP hinit
  obtain ⟨vm₁, X₁, hstep₁⟩ := X.invokestatic hexec hown hlink hnamed hmethM hstatic hkP hinitP hy (g := g) hg (argsL := argsL) (rest := rest) (hlen _ hsigM) hstack hdg
  obtain ⟨v, B, X', hpost, hsteps⟩ := hK m meth c ⟨T.setVm vm₁, locs, cells, slots⟩ { g with stack := rest } (.invokestatic index) mk argsL.toArray X₁ hg hsize hdg hW (X₁.named hnamed) (hpre vm₁ X₁.warmed)
  exact ⟨v, vm₁, B, X₁.warmed, X', hpost, fun target h => hstep₁ _ fun acts => by rw [doInvoke_state]; exact hsteps.trans h⟩
theorem vx_runSW {y : MethodName} {bytes cc : ByteArray} {maxL nL mc ms n index : Nat} {ret : Option FieldType} {hh : List (Nat × Nat × Nat × Nat)} {ws : List Cond} {rm : Room} {Pc : Array Value → State → Prop} {Qc : Array Value → State → Outcome → State → Prop} {free : Addr → Prop} {Ts : List Cond} {own : String} {As rest : List Value} {g : JFrame}
    (S : CallFix p m c cc nL s args Ts own) (hM : Met l y ws rm Pc Qc mc ms free) (cw : vx_CSW R s args own index y bytes maxL ret hh ws rm mc ms n) (hp : PreS s H Pc As)
    (hg : g.method = m) (hn : As.length = n) (hsize : g.locals.size = nL) (hstack : g.stack = As.reverse ++ rest) (hW : 2 * g.monitorRoom + (rest.map fun v => v.category).sum ≤ 8) (hdg : decode cc g.pc = .ok (.invokestatic index, 3)) (hf : cells + mc ≤ R.cells ∧ slots + ms ≤ R.slots) :
    va_Run p l e R s m args below meth c H locs cells slots mc ms g rest (Qc As.toArray) (free) := by
  obtain ⟨⟨hrc, hrs, hfr, hlo, hws, hcw⟩, hcode, hini, hy, hlen, hl, hstt⟩ := cw
  have hK : Back l R p e below s args y 3 8 (PreOf R mc ms Pc) (PostOf Qc mc ms free) := va_backW (hh := hh) (bytes := bytes) (maxL := maxL) (ret := ret) hM hp.1 hrc hrs hfr hlo hws hcw (fun a' U hW => word_at hW (Or.inl (by first | rfl | simp [Cond.onTables, Cond.keeps, Cond.steady])) hini)
  obtain ⟨hx, hb, hml, ho, -⟩ := S
  intro T hT X
  obtain ⟨v, vm₁, ⟨U', l2, c2, s2⟩, hW₁, X', ⟨g', mk, t, L, e1, e2, hq, h1, hL, h2, h3⟩, st⟩ := vx_callSW X hx (hh := hh) (bytes := bytes) (maxL := maxL) (ret := ret) ho hl hstt hini hcode hy hK hg (hsize.trans hml.symm) (argsL := As) (rest := rest) (fun sig h => hn.trans (hlen sig h)) hstack hW (by rw [hb]; exact hdg)
    (fun vm₁ hW₁ => ⟨hf.1, hf.2, hp.2 (T.setVm vm₁) hT hW₁⟩)
  dsimp only [Pt.U, Pt.locs, Pt.cells, Pt.slots] at X' e1 e2 h1 h2 h3 st
  subst h1; subst h2; subst h3
  exact ⟨v, (T.setVm vm₁).calling g' mk As.toArray, t, U', L, hT, X', hL, e1, e2, hq, st⟩
/-- not caught here, past rows that name other classes: it goes on to the caller -/
theorem vx_outP {p : Program} {l : Launch} {e : Env} {R : Room} {s : State} {m : MethodId} {args : Array Value} {below : List Frame} {meth : Method} {c : Code} {H : Heap} {locs : List Loc} {cells slots : Nat} {free : Addr → Prop} {ls : Array Slot} {rest : List Value} {Qc : Array Value → State → Outcome → State → Prop} {XC : String → State → State → Prop}
    {pc : Nat} {own E : String} {ce : Cell} {q : Addr} {mc ms : Nat} (hown : s.vm.findClass own = some m.cls) (hlocks : meth.locks = false)
    (hpass : ∀ z ∈ c.exceptionTable.toList, covers z pc = false ∨ (z.catchType ≠ 0 ∧ ∃ nm : String, (Cond.classLink own z.catchType nm).before args s = true ∧ va_Nc E nm s)) (hcell : H[q]? = some ce) (hv : ce.vm = .none) (hcl : s.vm.findClass E = some ce.cls)
    (hx : ∀ t : State, t.heap = H → s.vm.Alike t.vm → XC E s t) (hf : ∀ z ∈ locs, free z.base) (hc : cells ≤ mc) (hs : slots ≤ ms) :
    vx_W p l e R s m args below meth c H locs cells slots (vx_MQ below Qc XC args s mc ms free) (F0 m pc ls rest) q := by
  intro T hT X
  have hpl : e.platform.magicAccessors = ({} : Platform).magicAccessors := by rw [X.admits.platform]
  obtain ⟨vm', hW', X', st⟩ := Stand.outThrough X hlocks q (g := F0 m pc ls rest) rfl rfl rfl (cell := ce) (by rw [hT]; exact hcell) (by rw [hv]; rfl)
    (by obtain ⟨k9, h9, -⟩ := Vm.findClass_spec hcl; exact ⟨k9, h9⟩) (fun z hz => by
      rcases hpass z hz with h | ⟨hz0, nm, hl1, hn1⟩
      · exact Or.inl h
      · obtain ⟨c6, hc6, hcl6⟩ := Cond.classLink_spec hown hl1 e.platform hpl
        obtain ⟨a8, b8, h1, h2, h3⟩ := hn1
        cases Option.some.inj (h1.symm.trans hcl)
        cases Option.some.inj (h2.symm.trans hc6)
        exact Or.inr ⟨hz0, _, hcl6, h3⟩)
  obtain ⟨g₀, hfr⟩ := X'.frames_eq
  have hcell9 : ((T.setVm vm').setFrames (.throwing q :: below)).heap[q]? = some ce := by
    show T.heap[q]? = some ce
    rw [hT]; exact hcell
  have hend : Ended ((T.setVm vm').setFrames (.throwing q :: below)) below (.threw q) := State.frames_setFrames _ (State.cur_lt_of_frames hfr)
  refine ⟨(T.setVm vm').setFrames (.throwing q :: below), ?_, .threw q, X'.here.running, hend, Or.inr ⟨q, rfl, E, ce, locs, hx _ hT (X'.ends _).1.alike, hcell9, hv, hcl, (X'.ends _).1, (X'.ends _).2.mono hc hs, hf⟩⟩
  rw [X.pushThrowing_eq]
  exact st
/-- a thing of a world lies in the heap -/
theorem vx_lt {D : va_G} {cl : List vw_C} {ws : va_W} {H1 : Heap} (h : va_P D cl ws H1) {k : Nat} {q : Nat × va_E} (hk : ws[k]? = some q) : q.1 < H1.size := (h k q hk).lt
end VXS
/-! ===== END ===== -/
/-! ===== BEGIN methods with a table of their own: called by a name, returning or throwing ===== -/
section VXH
/-! vx_backW, vx_callVX, vx_callSX, vx_callVW, vx_runVW, vx_runVX, vx_runSX, vx_ofWH follow the same proofs as their sisters above (Free/Laws.lean, Shelf42/LK1.lean); vx_outP calls Shelf42/NT130.lean (outThrough). -/
section
variable {l : Launch} {R : Room} {p : Program} {e : Env} {below : List Frame} {s : State} {sargs : Array Value} {y : MethodName} {len W9 : Nat}
theorem vx_backW {ws : List Cond} {rm : Room} {Pc : Array Value → State → Prop} {Qc : Array Value → State → Outcome → State → Prop} {XC : String → State → State → Prop} {mc ms : Nat} {free : Addr → Prop} {bytes : ByteArray} {maxL : Nat} {ret : Option FieldType} {hh : List (Nat × Nat × Nat × Nat)}
    (hM : vx_Met l y ws rm Pc Qc XC mc ms free) (hblind : FrameBlind Pc) (hrc : rm.cells = mc) (hrs : rm.slots = ms)
    (hframes : rm.frames + 1 ≤ R.frames) (hlocals : W9 + (maxL + 11) + rm.locals ≤ R.locals)
    (hws : ∀ w ∈ ws, ∀ a' U, s.WarmedH U.vm → w.before a' U = true) (hcode : Cond.codeWith y bytes maxL ret hh ∈ ws) (hinit : ∀ a' U, s.WarmedH U.vm → (Cond.initialized y.cls).before a' U = true) :
    vx_Back l R p e below s sargs y len W9 (PreOf R mc ms Pc) (PostOf Qc mc ms free) (vx_Post XC mc ms free) := by
  intro m meth c A g ig mk a X hg hsize hdg hW hn hp
  have h1 : (headSpec ws rm).pre.before a A.U = true := atoms_intro fun w hw => hws w hw _ _ X.warmed
  have h2 : (Cond.codeWith y bytes maxL ret hh).before a A.U = true := hws _ hcode _ _ X.warmed
  have h3 : (Cond.initialized y.cls).before a A.U = true := hinit _ _ X.warmed
  have h4 : A.cells + (headSpec ws rm).room.cells ≤ R.cells := by rw [show (headSpec ws rm).room.cells = mc from hrc]; exact hp.1
  have h5 : A.slots + (headSpec ws rm).room.slots ≤ R.slots := by rw [show (headSpec ws rm).room.slots = ms from hrs]; exact hp.2.1
  have hPc : Pc a (A.U.calling g mk a) := hblind _ _ _ _ hp.2.2
  obtain ⟨U, Ls, c0, s0⟩ := A
  dsimp only [Pt.U, Pt.locs, Pt.cells, Pt.slots] at h1 h2 h3 h4 h5 X hn hPc ⊢
  obtain ⟨m9, methY, cY, hn9, hmY, hcY, -, hlY, -⟩ := Cond.codeWith_spec h2
  cases Option.some.inj (hn9.symm.trans hn)
  obtain ⟨kY, hkY, -⟩ := className_of_methodNamed hn
  have hinitY : kY.init = .initialized := Cond.initialized_spec (findClass_of_methodNamed hn) hkY h3
  have h : At U g.method c below := by rw [hg]; exact X.here
  have hlocals9 : W9 + (maxL + 11) + (headSpec ws rm).room.locals ≤ R.locals := hlocals
  have happ : (headSpec ws rm).appliesLoose y e.platform (U.calling g mk a) = true :=
    Spec.appliesLoose_calling (g := g) h hdg hn hkY hinitY
      (X.room_calling (g := g) (R' := (headSpec ws rm).room) hsize hmY hcY hframes (by rw [hlY]; omega) h4 h5) h1
  obtain ⟨mid, hmid⟩ := h.above
  have hfr : (U.setTop g).frames = (.java g :: mid) ++ below := by rw [State.frames_setTop' g h.top, hmid]; rfl
  obtain ⟨o, s₂, hsteps, -, hend, hq⟩ := Steps.callFree hM p X.admits X.cas X.clock (acts := []) hfr happ hPc trivial
  have hq' : vx_Q Qc XC mc ms free a (U.calling g mk a) o s₂ := hq
  rw [State.frames_setTop' g h.top] at hend
  obtain ⟨g₀, hg0⟩ := Option.isSome_iff_exists.mp h.top
  obtain ⟨r, hr⟩ := State.topJava?_eq_some.mp hg0
  have hr' : (({ U with heap := s₂.heap, slotsUsed := s₂.slotsUsed } : State).setVm s₂.vm).frames = .java g₀ :: r := hr
  rcases hq' with ⟨hqc, L, hfe, hL⟩ | ⟨q, rfl, E, ce, L, hx, hce, hcv, hcl, hW₂, hsm, hL⟩
  · obtain ⟨⟨v, rfl⟩, hW₂, e2, q2, q3, q4, q5, q6⟩ := id hfe
    have e3 : s₂ = ({ (U.calling g mk a).setFrames s₂.frames with heap := s₂.heap, slotsUsed := s₂.slotsUsed } : State).setVm s₂.vm := by
      have : s₂ = ({ s₂ with vm := (U.calling g mk a).vm } : State).setVm s₂.vm := rfl
      rw [e2] at this
      exact this
    obtain ⟨c₂, i₂, len₂, hc₂, hd₂, hf₂⟩ := hend
    have hW' : U.WarmedH s₂.vm := hW₂
    have hcc : c₂ = c := by
      have h1 : s₂.code? g.method = U.code? g.method := by
        rw [State.code?_eq, State.code?_eq, hW'.alike.method?]
      exact Option.some.inj (hc₂.symm.trans (h1.trans h.code))
    subst hcc
    have hlen : len₂ = len := by rw [hdg] at hd₂; cases hd₂; rfl
    subst hlen
    have hs₂ : s₂ = (({ U with heap := s₂.heap, slotsUsed := s₂.slotsUsed } : State).setVm s₂.vm).setTop { g with pc := g.pc + len₂, stack := v.toList ++ g.stack } := by
      refine e3.trans ?_
      rw [hf₂, State.calling_eq h.top, State.setFrames_setFrames, State.setTop_of_frames _ hr', hr]
      rfl
    have hsame : U.sameButNew ({ U with heap := s₂.heap, slotsUsed := s₂.slotsUsed } : State) L mc ms := by
      refine ⟨?_, q2, q3, q4, q5, q6⟩
      obtain ⟨t, ht, -⟩ := State.frames_cons hr
      show ({ U with heap := s₂.heap, slotsUsed := s₂.slotsUsed } : State) = { U.setFrames U.frames with heap := s₂.heap, slotsUsed := s₂.slotsUsed }
      rw [State.setFrames_self ht]
    subst hg
    refine Or.inl ⟨v, ⟨(({ U with heap := s₂.heap, slotsUsed := s₂.slotsUsed } : State).setVm s₂.vm), Ls ++ L, c0 + mc, s0 + ms⟩,
      ⟨X.admits, X.cas, X.clock, X.frames, X.room, X.hears, X.method, X.code, (X.here.setHeapUsed s₂.heap s₂.slotsUsed).setVm hW'.alike, X.tail, State.WarmedH.trans X.warmed hW', X.limits, X.bytes, X.same.trans (hsame.setVm s.vm)⟩,
      ⟨g, mk, s₂, L, rfl, rfl, hqc, rfl, hL, rfl, rfl⟩, ?_⟩
    show Steps p.tables e below _ ((({ U with heap := s₂.heap, slotsUsed := s₂.slotsUsed } : State).setVm s₂.vm).setTop { g with pc := g.pc + len₂, stack := v.toList ++ g.stack })
    rw [← hs₂]
    exact hsteps
  · obtain ⟨e2, q2, q3, q4, q5, q6⟩ := id hsm
    have e3 : s₂ = ({ (U.calling g mk a).setFrames s₂.frames with heap := s₂.heap, slotsUsed := s₂.slotsUsed } : State).setVm s₂.vm := by
      have : s₂ = ({ s₂ with vm := (U.calling g mk a).vm } : State).setVm s₂.vm := rfl
      rw [e2] at this
      exact this
    have hf₂ : s₂.frames = .throwing q :: .java g :: U.frames.tail := hend
    have hW' : U.WarmedH s₂.vm := hW₂
    have hs₂ : s₂ = ((({ U with heap := s₂.heap, slotsUsed := s₂.slotsUsed } : State).setVm s₂.vm).setTop g).pushFrame (.throwing q) := by
      refine e3.trans ?_
      rw [hf₂, State.calling_eq h.top, State.setFrames_setFrames, State.pushFrame, State.frames_setTop _ hr', State.setTop_of_frames _ hr', State.setFrames_setFrames, hr]
      rfl
    have hsame : U.sameButNew ({ U with heap := s₂.heap, slotsUsed := s₂.slotsUsed } : State) L mc ms := by
      refine ⟨?_, q2, q3, q4, q5, q6⟩
      obtain ⟨t, ht, -⟩ := State.frames_cons hr
      show ({ U with heap := s₂.heap, slotsUsed := s₂.slotsUsed } : State) = { U.setFrames U.frames with heap := s₂.heap, slotsUsed := s₂.slotsUsed }
      rw [State.setFrames_self ht]
    subst hg
    refine Or.inr ⟨q, ⟨(({ U with heap := s₂.heap, slotsUsed := s₂.slotsUsed } : State).setVm s₂.vm), Ls ++ L, c0 + mc, s0 + ms⟩,
      ⟨X.admits, X.cas, X.clock, X.frames, X.room, X.hears, X.method, X.code, (X.here.setHeapUsed s₂.heap s₂.slotsUsed).setVm hW'.alike, X.tail, State.WarmedH.trans X.warmed hW', X.limits, X.bytes, X.same.trans (hsame.setVm s.vm)⟩,
      ⟨g, mk, s₂, L, E, ce, rfl, rfl, hx, hce, hcv, hcl, rfl, hL, rfl, rfl⟩, ?_⟩
    show Steps p.tables e below _ (((({ U with heap := s₂.heap, slotsUsed := s₂.slotsUsed } : State).setVm s₂.vm).setTop g).pushFrame (.throwing q))
    rw [← hs₂]
    exact hsteps
end
variable {p : Program} {l : Launch} {e : Env} {R : Room} {s : State} {m : MethodId} {args : Array Value} {below : List Frame} {meth : Method} {c : Code} {T : State} {H : Heap} {locs : List Loc} {cells slots : Nat}
theorem vx_callVX (X : Stand p l e R s m args below meth c T locs cells slots) (hexec : p.tables.exec = Jvm.exec) {own C : String} {index : Nat} {y : MethodName} {bytes : ByteArray} {maxL : Nat} {ret : Option FieldType} {hh : List (Nat × Nat × Nat × Nat)}
    (hown : s.vm.findClass own = some m.cls) (hlink : (Cond.methodLink own index y).before args s = true) (hinst : (Cond.instanceMethod y).before args s = true) (hsel : (Cond.selects C y y).before args s = true)
    (hcode : (Cond.codeWith y bytes maxL ret hh).before args s = true) (hy : y.cls ≠ "java/lang/invoke/MethodHandle" ∧ y.cls ≠ "java/lang/invoke/VarHandle")
    {W9 : Nat} {Pre : Pt → Array Value → Prop} {Post : Pt → Array Value → Option Value → Pt → Prop} {PostX : Pt → Array Value → Addr → Pt → Prop} (hK : vx_Back l R p e below s args y 3 W9 Pre Post PostX)
    {b : Addr} {cellB : Cell} (hcell : T.heap[b]? = some cellB) (hobj : cellB.vm.isStatics = false) (hcls : s.vm.findClass C = some cellB.cls)
    {g : JFrame} (hg : g.method = m) (hsize : g.locals.size = c.maxLocals) {argsL rest : List Value} (hlen : ∀ sig, parseMethodDescriptor y.desc = some sig → argsL.length = sig.parameters.length)
    (hstack : g.stack = argsL.reverse ++ .ref b :: rest) (hW : 2 * g.monitorRoom + (rest.map fun v => v.category).sum ≤ W9) (hdg : decode c.code g.pc = .ok (.invokevirtual index, 3))
    (hpre : ∀ vm₁, s.WarmedH vm₁ → Pre ⟨T.setVm vm₁, locs, cells, slots⟩ (Value.ref b :: argsL).toArray) :
    (∃ (v : Option Value) (vm₁ : Vm) (B : Pt), s.WarmedH vm₁ ∧ Stand p l e R s m args below meth c B.U B.locs B.cells B.slots ∧ Post ⟨T.setVm vm₁, locs, cells, slots⟩ (Value.ref b :: argsL).toArray v B ∧
      ∀ target, Steps p.tables e below (B.U.setTop { g with pc := g.pc + 3, stack := v.toList ++ rest }) target → Steps p.tables e below (T.setTop g) target) ∨
    (∃ (q : Addr) (vm₁ : Vm) (B : Pt), s.WarmedH vm₁ ∧ Stand p l e R s m args below meth c B.U B.locs B.cells B.slots ∧ PostX ⟨T.setVm vm₁, locs, cells, slots⟩ (Value.ref b :: argsL).toArray q B ∧
      Steps p.tables e below (T.setTop g) ((B.U.setTop { g with stack := rest }).pushFrame (.throwing q))) := by
  obtain ⟨mk, methM, hnamed, hmethM, hstM, habM⟩ := Cond.instanceMethod_spec hinst
  obtain ⟨m8, methM', cM, hn8, hmethM', -, -, -, -, -, -, hsigM⟩ := Cond.codeWith_spec hcode
  cases Option.some.inj (hn8.symm.trans hnamed)
  cases hmethM.symm.trans hmethM'
  obtain ⟨c2, r2, m2, q1, q2, q3, q4, kP, hkP, hkPi⟩ := Cond.selects_spec hsel
  cases hcls.symm.trans q1
  cases (State.methodFound?_of_named hnamed hy).symm.trans q2
  cases hnamed.symm.trans q3
  have hselP : selectMethod e.platform s.vm cellB.cls mk = .method mk := by rw [Launch.admits_selectMethod X.admits]; exact q4
  obtain ⟨vm₁, X₁, hstep₁⟩ := X.invokevirtual hexec hown hlink hnamed hmethM hstM hkP hkPi hy (a := b) (cell := cellB) hcell
    (fun z h => by rw [h] at hobj; cases hobj) hselP hmethM habM hkP hkPi (g := g) hg (argsL := argsL) (rest := rest) (hlen _ hsigM) hstack hdg
  rcases hK m meth c ⟨T.setVm vm₁, locs, cells, slots⟩ { g with stack := rest } (.invokevirtual index) mk (Value.ref b :: argsL).toArray X₁ hg hsize hdg hW (X₁.named hnamed) (hpre vm₁ X₁.warmed) with ⟨v, B, X', hpost, hsteps⟩ | ⟨q, B, X', hpost, hsteps⟩
  · exact Or.inl ⟨v, vm₁, B, X₁.warmed, X', hpost, fun target h => hstep₁ _ fun acts => by rw [doInvoke_state]; exact hsteps.trans h⟩
  · exact Or.inr ⟨q, vm₁, B, X₁.warmed, X', hpost, hstep₁ _ fun acts => by rw [doInvoke_state]; exact hsteps⟩
theorem vx_callSX (X : Stand p l e R s m args below meth c T locs cells slots) (hexec : p.tables.exec = Jvm.exec) {own : String} {index : Nat} {y : MethodName} {bytes : ByteArray} {maxL : Nat} {ret : Option FieldType} {hh : List (Nat × Nat × Nat × Nat)}
    (hown : s.vm.findClass own = some m.cls) (hlink : (Cond.methodLink own index y).before args s = true) (hstat : (Cond.static y).before args s = true) (hinit : (Cond.initialized y.cls).before args s = true)
    (hcode : (Cond.codeWith y bytes maxL ret hh).before args s = true) (hy : y.cls ≠ "java/lang/invoke/MethodHandle" ∧ y.cls ≠ "java/lang/invoke/VarHandle")
    {W9 : Nat} {Pre : Pt → Array Value → Prop} {Post : Pt → Array Value → Option Value → Pt → Prop} {PostX : Pt → Array Value → Addr → Pt → Prop} (hK : vx_Back l R p e below s args y 3 W9 Pre Post PostX)
    {g : JFrame} (hg : g.method = m) (hsize : g.locals.size = c.maxLocals) {argsL rest : List Value} (hlen : ∀ sig, parseMethodDescriptor y.desc = some sig → argsL.length = sig.parameters.length)
    (hstack : g.stack = argsL.reverse ++ rest) (hW : 2 * g.monitorRoom + (rest.map fun v => v.category).sum ≤ W9) (hdg : decode c.code g.pc = .ok (.invokestatic index, 3))
    (hpre : ∀ vm₁, s.WarmedH vm₁ → Pre ⟨T.setVm vm₁, locs, cells, slots⟩ argsL.toArray) :
    (∃ (v : Option Value) (vm₁ : Vm) (B : Pt), s.WarmedH vm₁ ∧ Stand p l e R s m args below meth c B.U B.locs B.cells B.slots ∧ Post ⟨T.setVm vm₁, locs, cells, slots⟩ argsL.toArray v B ∧
      ∀ target, Steps p.tables e below (B.U.setTop { g with pc := g.pc + 3, stack := v.toList ++ rest }) target → Steps p.tables e below (T.setTop g) target) ∨
    (∃ (q : Addr) (vm₁ : Vm) (B : Pt), s.WarmedH vm₁ ∧ Stand p l e R s m args below meth c B.U B.locs B.cells B.slots ∧ PostX ⟨T.setVm vm₁, locs, cells, slots⟩ argsL.toArray q B ∧
      Steps p.tables e below (T.setTop g) ((B.U.setTop { g with stack := rest }).pushFrame (.throwing q))) := by
  obtain ⟨mk, methM, cM, hnamed, hmethM, -, -, -, -, -, -, hsigM⟩ := Cond.codeWith_spec hcode
  have hstatic : methM.isStatic = true := Cond.static_spec hnamed hmethM hstat
  obtain ⟨kP, hkP, -⟩ := className_of_methodNamed hnamed
  have hinitP : kP.init = .initialized := Cond.initialized_spec (findClass_of_methodNamed hnamed) hkP hinit
  obtain ⟨vm₁, X₁, hstep₁⟩ := X.invokestatic hexec hown hlink hnamed hmethM hstatic hkP hinitP hy (g := g) hg (argsL := argsL) (rest := rest) (hlen _ hsigM) hstack hdg
  rcases hK m meth c ⟨T.setVm vm₁, locs, cells, slots⟩ { g with stack := rest } (.invokestatic index) mk argsL.toArray X₁ hg hsize hdg hW (X₁.named hnamed) (hpre vm₁ X₁.warmed) with ⟨v, B, X', hpost, hsteps⟩ | ⟨q, B, X', hpost, hsteps⟩
  · exact Or.inl ⟨v, vm₁, B, X₁.warmed, X', hpost, fun target h => hstep₁ _ fun acts => by rw [doInvoke_state]; exact hsteps.trans h⟩
  · exact Or.inr ⟨q, vm₁, B, X₁.warmed, X', hpost, hstep₁ _ fun acts => by rw [doInvoke_state]; exact hsteps⟩
theorem vx_callVW (X : Stand p l e R s m args below meth c T locs cells slots) (hexec : p.tables.exec = Jvm.exec) {own C : String} {index : Nat} {y : MethodName} {bytes : ByteArray} {maxL : Nat} {ret : Option FieldType} {hh : List (Nat × Nat × Nat × Nat)}
    (hown : s.vm.findClass own = some m.cls) (hlink : (Cond.methodLink own index y).before args s = true) (hinst : (Cond.instanceMethod y).before args s = true) (hsel : (Cond.selects C y y).before args s = true)
    (hcode : (Cond.codeWith y bytes maxL ret hh).before args s = true) (hy : y.cls ≠ "java/lang/invoke/MethodHandle" ∧ y.cls ≠ "java/lang/invoke/VarHandle")
    {W9 : Nat} {Pre : Pt → Array Value → Prop} {Post : Pt → Array Value → Option Value → Pt → Prop} (hK : Back l R p e below s args y 3 W9 Pre Post)
    {b : Addr} {cellB : Cell} (hcell : T.heap[b]? = some cellB) (hobj : cellB.vm.isStatics = false) (hcls : s.vm.findClass C = some cellB.cls)
    {g : JFrame} (hg : g.method = m) (hsize : g.locals.size = c.maxLocals) {argsL rest : List Value} (hlen : ∀ sig, parseMethodDescriptor y.desc = some sig → argsL.length = sig.parameters.length)
    (hstack : g.stack = argsL.reverse ++ .ref b :: rest) (hW : 2 * g.monitorRoom + (rest.map fun v => v.category).sum ≤ W9) (hdg : decode c.code g.pc = .ok (.invokevirtual index, 3))
    (hpre : ∀ vm₁, s.WarmedH vm₁ → Pre ⟨T.setVm vm₁, locs, cells, slots⟩ (Value.ref b :: argsL).toArray) :
    ∃ (v : Option Value) (vm₁ : Vm) (B : Pt), s.WarmedH vm₁ ∧ Stand p l e R s m args below meth c B.U B.locs B.cells B.slots ∧ Post ⟨T.setVm vm₁, locs, cells, slots⟩ (Value.ref b :: argsL).toArray v B ∧
      ∀ target, Steps p.tables e below (B.U.setTop { g with pc := g.pc + 3, stack := v.toList ++ rest }) target → Steps p.tables e below (T.setTop g) target := by
  obtain ⟨mk, methM, hnamed, hmethM, hstM, habM⟩ := Cond.instanceMethod_spec hinst
  obtain ⟨m8, methM', cM, hn8, hmethM', -, -, -, -, -, -, hsigM⟩ := Cond.codeWith_spec hcode
  cases Option.some.inj (hn8.symm.trans hnamed)
  cases hmethM.symm.trans hmethM'
  obtain ⟨c2, r2, m2, q1, q2, q3, q4, kP, hkP, hkPi⟩ := Cond.selects_spec hsel
  cases hcls.symm.trans q1
  cases (State.methodFound?_of_named hnamed hy).symm.trans q2
  cases hnamed.symm.trans q3
  have hselP : selectMethod e.platform s.vm cellB.cls mk = .method mk := by rw [Launch.admits_selectMethod X.admits]; exact q4
  obtain ⟨vm₁, X₁, hstep₁⟩ := X.invokevirtual hexec hown hlink hnamed hmethM hstM hkP hkPi hy (a := b) (cell := cellB) hcell
    (fun z h => by rw [h] at hobj; cases hobj) hselP hmethM habM hkP hkPi (g := g) hg (argsL := argsL) (rest := rest) (hlen _ hsigM) hstack hdg
  obtain ⟨v, B, X', hpost, hsteps⟩ := hK m meth c ⟨T.setVm vm₁, locs, cells, slots⟩ { g with stack := rest } (.invokevirtual index) mk (Value.ref b :: argsL).toArray X₁ hg hsize hdg hW (X₁.named hnamed) (hpre vm₁ X₁.warmed)
  exact ⟨v, vm₁, B, X₁.warmed, X', hpost, fun target h => hstep₁ _ fun acts => by rw [doInvoke_state]; exact hsteps.trans h⟩
abbrev vx_CVW (R : Room) (s : State) (args : Array Value) (own C : String) (index : Nat) (y : MethodName) (bytes : ByteArray) (maxL : Nat) (ret : Option FieldType) (hh : List (Nat × Nat × Nat × Nat)) (ws : List Cond) (rm : Room) (mc ms n : Nat) : Prop :=
  (rm.cells = mc ∧ rm.slots = ms ∧ rm.frames + 1 ≤ R.frames ∧ 8 + (maxL + 11) + rm.locals ≤ R.locals ∧ (∀ w ∈ ws, ∀ (a' : Array Value) (U : State), s.WarmedH U.vm → w.before a' U = true) ∧ Cond.codeWith y bytes maxL ret hh ∈ ws) ∧
  (Cond.codeWith y bytes maxL ret hh).before args s = true ∧ (Cond.initialized y.cls).before args s = true ∧ (y.cls ≠ "java/lang/invoke/MethodHandle" ∧ y.cls ≠ "java/lang/invoke/VarHandle") ∧
  (∀ sig, parseMethodDescriptor y.desc = some sig → n = sig.parameters.length) ∧ (Cond.methodLink own index y).before args s = true ∧ (Cond.instanceMethod y).before args s = true ∧ (Cond.selects C y y).before args s = true
theorem vx_cwVW {own C : String} {index maxL mc ms : Nat} {y : MethodName} {bytes : ByteArray} {ret : Option FieldType} {hh : List (Nat × Nat × Nat × Nat)} {Ts ws ws' : List Cond} {rm : Room} (n : Nat) (ht : ∀ w ∈ Ts, w.before args s = true) (hT : GoodIn Ts (wsV own index C y ws)) (hw : ws = Cond.codeWith y bytes maxL ret hh :: ws') (hrc : rm.cells = mc) (hrs : rm.slots = ms)
    (hd : y.cls = C ∧ y.cls ≠ "java/lang/invoke/MethodHandle" ∧ y.cls ≠ "java/lang/invoke/VarHandle" ∧ (parseMethodDescriptor y.desc).map (fun d => d.parameters.length) = some n) (hR : rm.frames + 1 ≤ R.frames ∧ 8 + (maxL + 11) + rm.locals ≤ R.locals) :
    vx_CVW R s args own C index y bytes maxL ret hh ws rm mc ms n := by
  obtain ⟨hC, hd⟩ := hd
  subst hC
  have ok : ∀ w ∈ wsV own index y.cls y ws, w.before args s = true := fun w h => ht w (hT w h).1
  have hG : GoodIn Ts ws := fun w h => hT w (by unfold wsV; exact List.mem_append_right _ h)
  have hc : Cond.codeWith y bytes maxL ret hh ∈ ws := by rw [hw]; exact List.mem_cons_self
  refine ⟨⟨hrc, hrs, hR.1, hR.2, pay_in ht hG, hc⟩, ht _ (hG _ hc).1, ok _ (by simp [wsV]), ⟨hd.1, hd.2.1⟩, fun sig h => ?_, ok _ (by simp [wsV]), ok _ (by simp [wsV]), ok _ (by simp [wsV])⟩
  have h2 := hd.2.2
  rw [h] at h2
  exact (Option.some.inj h2).symm
theorem vx_runVW {y : MethodName} {bytes cc : ByteArray} {maxL nL mc ms n index : Nat} {ret : Option FieldType} {hh : List (Nat × Nat × Nat × Nat)} {ws : List Cond} {rm : Room} {Pc : Array Value → State → Prop} {Qc : Array Value → State → Outcome → State → Prop} {free : Addr → Prop} {Ts : List Cond} {own C : String} {b : Addr} {As rest : List Value} {g : JFrame}
    (S : CallFix p m c cc nL s args Ts own) (hM : Met l y ws rm Pc Qc mc ms free) (cw : vx_CVW R s args own C index y bytes maxL ret hh ws rm mc ms n) (hp : PreV s H C b Pc As)
    (hg : g.method = m) (hn : As.length = n) (hsize : g.locals.size = nL) (hstack : g.stack = As.reverse ++ .ref b :: rest) (hW : 2 * g.monitorRoom + (rest.map fun v => v.category).sum ≤ 8) (hdg : decode cc g.pc = .ok (.invokevirtual index, 3)) (hf : cells + mc ≤ R.cells ∧ slots + ms ≤ R.slots) :
    va_Run p l e R s m args below meth c H locs cells slots mc ms g rest (Qc (Value.ref b :: As).toArray) free := by
  obtain ⟨⟨hrc, hrs, hfr, hlo, hws, hcw⟩, hcode, hini, hy, hlen, hl, hin, hse⟩ := cw
  have hK : Back l R p e below s args y 3 8 (PreOf R mc ms Pc) (PostOf Qc mc ms free) := va_backW (hh := hh) (bytes := bytes) (maxL := maxL) (ret := ret) hM hp.1 hrc hrs hfr hlo hws hcw (fun a' U hW => word_at hW (Or.inl (by first | rfl | simp [Cond.onTables, Cond.keeps, Cond.steady])) hini)
  obtain ⟨hx, hb, hml, ho, -⟩ := S
  obtain ⟨-, ⟨cellB, hcB, hoB, hclB⟩, hPc⟩ := hp
  intro T hT X
  obtain ⟨v, vm₁, ⟨U', l2, c2, s2⟩, hW₁, X', ⟨g', mk, t, L, e1, e2, hq, h1, hL, h2, h3⟩, st⟩ := vx_callVW X hx (C := C) (hh := hh) (bytes := bytes) (maxL := maxL) (ret := ret) ho hl hin hse hcode hy hK (by rw [hT]; exact hcB) hoB hclB hg (hsize.trans hml.symm) (argsL := As) (rest := rest) (fun sig h => hn.trans (hlen sig h)) hstack hW (by rw [hb]; exact hdg)
    (fun vm₁ hW₁ => ⟨hf.1, hf.2, hPc (T.setVm vm₁) hT hW₁⟩)
  dsimp only [Pt.U, Pt.locs, Pt.cells, Pt.slots] at X' e1 e2 h1 h2 h3 st
  subst h1; subst h2; subst h3
  exact ⟨v, (T.setVm vm₁).calling g' mk (Value.ref b :: As).toArray, t, U', L, hT, X', hL, e1, e2, hq, st⟩
section
variable {y : MethodName} {bytes cc : ByteArray} {maxL nL mc ms n index : Nat} {ret : Option FieldType} {ws : List Cond} {rm : Room} {Pc : Array Value → State → Prop} {Qc : Array Value → State → Outcome → State → Prop} {XC : String → State → State → Prop} {free : Addr → Prop} {Ts : List Cond} {own C : String} {b : Addr} {As rest : List Value} {g : JFrame}
theorem vx_runVX {hh : List (Nat × Nat × Nat × Nat)} (S : CallFix p m c cc nL s args Ts own) (hM : vx_Met l y ws rm Pc Qc XC mc ms free) (cw : vx_CVW R s args own C index y bytes maxL ret hh ws rm mc ms n) (hp : PreV s H C b Pc As)
    (hg : g.method = m) (hn : As.length = n) (hsize : g.locals.size = nL) (hstack : g.stack = As.reverse ++ .ref b :: rest) (hW : 2 * g.monitorRoom + (rest.map fun v => v.category).sum ≤ 8) (hdg : decode cc g.pc = .ok (.invokevirtual index, 3)) (hf : cells + mc ≤ R.cells ∧ slots + ms ≤ R.slots) :
    vx_Run p l e R s m args below meth c H locs cells slots mc ms g rest (Qc (Value.ref b :: As).toArray) XC free := by
  obtain ⟨⟨hrc, hrs, hfr, hlo, hws, hcw⟩, hcode, hini, hy, hlen, hl, hin, hse⟩ := cw
  have hK : vx_Back l R p e below s args y 3 8 (PreOf R mc ms Pc) (PostOf Qc mc ms free) (vx_Post XC mc ms free) := vx_backW (hh := hh) (bytes := bytes) (maxL := maxL) (ret := ret) hM hp.1 hrc hrs hfr hlo hws hcw (fun a' U hW => word_at hW (Or.inl (by first | rfl | simp [Cond.onTables, Cond.keeps, Cond.steady])) hini)
  obtain ⟨hx, hb, hml, ho, -⟩ := S
  obtain ⟨-, ⟨cellB, hcB, hoB, hclB⟩, hPc⟩ := hp
  intro T hT X
  rcases vx_callVX X hx (C := C) (hh := hh) (bytes := bytes) (maxL := maxL) (ret := ret) ho hl hin hse hcode hy hK (by rw [hT]; exact hcB) hoB hclB hg (hsize.trans hml.symm) (argsL := As) (rest := rest) (fun sig h => hn.trans (hlen sig h)) hstack hW (by rw [hb]; exact hdg)
    (fun vm₁ hW₁ => ⟨hf.1, hf.2, hPc (T.setVm vm₁) hT hW₁⟩) with ⟨v, vm₁, ⟨U', l2, c2, s2⟩, hW₁, X', ⟨g', mk, t, L, e1, e2, hq, h1, hL, h2, h3⟩, st⟩ | ⟨q, vm₁, ⟨U', l2, c2, s2⟩, hW₁, X', ⟨g', mk, t, L, E, ce, e1, e2, hq, hce, hcv, hcl, h1, hL, h2, h3⟩, st⟩
  · dsimp only [Pt.U, Pt.locs, Pt.cells, Pt.slots] at X' e1 e2 h1 h2 h3 st
    subst h1; subst h2; subst h3
    exact Or.inl ⟨v, (T.setVm vm₁).calling g' mk (Value.ref b :: As).toArray, t, U', L, hT, X', hL, e1, e2, hq, st⟩
  · dsimp only [Pt.U, Pt.locs, Pt.cells, Pt.slots] at X' e1 e2 h1 h2 h3 st hcl
    subst h1; subst h2; subst h3
    exact Or.inr ⟨q, (T.setVm vm₁).calling g' mk (Value.ref b :: As).toArray, t, U', L, E, ce, hT, X', hL, e1, e2, hq, hce, hcv, vx_cls hW₁ hcl, st⟩
theorem vx_runSX {hh : List (Nat × Nat × Nat × Nat)} (S : CallFix p m c cc nL s args Ts own) (hM : vx_Met l y ws rm Pc Qc XC mc ms free) (cw : vx_CSW R s args own index y bytes maxL ret hh ws rm mc ms n) (hp : PreS s H Pc As)
    (hg : g.method = m) (hn : As.length = n) (hsize : g.locals.size = nL) (hstack : g.stack = As.reverse ++ rest) (hW : 2 * g.monitorRoom + (rest.map fun v => v.category).sum ≤ 8) (hdg : decode cc g.pc = .ok (.invokestatic index, 3)) (hf : cells + mc ≤ R.cells ∧ slots + ms ≤ R.slots) :
    vx_Run p l e R s m args below meth c H locs cells slots mc ms g rest (Qc As.toArray) XC free := by
  obtain ⟨⟨hrc, hrs, hfr, hlo, hws, hcw⟩, hcode, hini, hy, hlen, hl, hstt⟩ := cw
  have hK : vx_Back l R p e below s args y 3 8 (PreOf R mc ms Pc) (PostOf Qc mc ms free) (vx_Post XC mc ms free) := vx_backW (hh := hh) (bytes := bytes) (maxL := maxL) (ret := ret) hM hp.1 hrc hrs hfr hlo hws hcw (fun a' U hW => word_at hW (Or.inl (by first | rfl | simp [Cond.onTables, Cond.keeps, Cond.steady])) hini)
  obtain ⟨hx, hb, hml, ho, -⟩ := S
  intro T hT X
  rcases vx_callSX X hx (hh := hh) (bytes := bytes) (maxL := maxL) (ret := ret) ho hl hstt hini hcode hy hK hg (hsize.trans hml.symm) (argsL := As) (rest := rest) (fun sig h => hn.trans (hlen sig h)) hstack hW (by rw [hb]; exact hdg)
    (fun vm₁ hW₁ => ⟨hf.1, hf.2, hp.2 (T.setVm vm₁) hT hW₁⟩) with ⟨v, vm₁, ⟨U', l2, c2, s2⟩, hW₁, X', ⟨g', mk, t, L, e1, e2, hq, h1, hL, h2, h3⟩, st⟩ | ⟨q, vm₁, ⟨U', l2, c2, s2⟩, hW₁, X', ⟨g', mk, t, L, E, ce, e1, e2, hq, hce, hcv, hcl, h1, hL, h2, h3⟩, st⟩
  · dsimp only [Pt.U, Pt.locs, Pt.cells, Pt.slots] at X' e1 e2 h1 h2 h3 st
    subst h1; subst h2; subst h3
    exact Or.inl ⟨v, (T.setVm vm₁).calling g' mk As.toArray, t, U', L, hT, X', hL, e1, e2, hq, st⟩
  · dsimp only [Pt.U, Pt.locs, Pt.cells, Pt.slots] at X' e1 e2 h1 h2 h3 st hcl
    subst h1; subst h2; subst h3
    exact Or.inr ⟨q, (T.setVm vm₁).calling g' mk As.toArray, t, U', L, E, ce, hT, X', hL, e1, e2, hq, hce, hcv, vx_cls hW₁ hcl, st⟩
end
end VXH
theorem vx_ofWH {l : Launch} {y : MethodName} {ws ws' : List Cond} {rm : Room} {Pc : Array Value → State → Prop} {Qc : Array Value → State → Outcome → State → Prop} {XC : String → State → State → Prop} {mc ms : Nat} {free : Addr → Prop} {cc : ByteArray} {maxL : Nat} {ret : Option FieldType} {hh : List (Nat × Nat × Nat × Nat)}
    (hy : plainName y.cls = true) (hw : ws = Cond.codeWith y cc maxL ret hh :: ws')
    (body : ∀ p e s m args below meth c s₁, BodyLoose p l y (headSpec ws rm) cc maxL ret e s m args below meth c s₁ → c.maxLocals = maxL → Pc args s →
      W p l e (headSpec ws rm).room s m args below meth c s.heap [] 0 0 (vx_MQ below Qc XC args s mc ms free) (entryFrame m args maxL)) : vx_Met l y ws rm Pc Qc XC mc ms free := by
  refine MetFree.of_bodyS (code := cc) (maxLocals := maxL) (ret := ret) hy ?_ ?_
  · intro args s m h hn
    obtain ⟨m9, meth, c, hn9, h1, h2, h3, h4, -, h5, h6, -⟩ := Cond.codeWith_spec (atoms_spec (ws := ws) h _ (by rw [hw]; exact List.mem_cons_self))
    cases hn.symm.trans hn9
    exact ⟨meth, c, h1, h2, h3, h4, h5, h6⟩
  · intro p e s m args below meth c s₁ B hml hP _
    have hh0 : s₁.heap = s.heap := by rw [B.state]; rfl
    obtain ⟨t, a1, o, b1, b2, b3⟩ := body p e s m args below meth c s₁ B hml hP s₁ hh0 (Stand.of_body B)
    exact ⟨t, o, a1, b1, b2, b3⟩
/-! ===== END ===== -/
end
section
/-! ===== BEGIN printed: names, fields, word lists, decode rows ===== -/
def RX0 : String := "PagedTree$Disk"
def TX0 : u_T := fun k => match k with
  | 0 => ("PagedTree$Disk", "kinds", "[I", true)
  | 1 => ("PagedTree$Disk", "counts", "[I", true)
  | 2 => ("PagedTree$Disk", "leavesAfter", "[I", true)
  | 3 => ("PagedTree$Disk", "keys", "[I", true)
  | _ => ("PagedTree$Disk", "seconds", "[I", true)
def tyX0 : Nat → FieldType := fun k => match k with
  | 0 => .array .int
  | 1 => .array .int
  | 2 => .array .int
  | 3 => .array .int
  | _ => .array .int
abbrev wsX00 : List Cond := u_ws RX0 TX0 5
theorem nmX0 : ∀ a, a < 5 → ∀ b, b < 5 → a ≠ b → (TX0 a).2.1 ≠ (TX0 b).2.1 := by decide +kernel
theorem tyX0_ok : ∀ k, k < 5 → parseFieldDescriptor (TX0 k).2.2.1 = some (tyX0 k) := by decide +kernel
abbrev cX0_init : ByteArray := prog_2_method_1_code
def yX0_init : MethodName := ⟨RX0, "<init>", "()V"⟩
abbrev cX0_isPage : ByteArray := prog_2_method_2_code
def yX0_isPage : MethodName := ⟨RX0, "isPage", "(I)Z"⟩
abbrev cX0_kindOf : ByteArray := prog_2_method_3_code
def yX0_kindOf : MethodName := ⟨RX0, "kindOf", "(I)I"⟩
abbrev cX0_countOf : ByteArray := prog_2_method_4_code
def yX0_countOf : MethodName := ⟨RX0, "countOf", "(I)I"⟩
abbrev cX0_leafAfter : ByteArray := prog_2_method_5_code
def yX0_leafAfter : MethodName := ⟨RX0, "leafAfter", "(I)I"⟩
abbrev cX0_setLeafAfter : ByteArray := prog_2_method_6_code
def yX0_setLeafAfter : MethodName := ⟨RX0, "setLeafAfter", "(II)V"⟩
abbrev cX0_keyAt : ByteArray := prog_2_method_7_code
def yX0_keyAt : MethodName := ⟨RX0, "keyAt", "(II)I"⟩
abbrev cX0_secondAt : ByteArray := prog_2_method_8_code
def yX0_secondAt : MethodName := ⟨RX0, "secondAt", "(II)I"⟩
abbrev cX0_setKey : ByteArray := prog_2_method_9_code
def yX0_setKey : MethodName := ⟨RX0, "setKey", "(III)V"⟩
abbrev cX0_setItem : ByteArray := prog_2_method_10_code
def yX0_setItem : MethodName := ⟨RX0, "setItem", "(IIII)V"⟩
abbrev cX0_cellOf : ByteArray := prog_2_method_11_code
def yX0_cellOf : MethodName := ⟨RX0, "cellOf", "(II)I"⟩
abbrev cX0_insert : ByteArray := prog_2_method_12_code
def yX0_insert : MethodName := ⟨RX0, "insert", "(IIII)V"⟩
abbrev cX0_delete : ByteArray := prog_2_method_13_code
def yX0_delete : MethodName := ⟨RX0, "delete", "(II)V"⟩
abbrev cX0_moveItems : ByteArray := prog_2_method_14_code
def yX0_moveItems : MethodName := ⟨RX0, "moveItems", "(III)V"⟩
abbrev cX0_allot : ByteArray := prog_2_method_15_code
def yX0_allot : MethodName := ⟨RX0, "allot", "(II)V"⟩
abbrev cX0_leastFree : ByteArray := prog_2_method_16_code
def yX0_leastFree : MethodName := ⟨RX0, "leastFree", "()I"⟩
abbrev cX0_countFree : ByteArray := prog_2_method_17_code
def yX0_countFree : MethodName := ⟨RX0, "countFree", "()I"⟩
abbrev cX0_placeOf : ByteArray := prog_2_method_18_code
def yX0_placeOf : MethodName := ⟨RX0, "placeOf", "(II)I"⟩
abbrev cX0_hasKey : ByteArray := prog_2_method_19_code
def yX0_hasKey : MethodName := ⟨RX0, "hasKey", "(III)Z"⟩
abbrev cX0_childPlaceFor : ByteArray := prog_2_method_20_code
def yX0_childPlaceFor : MethodName := ⟨RX0, "childPlaceFor", "(II)I"⟩
abbrev cX0_countLevels : ByteArray := prog_2_method_21_code
def yX0_countLevels : MethodName := ⟨RX0, "countLevels", "(I)I"⟩
def RX1 : String := "PagedTree$Frames"
def TX1 : u_T := fun k => match k with
  | 0 => ("PagedTree$Frames", "held", "[I", true)
  | 1 => ("PagedTree$Frames", "used", "[Z", true)
  | 2 => ("PagedTree$Frames", "dirty", "[Z", true)
  | 3 => ("PagedTree$Frames", "pinned", "[Z", true)
  | 4 => ("PagedTree$Frames", "hand", "I", false)
  | 5 => ("PagedTree$Frames", "hits", "I", false)
  | 6 => ("PagedTree$Frames", "pagesRead", "I", false)
  | _ => ("PagedTree$Frames", "pagesWritten", "I", false)
def tyX1 : Nat → FieldType := fun k => match k with
  | 0 => .array .int
  | 1 => .array .boolean
  | 2 => .array .boolean
  | 3 => .array .boolean
  | 4 => .int
  | 5 => .int
  | 6 => .int
  | _ => .int
abbrev wsX10 : List Cond := u_ws RX1 TX1 8
theorem nmX1 : ∀ a, a < 8 → ∀ b, b < 8 → a ≠ b → (TX1 a).2.1 ≠ (TX1 b).2.1 := by decide +kernel
theorem tyX1_ok : ∀ k, k < 8 → parseFieldDescriptor (TX1 k).2.2.1 = some (tyX1 k) := by decide +kernel
abbrev cX1_init : ByteArray := prog_3_method_1_code
def yX1_init : MethodName := ⟨RX1, "<init>", "()V"⟩
abbrev cX1_isFrame : ByteArray := prog_3_method_2_code
def yX1_isFrame : MethodName := ⟨RX1, "isFrame", "(I)Z"⟩
abbrev cX1_pageIn : ByteArray := prog_3_method_3_code
def yX1_pageIn : MethodName := ⟨RX1, "pageIn", "(I)I"⟩
abbrev cX1_isUsed : ByteArray := prog_3_method_4_code
def yX1_isUsed : MethodName := ⟨RX1, "isUsed", "(I)Z"⟩
abbrev cX1_isDirty : ByteArray := prog_3_method_5_code
def yX1_isDirty : MethodName := ⟨RX1, "isDirty", "(I)Z"⟩
abbrev cX1_hits : ByteArray := prog_3_method_6_code
def yX1_hits : MethodName := ⟨RX1, "hits", "()I"⟩
abbrev cX1_pagesRead : ByteArray := prog_3_method_7_code
def yX1_pagesRead : MethodName := ⟨RX1, "pagesRead", "()I"⟩
abbrev cX1_pagesWritten : ByteArray := prog_3_method_8_code
def yX1_pagesWritten : MethodName := ⟨RX1, "pagesWritten", "()I"⟩
abbrev cX1_handPlace : ByteArray := prog_3_method_9_code
def yX1_handPlace : MethodName := ⟨RX1, "handPlace", "()I"⟩
abbrev cX1_frameOf : ByteArray := prog_3_method_10_code
def yX1_frameOf : MethodName := ⟨RX1, "frameOf", "(I)I"⟩
abbrev cX1_touch : ByteArray := prog_3_method_11_code
def yX1_touch : MethodName := ⟨RX1, "touch", "(IZ)V"⟩
abbrev cX1_vacateFrame : ByteArray := prog_3_method_12_code
def yX1_vacateFrame : MethodName := ⟨RX1, "vacateFrame", "()I"⟩
abbrev cX1_givesWay : ByteArray := prog_3_method_13_code
def yX1_givesWay : MethodName := ⟨RX1, "givesWay", "(I)Z"⟩
abbrev cX1_clear : ByteArray := prog_3_method_14_code
def yX1_clear : MethodName := ⟨RX1, "clear", "(I)V"⟩
abbrev cX1_soil : ByteArray := prog_3_method_15_code
def yX1_soil : MethodName := ⟨RX1, "soil", "(I)V"⟩
abbrev cX1_clearPage : ByteArray := prog_3_method_16_code
def yX1_clearPage : MethodName := ⟨RX1, "clearPage", "(I)V"⟩
abbrev cX1_unpinAll : ByteArray := prog_3_method_17_code
def yX1_unpinAll : MethodName := ⟨RX1, "unpinAll", "()V"⟩
abbrev cX1_countDirty : ByteArray := prog_3_method_18_code
def yX1_countDirty : MethodName := ⟨RX1, "countDirty", "()I"⟩
abbrev cX1_writeDirty : ByteArray := prog_3_method_19_code
def yX1_writeDirty : MethodName := ⟨RX1, "writeDirty", "()I"⟩
abbrev cX1_emptyAll : ByteArray := prog_3_method_20_code
def yX1_emptyAll : MethodName := ⟨RX1, "emptyAll", "()I"⟩
abbrev cX1_countHolding : ByteArray := prog_3_method_21_code
def yX1_countHolding : MethodName := ⟨RX1, "countHolding", "(I)I"⟩
def RX2 : String := "PagedTree$Survey"
def TX2 : u_T := fun k => match k with
  | 0 => ("PagedTree$Survey", "queue", "[I", true)
  | 1 => ("PagedTree$Survey", "queued", "I", false)
  | 2 => ("PagedTree$Survey", "met", "[I", true)
  | 3 => ("PagedTree$Survey", "levels", "[I", true)
  | 4 => ("PagedTree$Survey", "lows", "[J", true)
  | _ => ("PagedTree$Survey", "highs", "[J", true)
def tyX2 : Nat → FieldType := fun k => match k with
  | 0 => .array .int
  | 1 => .int
  | 2 => .array .int
  | 3 => .array .int
  | 4 => .array .long
  | _ => .array .long
abbrev wsX20 : List Cond := u_ws RX2 TX2 6
theorem nmX2 : ∀ a, a < 6 → ∀ b, b < 6 → a ≠ b → (TX2 a).2.1 ≠ (TX2 b).2.1 := by decide +kernel
theorem tyX2_ok : ∀ k, k < 6 → parseFieldDescriptor (TX2 k).2.2.1 = some (tyX2 k) := by decide +kernel
abbrev cX2_init : ByteArray := prog_4_method_1_code
def yX2_init : MethodName := ⟨RX2, "<init>", "()V"⟩
abbrev cX2_countAstray : ByteArray := prog_4_method_2_code
def yX2_countAstray : MethodName := ⟨RX2, "countAstray", "(LPagedTree$Disk;LPagedTree$Frames;I)I"⟩
abbrev cX2_meet : ByteArray := prog_4_method_3_code
def yX2_meet : MethodName := ⟨RX2, "meet", "(IIJJ)V"⟩
abbrev cX2_meetChildren : ByteArray := prog_4_method_4_code
def yX2_meetChildren : MethodName := ⟨RX2, "meetChildren", "(LPagedTree$Disk;I)V"⟩
abbrev cX2_isAstray : ByteArray := prog_4_method_5_code
def yX2_isAstray : MethodName := ⟨RX2, "isAstray", "(LPagedTree$Disk;LPagedTree$Frames;II)Z"⟩
abbrev cX2_countIsRight : ByteArray := prog_4_method_6_code
def yX2_countIsRight : MethodName := ⟨RX2, "countIsRight", "(LPagedTree$Disk;IZ)Z"⟩
abbrev cX2_childrenArePages : ByteArray := prog_4_method_7_code
def yX2_childrenArePages : MethodName := ⟨RX2, "childrenArePages", "(LPagedTree$Disk;I)Z"⟩
abbrev cX2_keysAreInPlace : ByteArray := prog_4_method_8_code
def yX2_keysAreInPlace : MethodName := ⟨RX2, "keysAreInPlace", "(LPagedTree$Disk;I)Z"⟩
abbrev cX2_leafDueAfter : ByteArray := prog_4_method_9_code
def yX2_leafDueAfter : MethodName := ⟨RX2, "leafDueAfter", "(LPagedTree$Disk;I)I"⟩
def RX3 : String := "PagedTree$Way"
def TX3 : u_T := fun k => match k with
  | 0 => ("PagedTree$Way", "pages", "[I", true)
  | 1 => ("PagedTree$Way", "slots", "[I", true)
  | _ => ("PagedTree$Way", "length", "I", false)
def tyX3 : Nat → FieldType := fun k => match k with
  | 0 => .array .int
  | 1 => .array .int
  | _ => .int
abbrev wsX30 : List Cond := u_ws RX3 TX3 3
theorem nmX3 : ∀ a, a < 3 → ∀ b, b < 3 → a ≠ b → (TX3 a).2.1 ≠ (TX3 b).2.1 := by decide +kernel
theorem tyX3_ok : ∀ k, k < 3 → parseFieldDescriptor (TX3 k).2.2.1 = some (tyX3 k) := by decide +kernel
abbrev cX3_init : ByteArray := prog_5_method_1_code
def yX3_init : MethodName := ⟨RX3, "<init>", "()V"⟩
abbrev cX3_lead : ByteArray := prog_5_method_2_code
def yX3_lead : MethodName := ⟨RX3, "lead", "(LPagedTree$Disk;II)V"⟩
abbrev cX3_add : ByteArray := prog_5_method_3_code
def yX3_add : MethodName := ⟨RX3, "add", "(II)V"⟩
abbrev cX3_length : ByteArray := prog_5_method_4_code
def yX3_length : MethodName := ⟨RX3, "length", "()I"⟩
abbrev cX3_pageAt : ByteArray := prog_5_method_5_code
def yX3_pageAt : MethodName := ⟨RX3, "pageAt", "(I)I"⟩
abbrev cX3_slotAt : ByteArray := prog_5_method_6_code
def yX3_slotAt : MethodName := ⟨RX3, "slotAt", "(I)I"⟩
abbrev cX3_leaf : ByteArray := prog_5_method_7_code
def yX3_leaf : MethodName := ⟨RX3, "leaf", "()I"⟩
def RX4 : String := "PagedTree"
def TX4 : u_T := fun k => match k with
  | 0 => ("PagedTree", "disk", "LPagedTree$Disk;", true)
  | 1 => ("PagedTree", "frames", "LPagedTree$Frames;", true)
  | 2 => ("PagedTree", "way", "LPagedTree$Way;", true)
  | 3 => ("PagedTree", "survey", "LPagedTree$Survey;", true)
  | 4 => ("PagedTree", "root", "I", false)
  | 5 => ("PagedTree", "keyCount", "I", false)
  | 6 => ("PagedTree", "cursorLeaf", "I", false)
  | 7 => ("PagedTree", "cursorPlace", "I", false)
  | 8 => ("PagedTree", "cursorKey", "I", false)
  | _ => ("PagedTree", "cursorValue", "I", false)
def tyX4 : Nat → FieldType := fun k => match k with
  | 0 => .object "PagedTree$Disk"
  | 1 => .object "PagedTree$Frames"
  | 2 => .object "PagedTree$Way"
  | 3 => .object "PagedTree$Survey"
  | 4 => .int
  | 5 => .int
  | 6 => .int
  | 7 => .int
  | 8 => .int
  | _ => .int
abbrev wsX40 : List Cond := u_ws RX4 TX4 10
theorem nmX4 : ∀ a, a < 10 → ∀ b, b < 10 → a ≠ b → (TX4 a).2.1 ≠ (TX4 b).2.1 := by decide +kernel
theorem tyX4_ok : ∀ k, k < 10 → parseFieldDescriptor (TX4 k).2.2.1 = some (tyX4 k) := by decide +kernel
abbrev cX4_init : ByteArray := prog_1_method_1_code
def yX4_init : MethodName := ⟨RX4, "<init>", "()V"⟩
abbrev cX4_put : ByteArray := prog_1_method_2_code
def yX4_put : MethodName := ⟨RX4, "put", "(II)Z"⟩
abbrev cX4_get : ByteArray := prog_1_method_3_code
def yX4_get : MethodName := ⟨RX4, "get", "(I)I"⟩
abbrev cX4_remove : ByteArray := prog_1_method_4_code
def yX4_remove : MethodName := ⟨RX4, "remove", "(I)Z"⟩
abbrev cX4_seek : ByteArray := prog_1_method_5_code
def yX4_seek : MethodName := ⟨RX4, "seek", "(I)Z"⟩
abbrev cX4_next : ByteArray := prog_1_method_6_code
def yX4_next : MethodName := ⟨RX4, "next", "()Z"⟩
abbrev cX4_cursor : ByteArray := prog_1_method_7_code
def yX4_cursor : MethodName := ⟨RX4, "cursor", "(Z)I"⟩
abbrev cX4_flush : ByteArray := prog_1_method_8_code
def yX4_flush : MethodName := ⟨RX4, "flush", "()I"⟩
abbrev cX4_drop : ByteArray := prog_1_method_9_code
def yX4_drop : MethodName := ⟨RX4, "drop", "()I"⟩
abbrev cX4_page : ByteArray := prog_1_method_10_code
def yX4_page : MethodName := ⟨RX4, "page", "(II)I"⟩
abbrev cX4_item : ByteArray := prog_1_method_11_code
def yX4_item : MethodName := ⟨RX4, "item", "(IIZ)I"⟩
abbrev cX4_frame : ByteArray := prog_1_method_12_code
def yX4_frame : MethodName := ⟨RX4, "frame", "(II)I"⟩
abbrev cX4_told : ByteArray := prog_1_method_13_code
def yX4_told : MethodName := ⟨RX4, "told", "(I)I"⟩
abbrev cX4_astray : ByteArray := prog_1_method_14_code
def yX4_astray : MethodName := ⟨RX4, "astray", "()I"⟩
abbrev cX4_touchWay : ByteArray := prog_1_method_15_code
def yX4_touchWay : MethodName := ⟨RX4, "touchWay", "()V"⟩
abbrev cX4_endCursor : ByteArray := prog_1_method_16_code
def yX4_endCursor : MethodName := ⟨RX4, "endCursor", "()V"⟩
abbrev cX4_moveCursor : ByteArray := prog_1_method_17_code
def yX4_moveCursor : MethodName := ⟨RX4, "moveCursor", "(II)Z"⟩
abbrev cX4_newPagesForEntry : ByteArray := prog_1_method_18_code
def yX4_newPagesForEntry : MethodName := ⟨RX4, "newPagesForEntry", "()I"⟩
abbrev cX4_splitUpwards : ByteArray := prog_1_method_19_code
def yX4_splitUpwards : MethodName := ⟨RX4, "splitUpwards", "()V"⟩
abbrev cX4_split : ByteArray := prog_1_method_20_code
def yX4_split : MethodName := ⟨RX4, "split", "(I)V"⟩
abbrev cX4_raiseRoot : ByteArray := prog_1_method_21_code
def yX4_raiseRoot : MethodName := ⟨RX4, "raiseRoot", "(I)V"⟩
abbrev cX4_takePage : ByteArray := prog_1_method_22_code
def yX4_takePage : MethodName := ⟨RX4, "takePage", "(I)I"⟩
abbrev cX4_mendUpwards : ByteArray := prog_1_method_23_code
def yX4_mendUpwards : MethodName := ⟨RX4, "mendUpwards", "()V"⟩
abbrev cX4_lowerRoot : ByteArray := prog_1_method_24_code
def yX4_lowerRoot : MethodName := ⟨RX4, "lowerRoot", "()V"⟩
abbrev cX4_mend : ByteArray := prog_1_method_25_code
def yX4_mend : MethodName := ⟨RX4, "mend", "(I)V"⟩
abbrev cX4_giveFromLeft : ByteArray := prog_1_method_26_code
def yX4_giveFromLeft : MethodName := ⟨RX4, "giveFromLeft", "(IIII)V"⟩
abbrev cX4_giveFromRight : ByteArray := prog_1_method_27_code
def yX4_giveFromRight : MethodName := ⟨RX4, "giveFromRight", "(IIII)V"⟩
abbrev cX4_join : ByteArray := prog_1_method_28_code
def yX4_join : MethodName := ⟨RX4, "join", "(IIII)V"⟩
abbrev cX4_soilThree : ByteArray := prog_1_method_29_code
def yX4_soilThree : MethodName := ⟨RX4, "soilThree", "(III)V"⟩
abbrev cX4_releasePage : ByteArray := prog_1_method_30_code
def yX4_releasePage : MethodName := ⟨RX4, "releasePage", "(I)V"⟩
def RX5 : String := "PagedTreeModel"
def TX5 : u_T := fun k => match k with
  | 0 => ("PagedTreeModel", "refusal", "I", false)
  | 1 => ("PagedTreeModel", "kinds", "[I", true)
  | 2 => ("PagedTreeModel", "sizes", "[I", true)
  | 3 => ("PagedTreeModel", "keys", "[I", true)
  | 4 => ("PagedTreeModel", "others", "[I", true)
  | 5 => ("PagedTreeModel", "nexts", "[I", true)
  | 6 => ("PagedTreeModel", "root", "I", false)
  | 7 => ("PagedTreeModel", "entries", "I", false)
  | 8 => ("PagedTreeModel", "deep", "I", false)
  | 9 => ("PagedTreeModel", "way", "[I", true)
  | 10 => ("PagedTreeModel", "child", "[I", true)
  | 11 => ("PagedTreeModel", "held", "[I", true)
  | 12 => ("PagedTreeModel", "isUsed", "[Z", true)
  | 13 => ("PagedTreeModel", "isDirty", "[Z", true)
  | 14 => ("PagedTreeModel", "isPinned", "[Z", true)
  | 15 => ("PagedTreeModel", "hand", "I", false)
  | 16 => ("PagedTreeModel", "hits", "I", false)
  | 17 => ("PagedTreeModel", "reads", "I", false)
  | 18 => ("PagedTreeModel", "writes", "I", false)
  | 19 => ("PagedTreeModel", "isOn", "Z", false)
  | 20 => ("PagedTreeModel", "leaf", "I", false)
  | 21 => ("PagedTreeModel", "place", "I", false)
  | 22 => ("PagedTreeModel", "cursorKey", "I", false)
  | _ => ("PagedTreeModel", "cursorValue", "I", false)
def tyX5 : Nat → FieldType := fun k => match k with
  | 0 => .int
  | 1 => .array .int
  | 2 => .array .int
  | 3 => .array .int
  | 4 => .array .int
  | 5 => .array .int
  | 6 => .int
  | 7 => .int
  | 8 => .int
  | 9 => .array .int
  | 10 => .array .int
  | 11 => .array .int
  | 12 => .array .boolean
  | 13 => .array .boolean
  | 14 => .array .boolean
  | 15 => .int
  | 16 => .int
  | 17 => .int
  | 18 => .int
  | 19 => .boolean
  | 20 => .int
  | 21 => .int
  | 22 => .int
  | _ => .int
abbrev wsX50 : List Cond := u_ws RX5 TX5 24
theorem nmX5 : ∀ a, a < 24 → ∀ b, b < 24 → a ≠ b → (TX5 a).2.1 ≠ (TX5 b).2.1 := by decide +kernel
theorem tyX5_ok : ∀ k, k < 24 → parseFieldDescriptor (TX5 k).2.2.1 = some (tyX5 k) := by decide +kernel
abbrev cX5_init : ByteArray := prog_7_method_1_code
def yX5_init : MethodName := ⟨RX5, "<init>", "()V"⟩
abbrev cX5_thrown : ByteArray := prog_7_method_2_code
def yX5_thrown : MethodName := ⟨RX5, "thrown", "()I"⟩
abbrev cX5_unpin : ByteArray := prog_7_method_3_code
def yX5_unpin : MethodName := ⟨RX5, "unpin", "()V"⟩
abbrev cX5_frameOf : ByteArray := prog_7_method_4_code
def yX5_frameOf : MethodName := ⟨RX5, "frameOf", "(I)I"⟩
abbrev cX5_goOn : ByteArray := prog_7_method_5_code
def yX5_goOn : MethodName := ⟨RX5, "goOn", "()V"⟩
abbrev cX5_freeFrame : ByteArray := prog_7_method_6_code
def yX5_freeFrame : MethodName := ⟨RX5, "freeFrame", "()I"⟩
abbrev cX5_touch : ByteArray := prog_7_method_7_code
def yX5_touch : MethodName := ⟨RX5, "touch", "(IZ)V"⟩
abbrev cX5_change : ByteArray := prog_7_method_8_code
def yX5_change : MethodName := ⟨RX5, "change", "(I)V"⟩
abbrev cX5_release : ByteArray := prog_7_method_9_code
def yX5_release : MethodName := ⟨RX5, "release", "(I)V"⟩
abbrev cX5_find : ByteArray := prog_7_method_10_code
def yX5_find : MethodName := ⟨RX5, "find", "(I)V"⟩
abbrev cX5_touchWay : ByteArray := prog_7_method_11_code
def yX5_touchWay : MethodName := ⟨RX5, "touchWay", "()V"⟩
abbrev cX5_placeOf : ByteArray := prog_7_method_12_code
def yX5_placeOf : MethodName := ⟨RX5, "placeOf", "(I)I"⟩
abbrev cX5_isAt : ByteArray := prog_7_method_13_code
def yX5_isAt : MethodName := ⟨RX5, "isAt", "(II)Z"⟩
abbrev cX5_leastFree : ByteArray := prog_7_method_14_code
def yX5_leastFree : MethodName := ⟨RX5, "leastFree", "()I"⟩
abbrev cX5_pagesInUse : ByteArray := prog_7_method_15_code
def yX5_pagesInUse : MethodName := ⟨RX5, "pagesInUse", "()I"⟩
abbrev cX5_insert : ByteArray := prog_7_method_16_code
def yX5_insert : MethodName := ⟨RX5, "insert", "(IIII)V"⟩
abbrev cX5_removeAt : ByteArray := prog_7_method_17_code
def yX5_removeAt : MethodName := ⟨RX5, "removeAt", "(II)V"⟩
abbrev cX5_wanted : ByteArray := prog_7_method_18_code
def yX5_wanted : MethodName := ⟨RX5, "wanted", "()I"⟩
abbrev cX5_split : ByteArray := prog_7_method_19_code
def yX5_split : MethodName := ⟨RX5, "split", "(I)V"⟩
abbrev cX5_put : ByteArray := prog_7_method_20_code
def yX5_put : MethodName := ⟨RX5, "put", "(II)Z"⟩
abbrev cX5_get : ByteArray := prog_7_method_21_code
def yX5_get : MethodName := ⟨RX5, "get", "(I)I"⟩
abbrev cX5_give : ByteArray := prog_7_method_22_code
def yX5_give : MethodName := ⟨RX5, "give", "(IIZ)V"⟩
abbrev cX5_join : ByteArray := prog_7_method_23_code
def yX5_join : MethodName := ⟨RX5, "join", "(II)V"⟩
abbrev cX5_mend : ByteArray := prog_7_method_24_code
def yX5_mend : MethodName := ⟨RX5, "mend", "(I)V"⟩
abbrev cX5_remove : ByteArray := prog_7_method_25_code
def yX5_remove : MethodName := ⟨RX5, "remove", "(I)Z"⟩
abbrev cX5_arrive : ByteArray := prog_7_method_26_code
def yX5_arrive : MethodName := ⟨RX5, "arrive", "(II)Z"⟩
abbrev cX5_seek : ByteArray := prog_7_method_27_code
def yX5_seek : MethodName := ⟨RX5, "seek", "(I)Z"⟩
abbrev cX5_next : ByteArray := prog_7_method_28_code
def yX5_next : MethodName := ⟨RX5, "next", "()Z"⟩
abbrev cX5_cursor : ByteArray := prog_7_method_29_code
def yX5_cursor : MethodName := ⟨RX5, "cursor", "(Z)I"⟩
abbrev cX5_flush : ByteArray := prog_7_method_30_code
def yX5_flush : MethodName := ⟨RX5, "flush", "()I"⟩
abbrev cX5_drop : ByteArray := prog_7_method_31_code
def yX5_drop : MethodName := ⟨RX5, "drop", "()I"⟩
abbrev cX5_page : ByteArray := prog_7_method_32_code
def yX5_page : MethodName := ⟨RX5, "page", "(II)I"⟩
abbrev cX5_item : ByteArray := prog_7_method_33_code
def yX5_item : MethodName := ⟨RX5, "item", "(IIZ)I"⟩
abbrev cX5_frame : ByteArray := prog_7_method_34_code
def yX5_frame : MethodName := ⟨RX5, "frame", "(II)I"⟩
abbrev cX5_levels : ByteArray := prog_7_method_35_code
def yX5_levels : MethodName := ⟨RX5, "levels", "()I"⟩
abbrev cX5_told : ByteArray := prog_7_method_36_code
def yX5_told : MethodName := ⟨RX5, "told", "(I)I"⟩
abbrev cX5_astray : ByteArray := prog_7_method_37_code
def yX5_astray : MethodName := ⟨RX5, "astray", "()I"⟩
def RJx145de : String := "java/io/Serializable"
def TJx145de : u_T := fun k => match k with
  | _ => ("", "", "", false)
def tyJx145de : Nat → FieldType := fun k => match k with
  | _ => .int
abbrev wsJx145de0 : List Cond := u_ws RJx145de TJx145de 0
theorem nmJx145de : ∀ a, a < 0 → ∀ b, b < 0 → a ≠ b → (TJx145de a).2.1 ≠ (TJx145de b).2.1 := by decide +kernel
theorem tyJx145de_ok : ∀ k, k < 0 → parseFieldDescriptor (TJx145de k).2.2.1 = some (tyJx145de k) := by decide +kernel
def RJ9 : String := "java/lang/Math"
def TJ9 : u_T := fun k => match k with
  | _ => ("", "", "", false)
def tyJ9 : Nat → FieldType := fun k => match k with
  | _ => .int
abbrev wsJ90 : List Cond := u_ws RJ9 TJ9 0
theorem nmJ9 : ∀ a, a < 0 → ∀ b, b < 0 → a ≠ b → (TJ9 a).2.1 ≠ (TJ9 b).2.1 := by decide +kernel
theorem tyJ9_ok : ∀ k, k < 0 → parseFieldDescriptor (TJ9 k).2.2.1 = some (tyJ9 k) := by decide +kernel
abbrev cJ9_floorMod_7cf53 : ByteArray := prog_13_method_50_code
def yJ9_floorMod_7cf53 : MethodName := ⟨RJ9, "floorMod", "(II)I"⟩
def RJ0 : String := "java/lang/String"
def TJ0 : u_T := fun k => match k with
  | _ => ("", "", "", false)
def tyJ0 : Nat → FieldType := fun k => match k with
  | _ => .int
abbrev wsJ00 : List Cond := u_ws RJ0 TJ0 0
theorem nmJ0 : ∀ a, a < 0 → ∀ b, b < 0 → a ≠ b → (TJ0 a).2.1 ≠ (TJ0 b).2.1 := by decide +kernel
theorem tyJ0_ok : ∀ k, k < 0 → parseFieldDescriptor (TJ0 k).2.2.1 = some (tyJ0 k) := by decide +kernel
def RJ7 : String := "java/util/Arrays"
def TJ7 : u_T := fun k => match k with
  | _ => ("", "", "", false)
def tyJ7 : Nat → FieldType := fun k => match k with
  | _ => .int
abbrev wsJ70 : List Cond := u_ws RJ7 TJ7 0
theorem nmJ7 : ∀ a, a < 0 → ∀ b, b < 0 → a ≠ b → (TJ7 a).2.1 ≠ (TJ7 b).2.1 := by decide +kernel
theorem tyJ7_ok : ∀ k, k < 0 → parseFieldDescriptor (TJ7 k).2.2.1 = some (tyJ7 k) := by decide +kernel
abbrev cJ7_fill_53178 : ByteArray := prog_18_method_103_code
def yJ7_fill_53178 : MethodName := ⟨RJ7, "fill", "([II)V"⟩
def RL : String := "PagedTreeLaw"
abbrev cL_put : ByteArray := method_3_code
def yL_put : MethodName := ⟨RL, "put", "(LPagedTree;II[J)I"⟩
abbrev cL_get : ByteArray := method_4_code
def yL_get : MethodName := ⟨RL, "get", "(LPagedTree;I[J)I"⟩
abbrev cL_next : ByteArray := method_5_code
def yL_next : MethodName := ⟨RL, "next", "(LPagedTree;[J)I"⟩
abbrev cL_cursor : ByteArray := method_6_code
def yL_cursor : MethodName := ⟨RL, "cursor", "(LPagedTree;Z[J)I"⟩
abbrev cL_drop : ByteArray := method_7_code
def yL_drop : MethodName := ⟨RL, "drop", "(LPagedTree;[J)I"⟩
abbrev cL_page : ByteArray := method_8_code
def yL_page : MethodName := ⟨RL, "page", "(LPagedTree;II[J)I"⟩
abbrev cL_item : ByteArray := method_9_code
def yL_item : MethodName := ⟨RL, "item", "(LPagedTree;IIZ[J)I"⟩
abbrev cL_frame : ByteArray := method_10_code
def yL_frame : MethodName := ⟨RL, "frame", "(LPagedTree;II[J)I"⟩
abbrev cL_law : ByteArray := code
def yL_law : MethodName := ⟨RL, "law", "([I)Z"⟩
abbrev vwCl : List vw_C := [(RX0, TX0, 5), (RX1, TX1, 8), (RX2, TX2, 6), (RX3, TX3, 3), (RX4, TX4, 10), (RX5, TX5, 24)]
end
section
def tb : List Cond := lw_tbl.filter goodWord
theorem tb_of {w : Cond} (h : w ∈ lw_tbl) (g : goodWord w = true) : w ∈ tb := List.mem_filter.mpr ⟨h, g⟩
theorem tb_t (i : Nat) {w : Cond} (h : tables_1[i]? = some w) (g : goodWord w = true) : w ∈ tb := tb_of (List.mem_append_right _ (List.mem_of_getElem? h)) g
theorem tb_p (i : Nat) {w : Cond} (h : (k2_sels lw_privs)[i]? = some w) (g : goodWord w = true) : w ∈ tb := tb_of (List.mem_append_left _ (List.mem_of_getElem? h)) g
theorem tb_good (c1 : Cond) {c2 : Cond} (h : c2 ∈ tb) : GoodIn (c1 :: tb) (c2 :: tb) := by
  have g : ∀ w ∈ tb, w ∈ c1 :: tb ∧ ((w.onTables && w.keeps) = true ∨ ∃ ty, w = .arrayClass ty) := fun w hw => ⟨List.mem_cons_of_mem _ hw, good_of_word (List.mem_filter.mp hw).2⟩
  intro w hw
  rcases List.mem_cons.mp hw with e | hw
  · rw [e]; exact g _ h
  · exact g _ hw
theorem tb_one (c1 : Cond) {w : Cond} (h : w ∈ tb) : w ∈ c1 :: tb ∧ ((w.onTables && w.keeps) = true ∨ ∃ ty, w = .arrayClass ty) := ⟨List.mem_cons_of_mem _ h, good_of_word (List.mem_filter.mp h).2⟩
theorem tb_wsV (c1 : Cond) {c2 : Cond} {own C : String} {idx : Nat} {y : MethodName} (h1 : Cond.methodLink own idx y ∈ tb) (h2 : Cond.instanceMethod y ∈ tb) (h3 : Cond.selects C y y ∈ tb) (h4 : Cond.initialized C ∈ tb) (h5 : c2 ∈ tb) : GoodIn (c1 :: tb) (wsV own idx C y (c2 :: tb)) := by
  intro w hw
  rcases List.mem_append.mp hw with hw | hw
  · simp only [List.mem_cons, List.not_mem_nil, or_false] at hw
    rcases hw with e | e | e | e <;> rw [e]
    · exact tb_one c1 h1
    · exact tb_one c1 h2
    · exact tb_one c1 h3
    · exact tb_one c1 h4
  · exact tb_good c1 h5 w hw
theorem tb_wsX (c1 : Cond) {c2 : Cond} {own : String} {idx : Nat} {y : MethodName} (h1 : Cond.methodLink own idx y ∈ tb) (h2 : Cond.static y ∈ tb) (h4 : Cond.initialized y.cls ∈ tb) (h5 : c2 ∈ tb) : GoodIn (c1 :: tb) (va_wsS own idx y (c2 :: tb)) := by
  intro w hw
  rcases List.mem_append.mp hw with hw | hw
  · simp only [List.mem_cons, List.not_mem_nil, or_false] at hw
    rcases hw with e | e | e <;> rw [e]
    · exact tb_one c1 h1
    · exact tb_one c1 h2
    · exact tb_one c1 h4
  · exact tb_good c1 h5 w hw
theorem mS_X3_add : Cond.selects RX3 yX3_add yX3_add ∈ tb := tb_p 0 (by decide +kernel) rfl
theorem mS_X0_cellOf : Cond.selects RX0 yX0_cellOf yX0_cellOf ∈ tb := tb_p 1 (by decide +kernel) rfl
theorem mS_X4_endCursor : Cond.selects RX4 yX4_endCursor yX4_endCursor ∈ tb := tb_p 2 (by decide +kernel) rfl
theorem mS_X4_touchWay : Cond.selects RX4 yX4_touchWay yX4_touchWay ∈ tb := tb_p 3 (by decide +kernel) rfl
theorem mS_X1_vacateFrame : Cond.selects RX1 yX1_vacateFrame yX1_vacateFrame ∈ tb := tb_p 4 (by decide +kernel) rfl
theorem mS_X1_givesWay : Cond.selects RX1 yX1_givesWay yX1_givesWay ∈ tb := tb_p 5 (by decide +kernel) rfl
theorem mS_X1_clear : Cond.selects RX1 yX1_clear yX1_clear ∈ tb := tb_p 6 (by decide +kernel) rfl
theorem mS_X4_mendUpwards : Cond.selects RX4 yX4_mendUpwards yX4_mendUpwards ∈ tb := tb_p 7 (by decide +kernel) rfl
theorem mS_X4_mend : Cond.selects RX4 yX4_mend yX4_mend ∈ tb := tb_p 8 (by decide +kernel) rfl
theorem mS_X4_giveFromLeft : Cond.selects RX4 yX4_giveFromLeft yX4_giveFromLeft ∈ tb := tb_p 9 (by decide +kernel) rfl
theorem mS_X4_soilThree : Cond.selects RX4 yX4_soilThree yX4_soilThree ∈ tb := tb_p 10 (by decide +kernel) rfl
theorem mS_X4_giveFromRight : Cond.selects RX4 yX4_giveFromRight yX4_giveFromRight ∈ tb := tb_p 11 (by decide +kernel) rfl
theorem mS_X4_join : Cond.selects RX4 yX4_join yX4_join ∈ tb := tb_p 12 (by decide +kernel) rfl
theorem mS_X4_releasePage : Cond.selects RX4 yX4_releasePage yX4_releasePage ∈ tb := tb_p 13 (by decide +kernel) rfl
theorem mS_X4_lowerRoot : Cond.selects RX4 yX4_lowerRoot yX4_lowerRoot ∈ tb := tb_p 14 (by decide +kernel) rfl
theorem mS_X4_moveCursor : Cond.selects RX4 yX4_moveCursor yX4_moveCursor ∈ tb := tb_p 15 (by decide +kernel) rfl
theorem mS_X2_meet : Cond.selects RX2 yX2_meet yX2_meet ∈ tb := tb_p 16 (by decide +kernel) rfl
theorem mS_X2_meetChildren : Cond.selects RX2 yX2_meetChildren yX2_meetChildren ∈ tb := tb_p 17 (by decide +kernel) rfl
theorem mS_X2_isAstray : Cond.selects RX2 yX2_isAstray yX2_isAstray ∈ tb := tb_p 18 (by decide +kernel) rfl
theorem mS_X2_leafDueAfter : Cond.selects RX2 yX2_leafDueAfter yX2_leafDueAfter ∈ tb := tb_p 19 (by decide +kernel) rfl
theorem mS_X2_countIsRight : Cond.selects RX2 yX2_countIsRight yX2_countIsRight ∈ tb := tb_p 20 (by decide +kernel) rfl
theorem mS_X2_childrenArePages : Cond.selects RX2 yX2_childrenArePages yX2_childrenArePages ∈ tb := tb_p 21 (by decide +kernel) rfl
theorem mS_X2_keysAreInPlace : Cond.selects RX2 yX2_keysAreInPlace yX2_keysAreInPlace ∈ tb := tb_p 22 (by decide +kernel) rfl
theorem mS_X4_newPagesForEntry : Cond.selects RX4 yX4_newPagesForEntry yX4_newPagesForEntry ∈ tb := tb_p 23 (by decide +kernel) rfl
theorem mS_X4_splitUpwards : Cond.selects RX4 yX4_splitUpwards yX4_splitUpwards ∈ tb := tb_p 25 (by decide +kernel) rfl
theorem mS_X4_split : Cond.selects RX4 yX4_split yX4_split ∈ tb := tb_p 26 (by decide +kernel) rfl
theorem mS_X4_takePage : Cond.selects RX4 yX4_takePage yX4_takePage ∈ tb := tb_p 27 (by decide +kernel) rfl
theorem mS_X4_raiseRoot : Cond.selects RX4 yX4_raiseRoot yX4_raiseRoot ∈ tb := tb_p 28 (by decide +kernel) rfl
theorem mS_X5_find : Cond.selects RX5 yX5_find yX5_find ∈ tb := tb_p 29 (by decide +kernel) rfl
theorem mS_X5_placeOf : Cond.selects RX5 yX5_placeOf yX5_placeOf ∈ tb := tb_p 30 (by decide +kernel) rfl
theorem mS_X5_isAt : Cond.selects RX5 yX5_isAt yX5_isAt ∈ tb := tb_p 31 (by decide +kernel) rfl
theorem mS_X5_pagesInUse : Cond.selects RX5 yX5_pagesInUse yX5_pagesInUse ∈ tb := tb_p 32 (by decide +kernel) rfl
theorem mS_X5_wanted : Cond.selects RX5 yX5_wanted yX5_wanted ∈ tb := tb_p 33 (by decide +kernel) rfl
theorem mS_X5_touchWay : Cond.selects RX5 yX5_touchWay yX5_touchWay ∈ tb := tb_p 34 (by decide +kernel) rfl
theorem mS_X5_touch : Cond.selects RX5 yX5_touch yX5_touch ∈ tb := tb_p 35 (by decide +kernel) rfl
theorem mS_X5_frameOf : Cond.selects RX5 yX5_frameOf yX5_frameOf ∈ tb := tb_p 36 (by decide +kernel) rfl
theorem mS_X5_freeFrame : Cond.selects RX5 yX5_freeFrame yX5_freeFrame ∈ tb := tb_p 37 (by decide +kernel) rfl
theorem mS_X5_goOn : Cond.selects RX5 yX5_goOn yX5_goOn ∈ tb := tb_p 38 (by decide +kernel) rfl
theorem mS_X5_change : Cond.selects RX5 yX5_change yX5_change ∈ tb := tb_p 39 (by decide +kernel) rfl
theorem mS_X5_insert : Cond.selects RX5 yX5_insert yX5_insert ∈ tb := tb_p 40 (by decide +kernel) rfl
theorem mS_X5_split : Cond.selects RX5 yX5_split yX5_split ∈ tb := tb_p 41 (by decide +kernel) rfl
theorem mS_X5_leastFree : Cond.selects RX5 yX5_leastFree yX5_leastFree ∈ tb := tb_p 42 (by decide +kernel) rfl
theorem mS_X5_unpin : Cond.selects RX5 yX5_unpin yX5_unpin ∈ tb := tb_p 43 (by decide +kernel) rfl
theorem mS_X5_removeAt : Cond.selects RX5 yX5_removeAt yX5_removeAt ∈ tb := tb_p 44 (by decide +kernel) rfl
theorem mS_X5_mend : Cond.selects RX5 yX5_mend yX5_mend ∈ tb := tb_p 45 (by decide +kernel) rfl
theorem mS_X5_give : Cond.selects RX5 yX5_give yX5_give ∈ tb := tb_p 46 (by decide +kernel) rfl
theorem mS_X5_join : Cond.selects RX5 yX5_join yX5_join ∈ tb := tb_p 47 (by decide +kernel) rfl
theorem mS_X5_release : Cond.selects RX5 yX5_release yX5_release ∈ tb := tb_p 48 (by decide +kernel) rfl
theorem mS_X5_arrive : Cond.selects RX5 yX5_arrive yX5_arrive ∈ tb := tb_p 49 (by decide +kernel) rfl
theorem mS_X5_levels : Cond.selects RX5 yX5_levels yX5_levels ∈ tb := tb_p 50 (by decide +kernel) rfl
theorem mN_L : Cond.initialized RL ∈ tb := tb_t 0 (by decide +kernel) rfl
theorem mN_X4 : Cond.initialized RX4 ∈ tb := tb_t 1 (by decide +kernel) rfl
theorem mN_X0 : Cond.initialized RX0 ∈ tb := tb_t 2 (by decide +kernel) rfl
theorem mN_J7 : Cond.initialized RJ7 ∈ tb := tb_t 3 (by decide +kernel) rfl
theorem mN_X1 : Cond.initialized RX1 ∈ tb := tb_t 4 (by decide +kernel) rfl
theorem mN_X3 : Cond.initialized RX3 ∈ tb := tb_t 5 (by decide +kernel) rfl
theorem mN_X2 : Cond.initialized RX2 ∈ tb := tb_t 6 (by decide +kernel) rfl
theorem mN_X5 : Cond.initialized RX5 ∈ tb := tb_t 7 (by decide +kernel) rfl
theorem mN_J9 : Cond.initialized RJ9 ∈ tb := tb_t 12 (by decide +kernel) rfl
theorem mC_L_8 : Cond.classLink RL 8 RX4 ∈ tb := tb_t 17 (by decide +kernel) rfl
theorem mA_X4 : Cond.instantiable RX4 10 ∈ tb := tb_t 18 (by decide +kernel) rfl
theorem mM_L_50 : Cond.methodLink RL 50 yX4_init ∈ tb := tb_t 19 (by decide +kernel) rfl
theorem mI_X4_init : Cond.instanceMethod yX4_init ∈ tb := tb_t 20 (by decide +kernel) rfl
abbrev kX4_init : Cond := Cond.code yX4_init cX4_init 1 none
set_option maxRecDepth 100000 in
theorem mK_X4_init : kX4_init ∈ tb := tb_t 21 rfl rfl
theorem mC_X4_9 : Cond.classLink RX4 9 RX0 ∈ tb := tb_t 25 (by decide +kernel) rfl
theorem mA_X0 : Cond.instantiable RX0 5 ∈ tb := tb_t 26 (by decide +kernel) rfl
theorem mM_X4_11 : Cond.methodLink RX4 11 yX0_init ∈ tb := tb_t 27 (by decide +kernel) rfl
theorem mI_X0_init : Cond.instanceMethod yX0_init ∈ tb := tb_t 28 (by decide +kernel) rfl
abbrev kX0_init : Cond := Cond.code yX0_init cX0_init 1 none
set_option maxRecDepth 100000 in
theorem mK_X0_init : kX0_init ∈ tb := tb_t 29 rfl rfl
theorem mM_X0_27 : Cond.methodLink RX0 27 yJ7_fill_53178 ∈ tb := tb_t 31 (by decide +kernel) rfl
theorem mT_J7_fill_53178 : Cond.static yJ7_fill_53178 ∈ tb := tb_t 32 (by decide +kernel) rfl
abbrev kJ7_fill_53178 : Cond := Cond.code yJ7_fill_53178 cJ7_fill_53178 4 none
set_option maxRecDepth 100000 in
theorem mK_J7_fill_53178 : kJ7_fill_53178 ∈ tb := tb_t 33 rfl rfl
theorem mF_X0_9 : Cond.fieldLink RX0 9 "PagedTree$Disk" "kinds" "[I" ∈ tb := tb_t 34 (by decide +kernel) rfl
theorem mF_X0_15 : Cond.fieldLink RX0 15 "PagedTree$Disk" "counts" "[I" ∈ tb := tb_t 35 (by decide +kernel) rfl
theorem mF_X0_18 : Cond.fieldLink RX0 18 "PagedTree$Disk" "leavesAfter" "[I" ∈ tb := tb_t 36 (by decide +kernel) rfl
theorem mF_X0_21 : Cond.fieldLink RX0 21 "PagedTree$Disk" "keys" "[I" ∈ tb := tb_t 37 (by decide +kernel) rfl
theorem mF_X0_24 : Cond.fieldLink RX0 24 "PagedTree$Disk" "seconds" "[I" ∈ tb := tb_t 38 (by decide +kernel) rfl
theorem mY_int : Cond.arrayClass .int ∈ tb := tb_t 50 (by decide +kernel) rfl
theorem mC_X4_16 : Cond.classLink RX4 16 RX1 ∈ tb := tb_t 51 (by decide +kernel) rfl
theorem mA_X1 : Cond.instantiable RX1 8 ∈ tb := tb_t 52 (by decide +kernel) rfl
theorem mM_X4_18 : Cond.methodLink RX4 18 yX1_init ∈ tb := tb_t 53 (by decide +kernel) rfl
theorem mI_X1_init : Cond.instanceMethod yX1_init ∈ tb := tb_t 54 (by decide +kernel) rfl
abbrev kX1_init : Cond := Cond.code yX1_init cX1_init 1 none
set_option maxRecDepth 100000 in
theorem mK_X1_init : kX1_init ∈ tb := tb_t 55 rfl rfl
theorem mM_X1_25 : Cond.methodLink RX1 25 yJ7_fill_53178 ∈ tb := tb_t 57 (by decide +kernel) rfl
theorem mF_X1_9 : Cond.fieldLink RX1 9 "PagedTree$Frames" "held" "[I" ∈ tb := tb_t 58 (by decide +kernel) rfl
theorem mF_X1_15 : Cond.fieldLink RX1 15 "PagedTree$Frames" "used" "[Z" ∈ tb := tb_t 59 (by decide +kernel) rfl
theorem mF_X1_19 : Cond.fieldLink RX1 19 "PagedTree$Frames" "dirty" "[Z" ∈ tb := tb_t 60 (by decide +kernel) rfl
theorem mF_X1_22 : Cond.fieldLink RX1 22 "PagedTree$Frames" "pinned" "[Z" ∈ tb := tb_t 61 (by decide +kernel) rfl
theorem mF_X1_45 : Cond.fieldLink RX1 45 "PagedTree$Frames" "hand" "I" ∈ tb := tb_t 62 (by decide +kernel) rfl
theorem mF_X1_35 : Cond.fieldLink RX1 35 "PagedTree$Frames" "hits" "I" ∈ tb := tb_t 63 (by decide +kernel) rfl
theorem mF_X1_39 : Cond.fieldLink RX1 39 "PagedTree$Frames" "pagesRead" "I" ∈ tb := tb_t 64 (by decide +kernel) rfl
theorem mF_X1_42 : Cond.fieldLink RX1 42 "PagedTree$Frames" "pagesWritten" "I" ∈ tb := tb_t 65 (by decide +kernel) rfl
theorem mY_boolean : Cond.arrayClass .boolean ∈ tb := tb_t 83 (by decide +kernel) rfl
theorem mC_X4_23 : Cond.classLink RX4 23 RX3 ∈ tb := tb_t 84 (by decide +kernel) rfl
theorem mA_X3 : Cond.instantiable RX3 3 ∈ tb := tb_t 85 (by decide +kernel) rfl
theorem mM_X4_25 : Cond.methodLink RX4 25 yX3_init ∈ tb := tb_t 86 (by decide +kernel) rfl
theorem mI_X3_init : Cond.instanceMethod yX3_init ∈ tb := tb_t 87 (by decide +kernel) rfl
abbrev kX3_init : Cond := Cond.code yX3_init cX3_init 1 none
set_option maxRecDepth 100000 in
theorem mK_X3_init : kX3_init ∈ tb := tb_t 88 rfl rfl
theorem mF_X3_9 : Cond.fieldLink RX3 9 "PagedTree$Way" "pages" "[I" ∈ tb := tb_t 90 (by decide +kernel) rfl
theorem mF_X3_15 : Cond.fieldLink RX3 15 "PagedTree$Way" "slots" "[I" ∈ tb := tb_t 91 (by decide +kernel) rfl
theorem mF_X3_18 : Cond.fieldLink RX3 18 "PagedTree$Way" "length" "I" ∈ tb := tb_t 92 (by decide +kernel) rfl
theorem mC_X4_30 : Cond.classLink RX4 30 RX2 ∈ tb := tb_t 100 (by decide +kernel) rfl
theorem mA_X2 : Cond.instantiable RX2 6 ∈ tb := tb_t 101 (by decide +kernel) rfl
theorem mM_X4_32 : Cond.methodLink RX4 32 yX2_init ∈ tb := tb_t 102 (by decide +kernel) rfl
theorem mI_X2_init : Cond.instanceMethod yX2_init ∈ tb := tb_t 103 (by decide +kernel) rfl
abbrev kX2_init : Cond := Cond.code yX2_init cX2_init 1 none
set_option maxRecDepth 100000 in
theorem mK_X2_init : kX2_init ∈ tb := tb_t 104 rfl rfl
theorem mF_X2_9 : Cond.fieldLink RX2 9 "PagedTree$Survey" "queue" "[I" ∈ tb := tb_t 106 (by decide +kernel) rfl
theorem mF_X2_34 : Cond.fieldLink RX2 34 "PagedTree$Survey" "queued" "I" ∈ tb := tb_t 107 (by decide +kernel) rfl
theorem mF_X2_15 : Cond.fieldLink RX2 15 "PagedTree$Survey" "met" "[I" ∈ tb := tb_t 108 (by decide +kernel) rfl
theorem mF_X2_18 : Cond.fieldLink RX2 18 "PagedTree$Survey" "levels" "[I" ∈ tb := tb_t 109 (by decide +kernel) rfl
theorem mF_X2_21 : Cond.fieldLink RX2 21 "PagedTree$Survey" "lows" "[J" ∈ tb := tb_t 110 (by decide +kernel) rfl
theorem mF_X2_25 : Cond.fieldLink RX2 25 "PagedTree$Survey" "highs" "[J" ∈ tb := tb_t 111 (by decide +kernel) rfl
theorem mY_long : Cond.arrayClass .long ∈ tb := tb_t 125 (by decide +kernel) rfl
theorem mM_X4_47 : Cond.methodLink RX4 47 yX0_allot ∈ tb := tb_t 126 (by decide +kernel) rfl
theorem mI_X0_allot : Cond.instanceMethod yX0_allot ∈ tb := tb_t 127 (by decide +kernel) rfl
theorem mS_X0_allot : Cond.selects RX0 yX0_allot yX0_allot ∈ tb := tb_t 128 (by decide +kernel) rfl
abbrev kX0_allot : Cond := Cond.code yX0_allot cX0_allot 3 none
set_option maxRecDepth 100000 in
theorem mK_X0_allot : kX0_allot ∈ tb := tb_t 129 rfl rfl
theorem mM_X0_33 : Cond.methodLink RX0 33 yX0_isPage ∈ tb := tb_t 130 (by decide +kernel) rfl
theorem mI_X0_isPage : Cond.instanceMethod yX0_isPage ∈ tb := tb_t 131 (by decide +kernel) rfl
theorem mS_X0_isPage : Cond.selects RX0 yX0_isPage yX0_isPage ∈ tb := tb_t 132 (by decide +kernel) rfl
abbrev kX0_isPage : Cond := Cond.code yX0_isPage cX0_isPage 2 (some .boolean)
set_option maxRecDepth 100000 in
theorem mK_X0_isPage : kX0_isPage ∈ tb := tb_t 133 rfl rfl
theorem mF_X4_12 : Cond.fieldLink RX4 12 "PagedTree" "disk" "LPagedTree$Disk;" ∈ tb := tb_t 134 (by decide +kernel) rfl
theorem mF_X4_19 : Cond.fieldLink RX4 19 "PagedTree" "frames" "LPagedTree$Frames;" ∈ tb := tb_t 135 (by decide +kernel) rfl
theorem mF_X4_26 : Cond.fieldLink RX4 26 "PagedTree" "way" "LPagedTree$Way;" ∈ tb := tb_t 136 (by decide +kernel) rfl
theorem mF_X4_33 : Cond.fieldLink RX4 33 "PagedTree" "survey" "LPagedTree$Survey;" ∈ tb := tb_t 137 (by decide +kernel) rfl
theorem mF_X4_37 : Cond.fieldLink RX4 37 "PagedTree" "root" "I" ∈ tb := tb_t 138 (by decide +kernel) rfl
theorem mF_X4_41 : Cond.fieldLink RX4 41 "PagedTree" "keyCount" "I" ∈ tb := tb_t 139 (by decide +kernel) rfl
theorem mF_X4_44 : Cond.fieldLink RX4 44 "PagedTree" "cursorLeaf" "I" ∈ tb := tb_t 140 (by decide +kernel) rfl
theorem mF_X4_127 : Cond.fieldLink RX4 127 "PagedTree" "cursorPlace" "I" ∈ tb := tb_t 141 (by decide +kernel) rfl
theorem mF_X4_133 : Cond.fieldLink RX4 133 "PagedTree" "cursorKey" "I" ∈ tb := tb_t 142 (by decide +kernel) rfl
theorem mF_X4_130 : Cond.fieldLink RX4 130 "PagedTree" "cursorValue" "I" ∈ tb := tb_t 143 (by decide +kernel) rfl
theorem mM_L_67 : Cond.methodLink RL 67 yX4_remove ∈ tb := tb_t 165 (by decide +kernel) rfl
theorem mI_X4_remove : Cond.instanceMethod yX4_remove ∈ tb := tb_t 166 (by decide +kernel) rfl
theorem mS_X4_remove : Cond.selects RX4 yX4_remove yX4_remove ∈ tb := tb_t 167 (by decide +kernel) rfl
abbrev kX4_remove : Cond := Cond.code yX4_remove cX4_remove 5 (some .boolean)
set_option maxRecDepth 100000 in
theorem mK_X4_remove : kX4_remove ∈ tb := tb_t 168 rfl rfl
theorem mM_X4_51 : Cond.methodLink RX4 51 yX3_lead ∈ tb := tb_t 169 (by decide +kernel) rfl
theorem mI_X3_lead : Cond.instanceMethod yX3_lead ∈ tb := tb_t 170 (by decide +kernel) rfl
theorem mS_X3_lead : Cond.selects RX3 yX3_lead yX3_lead ∈ tb := tb_t 171 (by decide +kernel) rfl
abbrev kX3_lead : Cond := Cond.code yX3_lead cX3_lead 6 none
set_option maxRecDepth 100000 in
theorem mK_X3_lead : kX3_lead ∈ tb := tb_t 172 rfl rfl
theorem mM_X3_22 : Cond.methodLink RX3 22 yX3_add ∈ tb := tb_t 173 (by decide +kernel) rfl
theorem mI_X3_add : Cond.instanceMethod yX3_add ∈ tb := tb_t 175 (by decide +kernel) rfl
abbrev kX3_add : Cond := Cond.code yX3_add cX3_add 3 none
set_option maxRecDepth 100000 in
theorem mK_X3_add : kX3_add ∈ tb := tb_t 176 rfl rfl
theorem mM_X3_26 : Cond.methodLink RX3 26 yX3_leaf ∈ tb := tb_t 177 (by decide +kernel) rfl
theorem mI_X3_leaf : Cond.instanceMethod yX3_leaf ∈ tb := tb_t 178 (by decide +kernel) rfl
theorem mS_X3_leaf : Cond.selects RX3 yX3_leaf yX3_leaf ∈ tb := tb_t 179 (by decide +kernel) rfl
abbrev kX3_leaf : Cond := Cond.code yX3_leaf cX3_leaf 1 (some .int)
set_option maxRecDepth 100000 in
theorem mK_X3_leaf : kX3_leaf ∈ tb := tb_t 180 rfl rfl
theorem mM_X3_43 : Cond.methodLink RX3 43 yX3_pageAt ∈ tb := tb_t 181 (by decide +kernel) rfl
theorem mI_X3_pageAt : Cond.instanceMethod yX3_pageAt ∈ tb := tb_t 182 (by decide +kernel) rfl
theorem mS_X3_pageAt : Cond.selects RX3 yX3_pageAt yX3_pageAt ∈ tb := tb_t 183 (by decide +kernel) rfl
abbrev kX3_pageAt : Cond := Cond.code yX3_pageAt cX3_pageAt 2 (some .int)
set_option maxRecDepth 100000 in
theorem mK_X3_pageAt : kX3_pageAt ∈ tb := tb_t 184 rfl rfl
theorem mM_X3_30 : Cond.methodLink RX3 30 yX0_kindOf ∈ tb := tb_t 185 (by decide +kernel) rfl
theorem mI_X0_kindOf : Cond.instanceMethod yX0_kindOf ∈ tb := tb_t 186 (by decide +kernel) rfl
theorem mS_X0_kindOf : Cond.selects RX0 yX0_kindOf yX0_kindOf ∈ tb := tb_t 187 (by decide +kernel) rfl
abbrev kX0_kindOf : Cond := Cond.code yX0_kindOf cX0_kindOf 2 (some .int)
set_option maxRecDepth 100000 in
theorem mK_X0_kindOf : kX0_kindOf ∈ tb := tb_t 188 rfl rfl
theorem mM_X3_36 : Cond.methodLink RX3 36 yX0_childPlaceFor ∈ tb := tb_t 189 (by decide +kernel) rfl
theorem mI_X0_childPlaceFor : Cond.instanceMethod yX0_childPlaceFor ∈ tb := tb_t 190 (by decide +kernel) rfl
theorem mS_X0_childPlaceFor : Cond.selects RX0 yX0_childPlaceFor yX0_childPlaceFor ∈ tb := tb_t 191 (by decide +kernel) rfl
abbrev kX0_childPlaceFor : Cond := Cond.code yX0_childPlaceFor cX0_childPlaceFor 4 (some .int)
set_option maxRecDepth 100000 in
theorem mK_X0_childPlaceFor : kX0_childPlaceFor ∈ tb := tb_t 192 rfl rfl
theorem mM_X0_41 : Cond.methodLink RX0 41 yX0_countOf ∈ tb := tb_t 193 (by decide +kernel) rfl
theorem mI_X0_countOf : Cond.instanceMethod yX0_countOf ∈ tb := tb_t 194 (by decide +kernel) rfl
theorem mS_X0_countOf : Cond.selects RX0 yX0_countOf yX0_countOf ∈ tb := tb_t 195 (by decide +kernel) rfl
abbrev kX0_countOf : Cond := Cond.code yX0_countOf cX0_countOf 2 (some .int)
set_option maxRecDepth 100000 in
theorem mK_X0_countOf : kX0_countOf ∈ tb := tb_t 196 rfl rfl
theorem mM_X0_45 : Cond.methodLink RX0 45 yX0_keyAt ∈ tb := tb_t 197 (by decide +kernel) rfl
theorem mI_X0_keyAt : Cond.instanceMethod yX0_keyAt ∈ tb := tb_t 198 (by decide +kernel) rfl
theorem mS_X0_keyAt : Cond.selects RX0 yX0_keyAt yX0_keyAt ∈ tb := tb_t 199 (by decide +kernel) rfl
abbrev kX0_keyAt : Cond := Cond.code yX0_keyAt cX0_keyAt 4 (some .int)
set_option maxRecDepth 100000 in
theorem mK_X0_keyAt : kX0_keyAt ∈ tb := tb_t 200 rfl rfl
theorem mM_X0_37 : Cond.methodLink RX0 37 yX0_cellOf ∈ tb := tb_t 201 (by decide +kernel) rfl
theorem mI_X0_cellOf : Cond.instanceMethod yX0_cellOf ∈ tb := tb_t 203 (by decide +kernel) rfl
abbrev kX0_cellOf : Cond := Cond.code yX0_cellOf cX0_cellOf 4 (some .int)
set_option maxRecDepth 100000 in
theorem mK_X0_cellOf : kX0_cellOf ∈ tb := tb_t 204 rfl rfl
theorem mM_X3_40 : Cond.methodLink RX3 40 yX0_secondAt ∈ tb := tb_t 205 (by decide +kernel) rfl
theorem mI_X0_secondAt : Cond.instanceMethod yX0_secondAt ∈ tb := tb_t 206 (by decide +kernel) rfl
theorem mS_X0_secondAt : Cond.selects RX0 yX0_secondAt yX0_secondAt ∈ tb := tb_t 207 (by decide +kernel) rfl
abbrev kX0_secondAt : Cond := Cond.code yX0_secondAt cX0_secondAt 4 (some .int)
set_option maxRecDepth 100000 in
theorem mK_X0_secondAt : kX0_secondAt ∈ tb := tb_t 208 rfl rfl
theorem mM_X4_55 : Cond.methodLink RX4 55 yX3_leaf ∈ tb := tb_t 209 (by decide +kernel) rfl
theorem mM_X4_59 : Cond.methodLink RX4 59 yX0_placeOf ∈ tb := tb_t 210 (by decide +kernel) rfl
theorem mI_X0_placeOf : Cond.instanceMethod yX0_placeOf ∈ tb := tb_t 211 (by decide +kernel) rfl
theorem mS_X0_placeOf : Cond.selects RX0 yX0_placeOf yX0_placeOf ∈ tb := tb_t 212 (by decide +kernel) rfl
abbrev kX0_placeOf : Cond := Cond.code yX0_placeOf cX0_placeOf 5 (some .int)
set_option maxRecDepth 100000 in
theorem mK_X0_placeOf : kX0_placeOf ∈ tb := tb_t 213 rfl rfl
theorem mM_X4_63 : Cond.methodLink RX4 63 yX0_hasKey ∈ tb := tb_t 214 (by decide +kernel) rfl
theorem mI_X0_hasKey : Cond.instanceMethod yX0_hasKey ∈ tb := tb_t 215 (by decide +kernel) rfl
theorem mS_X0_hasKey : Cond.selects RX0 yX0_hasKey yX0_hasKey ∈ tb := tb_t 216 (by decide +kernel) rfl
abbrev kX0_hasKey : Cond := Cond.code yX0_hasKey cX0_hasKey 4 (some .boolean)
set_option maxRecDepth 100000 in
theorem mK_X0_hasKey : kX0_hasKey ∈ tb := tb_t 217 rfl rfl
theorem mM_X4_80 : Cond.methodLink RX4 80 yX4_endCursor ∈ tb := tb_t 218 (by decide +kernel) rfl
theorem mI_X4_endCursor : Cond.instanceMethod yX4_endCursor ∈ tb := tb_t 220 (by decide +kernel) rfl
abbrev kX4_endCursor : Cond := Cond.code yX4_endCursor cX4_endCursor 1 none
set_option maxRecDepth 100000 in
theorem mK_X4_endCursor : kX4_endCursor ∈ tb := tb_t 221 rfl rfl
theorem mM_X4_83 : Cond.methodLink RX4 83 yX4_touchWay ∈ tb := tb_t 222 (by decide +kernel) rfl
theorem mI_X4_touchWay : Cond.instanceMethod yX4_touchWay ∈ tb := tb_t 224 (by decide +kernel) rfl
abbrev kX4_touchWay : Cond := Cond.code yX4_touchWay cX4_touchWay 2 none
set_option maxRecDepth 100000 in
theorem mK_X4_touchWay : kX4_touchWay ∈ tb := tb_t 225 rfl rfl
theorem mM_X4_214 : Cond.methodLink RX4 214 yX3_length ∈ tb := tb_t 226 (by decide +kernel) rfl
theorem mI_X3_length : Cond.instanceMethod yX3_length ∈ tb := tb_t 227 (by decide +kernel) rfl
theorem mS_X3_length : Cond.selects RX3 yX3_length yX3_length ∈ tb := tb_t 228 (by decide +kernel) rfl
abbrev kX3_length : Cond := Cond.code yX3_length cX3_length 1 (some .int)
set_option maxRecDepth 100000 in
theorem mK_X3_length : kX3_length ∈ tb := tb_t 229 rfl rfl
theorem mM_X4_217 : Cond.methodLink RX4 217 yX3_pageAt ∈ tb := tb_t 230 (by decide +kernel) rfl
theorem mM_X4_123 : Cond.methodLink RX4 123 yX1_touch ∈ tb := tb_t 231 (by decide +kernel) rfl
theorem mI_X1_touch : Cond.instanceMethod yX1_touch ∈ tb := tb_t 232 (by decide +kernel) rfl
theorem mS_X1_touch : Cond.selects RX1 yX1_touch yX1_touch ∈ tb := tb_t 233 (by decide +kernel) rfl
abbrev kX1_touch : Cond := Cond.code yX1_touch cX1_touch 4 none
set_option maxRecDepth 100000 in
theorem mK_X1_touch : kX1_touch ∈ tb := tb_t 234 rfl rfl
theorem mM_X1_48 : Cond.methodLink RX1 48 yX1_frameOf ∈ tb := tb_t 235 (by decide +kernel) rfl
theorem mI_X1_frameOf : Cond.instanceMethod yX1_frameOf ∈ tb := tb_t 236 (by decide +kernel) rfl
theorem mS_X1_frameOf : Cond.selects RX1 yX1_frameOf yX1_frameOf ∈ tb := tb_t 237 (by decide +kernel) rfl
abbrev kX1_frameOf : Cond := Cond.code yX1_frameOf cX1_frameOf 3 (some .int)
set_option maxRecDepth 100000 in
theorem mK_X1_frameOf : kX1_frameOf ∈ tb := tb_t 238 rfl rfl
theorem mM_X1_52 : Cond.methodLink RX1 52 yX1_vacateFrame ∈ tb := tb_t 239 (by decide +kernel) rfl
theorem mI_X1_vacateFrame : Cond.instanceMethod yX1_vacateFrame ∈ tb := tb_t 241 (by decide +kernel) rfl
abbrev kX1_vacateFrame : Cond := Cond.code yX1_vacateFrame cX1_vacateFrame 4 (some .int)
set_option maxRecDepth 100000 in
theorem mK_X1_vacateFrame : kX1_vacateFrame ∈ tb := tb_t 242 rfl rfl
theorem mM_X1_56 : Cond.methodLink RX1 56 yJ9_floorMod_7cf53 ∈ tb := tb_t 243 (by decide +kernel) rfl
theorem mT_J9_floorMod_7cf53 : Cond.static yJ9_floorMod_7cf53 ∈ tb := tb_t 244 (by decide +kernel) rfl
abbrev kJ9_floorMod_7cf53 : Cond := Cond.code yJ9_floorMod_7cf53 cJ9_floorMod_7cf53 3 (some .int)
set_option maxRecDepth 100000 in
theorem mK_J9_floorMod_7cf53 : kJ9_floorMod_7cf53 ∈ tb := tb_t 245 rfl rfl
theorem mM_X1_62 : Cond.methodLink RX1 62 yX1_givesWay ∈ tb := tb_t 246 (by decide +kernel) rfl
theorem mI_X1_givesWay : Cond.instanceMethod yX1_givesWay ∈ tb := tb_t 248 (by decide +kernel) rfl
abbrev kX1_givesWay : Cond := Cond.code yX1_givesWay cX1_givesWay 2 (some .boolean)
set_option maxRecDepth 100000 in
theorem mK_X1_givesWay : kX1_givesWay ∈ tb := tb_t 249 rfl rfl
theorem mM_X1_65 : Cond.methodLink RX1 65 yX1_clear ∈ tb := tb_t 250 (by decide +kernel) rfl
theorem mI_X1_clear : Cond.instanceMethod yX1_clear ∈ tb := tb_t 252 (by decide +kernel) rfl
abbrev kX1_clear : Cond := Cond.code yX1_clear cX1_clear 2 none
set_option maxRecDepth 100000 in
theorem mK_X1_clear : kX1_clear ∈ tb := tb_t 253 rfl rfl
theorem mM_X1_31 : Cond.methodLink RX1 31 yX1_isFrame ∈ tb := tb_t 254 (by decide +kernel) rfl
theorem mI_X1_isFrame : Cond.instanceMethod yX1_isFrame ∈ tb := tb_t 255 (by decide +kernel) rfl
theorem mS_X1_isFrame : Cond.selects RX1 yX1_isFrame yX1_isFrame ∈ tb := tb_t 256 (by decide +kernel) rfl
abbrev kX1_isFrame : Cond := Cond.code yX1_isFrame cX1_isFrame 2 (some .boolean)
set_option maxRecDepth 100000 in
theorem mK_X1_isFrame : kX1_isFrame ∈ tb := tb_t 257 rfl rfl
theorem mM_X4_111 : Cond.methodLink RX4 111 yX0_delete ∈ tb := tb_t 258 (by decide +kernel) rfl
theorem mI_X0_delete : Cond.instanceMethod yX0_delete ∈ tb := tb_t 259 (by decide +kernel) rfl
theorem mS_X0_delete : Cond.selects RX0 yX0_delete yX0_delete ∈ tb := tb_t 260 (by decide +kernel) rfl
abbrev kX0_delete : Cond := Cond.code yX0_delete cX0_delete 5 none
set_option maxRecDepth 100000 in
theorem mK_X0_delete : kX0_delete ∈ tb := tb_t 261 rfl rfl
theorem mM_X0_48 : Cond.methodLink RX0 48 yX0_secondAt ∈ tb := tb_t 262 (by decide +kernel) rfl
theorem mM_X0_51 : Cond.methodLink RX0 51 yX0_setItem ∈ tb := tb_t 263 (by decide +kernel) rfl
theorem mI_X0_setItem : Cond.instanceMethod yX0_setItem ∈ tb := tb_t 264 (by decide +kernel) rfl
theorem mS_X0_setItem : Cond.selects RX0 yX0_setItem yX0_setItem ∈ tb := tb_t 265 (by decide +kernel) rfl
abbrev kX0_setItem : Cond := Cond.code yX0_setItem cX0_setItem 6 none
set_option maxRecDepth 100000 in
theorem mK_X0_setItem : kX0_setItem ∈ tb := tb_t 266 rfl rfl
theorem mM_X4_86 : Cond.methodLink RX4 86 yX1_soil ∈ tb := tb_t 267 (by decide +kernel) rfl
theorem mI_X1_soil : Cond.instanceMethod yX1_soil ∈ tb := tb_t 268 (by decide +kernel) rfl
theorem mS_X1_soil : Cond.selects RX1 yX1_soil yX1_soil ∈ tb := tb_t 269 (by decide +kernel) rfl
abbrev kX1_soil : Cond := Cond.code yX1_soil cX1_soil 3 none
set_option maxRecDepth 100000 in
theorem mK_X1_soil : kX1_soil ∈ tb := tb_t 270 rfl rfl
theorem mM_X4_114 : Cond.methodLink RX4 114 yX4_mendUpwards ∈ tb := tb_t 271 (by decide +kernel) rfl
theorem mI_X4_mendUpwards : Cond.instanceMethod yX4_mendUpwards ∈ tb := tb_t 273 (by decide +kernel) rfl
abbrev kX4_mendUpwards : Cond := Cond.code yX4_mendUpwards cX4_mendUpwards 2 none
set_option maxRecDepth 100000 in
theorem mK_X4_mendUpwards : kX4_mendUpwards ∈ tb := tb_t 274 rfl rfl
theorem mM_X4_163 : Cond.methodLink RX4 163 yX0_countOf ∈ tb := tb_t 275 (by decide +kernel) rfl
theorem mM_X4_248 : Cond.methodLink RX4 248 yX4_mend ∈ tb := tb_t 276 (by decide +kernel) rfl
theorem mI_X4_mend : Cond.instanceMethod yX4_mend ∈ tb := tb_t 278 (by decide +kernel) rfl
abbrev kX4_mend : Cond := Cond.code yX4_mend cX4_mend 7 none
set_option maxRecDepth 100000 in
theorem mK_X4_mend : kX4_mend ∈ tb := tb_t 279 rfl rfl
theorem mM_X4_239 : Cond.methodLink RX4 239 yX3_slotAt ∈ tb := tb_t 280 (by decide +kernel) rfl
theorem mI_X3_slotAt : Cond.instanceMethod yX3_slotAt ∈ tb := tb_t 281 (by decide +kernel) rfl
theorem mS_X3_slotAt : Cond.selects RX3 yX3_slotAt yX3_slotAt ∈ tb := tb_t 282 (by decide +kernel) rfl
abbrev kX3_slotAt : Cond := Cond.code yX3_slotAt cX3_slotAt 2 (some .int)
set_option maxRecDepth 100000 in
theorem mK_X3_slotAt : kX3_slotAt ∈ tb := tb_t 283 rfl rfl
theorem mM_X4_108 : Cond.methodLink RX4 108 yX0_secondAt ∈ tb := tb_t 284 (by decide +kernel) rfl
theorem mM_X4_257 : Cond.methodLink RX4 257 yX4_giveFromLeft ∈ tb := tb_t 285 (by decide +kernel) rfl
theorem mI_X4_giveFromLeft : Cond.instanceMethod yX4_giveFromLeft ∈ tb := tb_t 287 (by decide +kernel) rfl
abbrev kX4_giveFromLeft : Cond := Cond.code yX4_giveFromLeft cX4_giveFromLeft 8 none
set_option maxRecDepth 100000 in
theorem mK_X4_giveFromLeft : kX4_giveFromLeft ∈ tb := tb_t 288 rfl rfl
theorem mM_X4_176 : Cond.methodLink RX4 176 yX0_keyAt ∈ tb := tb_t 289 (by decide +kernel) rfl
theorem mM_X4_159 : Cond.methodLink RX4 159 yX0_kindOf ∈ tb := tb_t 290 (by decide +kernel) rfl
theorem mM_X4_94 : Cond.methodLink RX4 94 yX0_insert ∈ tb := tb_t 291 (by decide +kernel) rfl
theorem mI_X0_insert : Cond.instanceMethod yX0_insert ∈ tb := tb_t 292 (by decide +kernel) rfl
theorem mS_X0_insert : Cond.selects RX0 yX0_insert yX0_insert ∈ tb := tb_t 293 (by decide +kernel) rfl
abbrev kX0_insert : Cond := Cond.code yX0_insert cX0_insert 7 none
set_option maxRecDepth 100000 in
theorem mK_X0_insert : kX0_insert ∈ tb := tb_t 294 rfl rfl
theorem mM_X4_233 : Cond.methodLink RX4 233 yX0_setKey ∈ tb := tb_t 295 (by decide +kernel) rfl
theorem mI_X0_setKey : Cond.instanceMethod yX0_setKey ∈ tb := tb_t 296 (by decide +kernel) rfl
theorem mS_X0_setKey : Cond.selects RX0 yX0_setKey yX0_setKey ∈ tb := tb_t 297 (by decide +kernel) rfl
abbrev kX0_setKey : Cond := Cond.code yX0_setKey cX0_setKey 5 none
set_option maxRecDepth 100000 in
theorem mK_X0_setKey : kX0_setKey ∈ tb := tb_t 298 rfl rfl
theorem mM_X4_242 : Cond.methodLink RX4 242 yX4_soilThree ∈ tb := tb_t 299 (by decide +kernel) rfl
theorem mI_X4_soilThree : Cond.instanceMethod yX4_soilThree ∈ tb := tb_t 301 (by decide +kernel) rfl
abbrev kX4_soilThree : Cond := Cond.code yX4_soilThree cX4_soilThree 4 none
set_option maxRecDepth 100000 in
theorem mK_X4_soilThree : kX4_soilThree ∈ tb := tb_t 302 rfl rfl
theorem mM_X4_260 : Cond.methodLink RX4 260 yX4_giveFromRight ∈ tb := tb_t 303 (by decide +kernel) rfl
theorem mI_X4_giveFromRight : Cond.instanceMethod yX4_giveFromRight ∈ tb := tb_t 305 (by decide +kernel) rfl
abbrev kX4_giveFromRight : Cond := Cond.code yX4_giveFromRight cX4_giveFromRight 8 none
set_option maxRecDepth 100000 in
theorem mK_X4_giveFromRight : kX4_giveFromRight ∈ tb := tb_t 306 rfl rfl
theorem mM_X4_263 : Cond.methodLink RX4 263 yX4_join ∈ tb := tb_t 307 (by decide +kernel) rfl
theorem mI_X4_join : Cond.instanceMethod yX4_join ∈ tb := tb_t 309 (by decide +kernel) rfl
abbrev kX4_join : Cond := Cond.code yX4_join cX4_join 5 none
set_option maxRecDepth 100000 in
theorem mK_X4_join : kX4_join ∈ tb := tb_t 310 rfl rfl
theorem mM_X4_166 : Cond.methodLink RX4 166 yX0_leafAfter ∈ tb := tb_t 311 (by decide +kernel) rfl
theorem mI_X0_leafAfter : Cond.instanceMethod yX0_leafAfter ∈ tb := tb_t 312 (by decide +kernel) rfl
theorem mS_X0_leafAfter : Cond.selects RX0 yX0_leafAfter yX0_leafAfter ∈ tb := tb_t 313 (by decide +kernel) rfl
abbrev kX0_leafAfter : Cond := Cond.code yX0_leafAfter cX0_leafAfter 2 (some .int)
set_option maxRecDepth 100000 in
theorem mK_X0_leafAfter : kX0_leafAfter ∈ tb := tb_t 314 rfl rfl
theorem mM_X4_230 : Cond.methodLink RX4 230 yX0_setLeafAfter ∈ tb := tb_t 315 (by decide +kernel) rfl
theorem mI_X0_setLeafAfter : Cond.instanceMethod yX0_setLeafAfter ∈ tb := tb_t 316 (by decide +kernel) rfl
theorem mS_X0_setLeafAfter : Cond.selects RX0 yX0_setLeafAfter yX0_setLeafAfter ∈ tb := tb_t 317 (by decide +kernel) rfl
abbrev kX0_setLeafAfter : Cond := Cond.code yX0_setLeafAfter cX0_setLeafAfter 3 none
set_option maxRecDepth 100000 in
theorem mK_X0_setLeafAfter : kX0_setLeafAfter ∈ tb := tb_t 318 rfl rfl
theorem mM_X4_226 : Cond.methodLink RX4 226 yX0_moveItems ∈ tb := tb_t 319 (by decide +kernel) rfl
theorem mI_X0_moveItems : Cond.instanceMethod yX0_moveItems ∈ tb := tb_t 320 (by decide +kernel) rfl
theorem mS_X0_moveItems : Cond.selects RX0 yX0_moveItems yX0_moveItems ∈ tb := tb_t 321 (by decide +kernel) rfl
abbrev kX0_moveItems : Cond := Cond.code yX0_moveItems cX0_moveItems 7 none
set_option maxRecDepth 100000 in
theorem mK_X0_moveItems : kX0_moveItems ∈ tb := tb_t 322 rfl rfl
theorem mM_X4_254 : Cond.methodLink RX4 254 yX4_releasePage ∈ tb := tb_t 323 (by decide +kernel) rfl
theorem mI_X4_releasePage : Cond.instanceMethod yX4_releasePage ∈ tb := tb_t 325 (by decide +kernel) rfl
abbrev kX4_releasePage : Cond := Cond.code yX4_releasePage cX4_releasePage 2 none
set_option maxRecDepth 100000 in
theorem mK_X4_releasePage : kX4_releasePage ∈ tb := tb_t 326 rfl rfl
theorem mM_X4_266 : Cond.methodLink RX4 266 yX1_clearPage ∈ tb := tb_t 327 (by decide +kernel) rfl
theorem mI_X1_clearPage : Cond.instanceMethod yX1_clearPage ∈ tb := tb_t 328 (by decide +kernel) rfl
theorem mS_X1_clearPage : Cond.selects RX1 yX1_clearPage yX1_clearPage ∈ tb := tb_t 329 (by decide +kernel) rfl
abbrev kX1_clearPage : Cond := Cond.code yX1_clearPage cX1_clearPage 2 none
set_option maxRecDepth 100000 in
theorem mK_X1_clearPage : kX1_clearPage ∈ tb := tb_t 330 rfl rfl
theorem mM_X4_251 : Cond.methodLink RX4 251 yX4_lowerRoot ∈ tb := tb_t 331 (by decide +kernel) rfl
theorem mI_X4_lowerRoot : Cond.instanceMethod yX4_lowerRoot ∈ tb := tb_t 333 (by decide +kernel) rfl
abbrev kX4_lowerRoot : Cond := Cond.code yX4_lowerRoot cX4_lowerRoot 2 none
set_option maxRecDepth 100000 in
theorem mK_X4_lowerRoot : kX4_lowerRoot ∈ tb := tb_t 334 rfl rfl
theorem mM_X4_100 : Cond.methodLink RX4 100 yX1_unpinAll ∈ tb := tb_t 335 (by decide +kernel) rfl
theorem mI_X1_unpinAll : Cond.instanceMethod yX1_unpinAll ∈ tb := tb_t 336 (by decide +kernel) rfl
theorem mS_X1_unpinAll : Cond.selects RX1 yX1_unpinAll yX1_unpinAll ∈ tb := tb_t 337 (by decide +kernel) rfl
abbrev kX1_unpinAll : Cond := Cond.code yX1_unpinAll cX1_unpinAll 2 none
set_option maxRecDepth 100000 in
theorem mK_X1_unpinAll : kX1_unpinAll ∈ tb := tb_t 338 rfl rfl
theorem mM_L_72 : Cond.methodLink RL 72 yX4_seek ∈ tb := tb_t 339 (by decide +kernel) rfl
theorem mI_X4_seek : Cond.instanceMethod yX4_seek ∈ tb := tb_t 340 (by decide +kernel) rfl
theorem mS_X4_seek : Cond.selects RX4 yX4_seek yX4_seek ∈ tb := tb_t 341 (by decide +kernel) rfl
abbrev kX4_seek : Cond := Cond.code yX4_seek cX4_seek 3 (some .boolean)
set_option maxRecDepth 100000 in
theorem mK_X4_seek : kX4_seek ∈ tb := tb_t 342 rfl rfl
theorem mM_X4_117 : Cond.methodLink RX4 117 yX4_moveCursor ∈ tb := tb_t 343 (by decide +kernel) rfl
theorem mI_X4_moveCursor : Cond.instanceMethod yX4_moveCursor ∈ tb := tb_t 345 (by decide +kernel) rfl
abbrev kX4_moveCursor : Cond := Cond.code yX4_moveCursor cX4_moveCursor 5 (some .boolean)
set_option maxRecDepth 100000 in
theorem mK_X4_moveCursor : kX4_moveCursor ∈ tb := tb_t 346 rfl rfl
theorem mM_L_84 : Cond.methodLink RL 84 yX4_flush ∈ tb := tb_t 347 (by decide +kernel) rfl
theorem mI_X4_flush : Cond.instanceMethod yX4_flush ∈ tb := tb_t 348 (by decide +kernel) rfl
theorem mS_X4_flush : Cond.selects RX4 yX4_flush yX4_flush ∈ tb := tb_t 349 (by decide +kernel) rfl
abbrev kX4_flush : Cond := Cond.code yX4_flush cX4_flush 1 (some .int)
set_option maxRecDepth 100000 in
theorem mK_X4_flush : kX4_flush ∈ tb := tb_t 350 rfl rfl
theorem mM_X4_136 : Cond.methodLink RX4 136 yX1_writeDirty ∈ tb := tb_t 351 (by decide +kernel) rfl
theorem mI_X1_writeDirty : Cond.instanceMethod yX1_writeDirty ∈ tb := tb_t 352 (by decide +kernel) rfl
theorem mS_X1_writeDirty : Cond.selects RX1 yX1_writeDirty yX1_writeDirty ∈ tb := tb_t 353 (by decide +kernel) rfl
abbrev kX1_writeDirty : Cond := Cond.code yX1_writeDirty cX1_writeDirty 3 (some .int)
set_option maxRecDepth 100000 in
theorem mK_X1_writeDirty : kX1_writeDirty ∈ tb := tb_t 354 rfl rfl
theorem mM_X1_69 : Cond.methodLink RX1 69 yX1_countDirty ∈ tb := tb_t 355 (by decide +kernel) rfl
theorem mI_X1_countDirty : Cond.instanceMethod yX1_countDirty ∈ tb := tb_t 356 (by decide +kernel) rfl
theorem mS_X1_countDirty : Cond.selects RX1 yX1_countDirty yX1_countDirty ∈ tb := tb_t 357 (by decide +kernel) rfl
abbrev kX1_countDirty : Cond := Cond.code yX1_countDirty cX1_countDirty 3 (some .int)
set_option maxRecDepth 100000 in
theorem mK_X1_countDirty : kX1_countDirty ∈ tb := tb_t 358 rfl rfl
theorem mM_L_101 : Cond.methodLink RL 101 yX4_told ∈ tb := tb_t 359 (by decide +kernel) rfl
theorem mI_X4_told : Cond.instanceMethod yX4_told ∈ tb := tb_t 360 (by decide +kernel) rfl
theorem mS_X4_told : Cond.selects RX4 yX4_told yX4_told ∈ tb := tb_t 361 (by decide +kernel) rfl
abbrev kX4_told : Cond := Cond.code yX4_told cX4_told 2 (some .int)
set_option maxRecDepth 100000 in
theorem mK_X4_told : kX4_told ∈ tb := tb_t 362 rfl rfl
theorem mM_X4_195 : Cond.methodLink RX4 195 yX0_countLevels ∈ tb := tb_t 363 (by decide +kernel) rfl
theorem mI_X0_countLevels : Cond.instanceMethod yX0_countLevels ∈ tb := tb_t 364 (by decide +kernel) rfl
theorem mS_X0_countLevels : Cond.selects RX0 yX0_countLevels yX0_countLevels ∈ tb := tb_t 365 (by decide +kernel) rfl
abbrev kX0_countLevels : Cond := Cond.code yX0_countLevels cX0_countLevels 4 (some .int)
set_option maxRecDepth 100000 in
theorem mK_X0_countLevels : kX0_countLevels ∈ tb := tb_t 366 rfl rfl
theorem mM_X0_55 : Cond.methodLink RX0 55 yX0_kindOf ∈ tb := tb_t 367 (by decide +kernel) rfl
theorem mM_X4_70 : Cond.methodLink RX4 70 yX0_countFree ∈ tb := tb_t 368 (by decide +kernel) rfl
theorem mI_X0_countFree : Cond.instanceMethod yX0_countFree ∈ tb := tb_t 369 (by decide +kernel) rfl
theorem mS_X0_countFree : Cond.selects RX0 yX0_countFree yX0_countFree ∈ tb := tb_t 370 (by decide +kernel) rfl
abbrev kX0_countFree : Cond := Cond.code yX0_countFree cX0_countFree 3 (some .int)
set_option maxRecDepth 100000 in
theorem mK_X0_countFree : kX0_countFree ∈ tb := tb_t 371 rfl rfl
theorem mM_X4_198 : Cond.methodLink RX4 198 yX1_hits ∈ tb := tb_t 372 (by decide +kernel) rfl
theorem mI_X1_hits : Cond.instanceMethod yX1_hits ∈ tb := tb_t 373 (by decide +kernel) rfl
theorem mS_X1_hits : Cond.selects RX1 yX1_hits yX1_hits ∈ tb := tb_t 374 (by decide +kernel) rfl
abbrev kX1_hits : Cond := Cond.code yX1_hits cX1_hits 1 (some .int)
set_option maxRecDepth 100000 in
theorem mK_X1_hits : kX1_hits ∈ tb := tb_t 375 rfl rfl
theorem mM_X4_201 : Cond.methodLink RX4 201 yX1_pagesRead ∈ tb := tb_t 376 (by decide +kernel) rfl
theorem mI_X1_pagesRead : Cond.instanceMethod yX1_pagesRead ∈ tb := tb_t 377 (by decide +kernel) rfl
theorem mS_X1_pagesRead : Cond.selects RX1 yX1_pagesRead yX1_pagesRead ∈ tb := tb_t 378 (by decide +kernel) rfl
abbrev kX1_pagesRead : Cond := Cond.code yX1_pagesRead cX1_pagesRead 1 (some .int)
set_option maxRecDepth 100000 in
theorem mK_X1_pagesRead : kX1_pagesRead ∈ tb := tb_t 379 rfl rfl
theorem mM_X4_204 : Cond.methodLink RX4 204 yX1_pagesWritten ∈ tb := tb_t 380 (by decide +kernel) rfl
theorem mI_X1_pagesWritten : Cond.instanceMethod yX1_pagesWritten ∈ tb := tb_t 381 (by decide +kernel) rfl
theorem mS_X1_pagesWritten : Cond.selects RX1 yX1_pagesWritten yX1_pagesWritten ∈ tb := tb_t 382 (by decide +kernel) rfl
abbrev kX1_pagesWritten : Cond := Cond.code yX1_pagesWritten cX1_pagesWritten 1 (some .int)
set_option maxRecDepth 100000 in
theorem mK_X1_pagesWritten : kX1_pagesWritten ∈ tb := tb_t 383 rfl rfl
theorem mM_X4_207 : Cond.methodLink RX4 207 yX1_handPlace ∈ tb := tb_t 384 (by decide +kernel) rfl
theorem mI_X1_handPlace : Cond.instanceMethod yX1_handPlace ∈ tb := tb_t 385 (by decide +kernel) rfl
theorem mS_X1_handPlace : Cond.selects RX1 yX1_handPlace yX1_handPlace ∈ tb := tb_t 386 (by decide +kernel) rfl
abbrev kX1_handPlace : Cond := Cond.code yX1_handPlace cX1_handPlace 1 (some .int)
set_option maxRecDepth 100000 in
theorem mK_X1_handPlace : kX1_handPlace ∈ tb := tb_t 387 rfl rfl
theorem mM_L_105 : Cond.methodLink RL 105 yX4_astray ∈ tb := tb_t 388 (by decide +kernel) rfl
theorem mI_X4_astray : Cond.instanceMethod yX4_astray ∈ tb := tb_t 389 (by decide +kernel) rfl
theorem mS_X4_astray : Cond.selects RX4 yX4_astray yX4_astray ∈ tb := tb_t 390 (by decide +kernel) rfl
abbrev kX4_astray : Cond := Cond.code yX4_astray cX4_astray 1 (some .int)
set_option maxRecDepth 100000 in
theorem mK_X4_astray : kX4_astray ∈ tb := tb_t 391 rfl rfl
theorem mM_X4_210 : Cond.methodLink RX4 210 yX2_countAstray ∈ tb := tb_t 392 (by decide +kernel) rfl
theorem mI_X2_countAstray : Cond.instanceMethod yX2_countAstray ∈ tb := tb_t 393 (by decide +kernel) rfl
theorem mS_X2_countAstray : Cond.selects RX2 yX2_countAstray yX2_countAstray ∈ tb := tb_t 394 (by decide +kernel) rfl
abbrev kX2_countAstray : Cond := Cond.code yX2_countAstray cX2_countAstray 6 (some .int)
set_option maxRecDepth 100000 in
theorem mK_X2_countAstray : kX2_countAstray ∈ tb := tb_t 395 rfl rfl
theorem mM_X2_28 : Cond.methodLink RX2 28 yJ7_fill_53178 ∈ tb := tb_t 396 (by decide +kernel) rfl
theorem mL_X2_38 : Cond.constantLong RX2 38 (-2147483648) ∈ tb := tb_t 397 (by decide +kernel) rfl
theorem mL_X2_40 : Cond.constantLong RX2 40 (2147483648) ∈ tb := tb_t 398 (by decide +kernel) rfl
theorem mM_X2_42 : Cond.methodLink RX2 42 yX2_meet ∈ tb := tb_t 399 (by decide +kernel) rfl
theorem mI_X2_meet : Cond.instanceMethod yX2_meet ∈ tb := tb_t 401 (by decide +kernel) rfl
abbrev kX2_meet : Cond := Cond.code yX2_meet cX2_meet 7 none
set_option maxRecDepth 100000 in
theorem mK_X2_meet : kX2_meet ∈ tb := tb_t 402 rfl rfl
theorem mM_X2_46 : Cond.methodLink RX2 46 yX2_meetChildren ∈ tb := tb_t 403 (by decide +kernel) rfl
theorem mI_X2_meetChildren : Cond.instanceMethod yX2_meetChildren ∈ tb := tb_t 405 (by decide +kernel) rfl
abbrev kX2_meetChildren : Cond := Cond.code yX2_meetChildren cX2_meetChildren 9 none
set_option maxRecDepth 100000 in
theorem mK_X2_meetChildren : kX2_meetChildren ∈ tb := tb_t 406 rfl rfl
theorem mM_X2_54 : Cond.methodLink RX2 54 yX0_kindOf ∈ tb := tb_t 407 (by decide +kernel) rfl
theorem mM_X2_60 : Cond.methodLink RX2 60 yX0_countOf ∈ tb := tb_t 408 (by decide +kernel) rfl
theorem mM_X2_63 : Cond.methodLink RX2 63 yX0_keyAt ∈ tb := tb_t 409 (by decide +kernel) rfl
theorem mM_X2_67 : Cond.methodLink RX2 67 yX0_secondAt ∈ tb := tb_t 410 (by decide +kernel) rfl
theorem mM_X2_50 : Cond.methodLink RX2 50 yX2_isAstray ∈ tb := tb_t 411 (by decide +kernel) rfl
theorem mI_X2_isAstray : Cond.instanceMethod yX2_isAstray ∈ tb := tb_t 413 (by decide +kernel) rfl
abbrev kX2_isAstray : Cond := Cond.code yX2_isAstray cX2_isAstray 6 (some .boolean)
set_option maxRecDepth 100000 in
theorem mK_X2_isAstray : kX2_isAstray ∈ tb := tb_t 414 rfl rfl
theorem mM_X2_70 : Cond.methodLink RX2 70 yX1_countHolding ∈ tb := tb_t 415 (by decide +kernel) rfl
theorem mI_X1_countHolding : Cond.instanceMethod yX1_countHolding ∈ tb := tb_t 416 (by decide +kernel) rfl
theorem mS_X1_countHolding : Cond.selects RX1 yX1_countHolding yX1_countHolding ∈ tb := tb_t 417 (by decide +kernel) rfl
abbrev kX1_countHolding : Cond := Cond.code yX1_countHolding cX1_countHolding 4 (some .int)
set_option maxRecDepth 100000 in
theorem mK_X1_countHolding : kX1_countHolding ∈ tb := tb_t 418 rfl rfl
theorem mM_X2_75 : Cond.methodLink RX2 75 yX0_countLevels ∈ tb := tb_t 419 (by decide +kernel) rfl
theorem mM_X2_78 : Cond.methodLink RX2 78 yX0_leafAfter ∈ tb := tb_t 420 (by decide +kernel) rfl
theorem mM_X2_81 : Cond.methodLink RX2 81 yX2_leafDueAfter ∈ tb := tb_t 421 (by decide +kernel) rfl
theorem mI_X2_leafDueAfter : Cond.instanceMethod yX2_leafDueAfter ∈ tb := tb_t 423 (by decide +kernel) rfl
abbrev kX2_leafDueAfter : Cond := Cond.code yX2_leafDueAfter cX2_leafDueAfter 4 (some .int)
set_option maxRecDepth 100000 in
theorem mK_X2_leafDueAfter : kX2_leafDueAfter ∈ tb := tb_t 424 rfl rfl
theorem mM_X2_85 : Cond.methodLink RX2 85 yX2_countIsRight ∈ tb := tb_t 425 (by decide +kernel) rfl
theorem mI_X2_countIsRight : Cond.instanceMethod yX2_countIsRight ∈ tb := tb_t 427 (by decide +kernel) rfl
abbrev kX2_countIsRight : Cond := Cond.code yX2_countIsRight cX2_countIsRight 6 (some .boolean)
set_option maxRecDepth 100000 in
theorem mK_X2_countIsRight : kX2_countIsRight ∈ tb := tb_t 428 rfl rfl
theorem mM_X2_89 : Cond.methodLink RX2 89 yX2_childrenArePages ∈ tb := tb_t 429 (by decide +kernel) rfl
theorem mI_X2_childrenArePages : Cond.instanceMethod yX2_childrenArePages ∈ tb := tb_t 431 (by decide +kernel) rfl
abbrev kX2_childrenArePages : Cond := Cond.code yX2_childrenArePages cX2_childrenArePages 4 (some .boolean)
set_option maxRecDepth 100000 in
theorem mK_X2_childrenArePages : kX2_childrenArePages ∈ tb := tb_t 432 rfl rfl
theorem mM_X2_93 : Cond.methodLink RX2 93 yX2_keysAreInPlace ∈ tb := tb_t 433 (by decide +kernel) rfl
theorem mI_X2_keysAreInPlace : Cond.instanceMethod yX2_keysAreInPlace ∈ tb := tb_t 435 (by decide +kernel) rfl
abbrev kX2_keysAreInPlace : Cond := Cond.code yX2_keysAreInPlace cX2_keysAreInPlace 9 (some .boolean)
set_option maxRecDepth 100000 in
theorem mK_X2_keysAreInPlace : kX2_keysAreInPlace ∈ tb := tb_t 436 rfl rfl
theorem mM_L_54 : Cond.methodLink RL 54 yL_put ∈ tb := tb_t 437 (by decide +kernel) rfl
theorem mT_L_put : Cond.static yL_put ∈ tb := tb_t 438 (by decide +kernel) rfl
theorem mC_L_13 : Cond.classLink RL 13 "java/lang/UnsupportedOperationException" ∈ tb := tb_t 440 (by decide +kernel) rfl
theorem mM_L_7 : Cond.methodLink RL 7 yX4_put ∈ tb := tb_t 441 (by decide +kernel) rfl
theorem mI_X4_put : Cond.instanceMethod yX4_put ∈ tb := tb_t 442 (by decide +kernel) rfl
theorem mS_X4_put : Cond.selects RX4 yX4_put yX4_put ∈ tb := tb_t 443 (by decide +kernel) rfl
abbrev kX4_put : Cond := Cond.code yX4_put cX4_put 6 (some .boolean)
set_option maxRecDepth 100000 in
theorem mK_X4_put : kX4_put ∈ tb := tb_t 444 rfl rfl
theorem mM_X4_67 : Cond.methodLink RX4 67 yX4_newPagesForEntry ∈ tb := tb_t 445 (by decide +kernel) rfl
theorem mI_X4_newPagesForEntry : Cond.instanceMethod yX4_newPagesForEntry ∈ tb := tb_t 447 (by decide +kernel) rfl
abbrev kX4_newPagesForEntry : Cond := Cond.code yX4_newPagesForEntry cX4_newPagesForEntry 3 (some .int)
set_option maxRecDepth 100000 in
theorem mK_X4_newPagesForEntry : kX4_newPagesForEntry ∈ tb := tb_t 448 rfl rfl
theorem mC_X4_73 : Cond.classLink RX4 73 "java/lang/UnsupportedOperationException" ∈ tb := tb_t 449 (by decide +kernel) rfl
theorem mM_X4_90 : Cond.methodLink RX4 90 yX0_setItem ∈ tb := tb_t 519 (by decide +kernel) rfl
theorem mM_X4_97 : Cond.methodLink RX4 97 yX4_splitUpwards ∈ tb := tb_t 520 (by decide +kernel) rfl
theorem mI_X4_splitUpwards : Cond.instanceMethod yX4_splitUpwards ∈ tb := tb_t 522 (by decide +kernel) rfl
abbrev kX4_splitUpwards : Cond := Cond.code yX4_splitUpwards cX4_splitUpwards 2 none
set_option maxRecDepth 100000 in
theorem mK_X4_splitUpwards : kX4_splitUpwards ∈ tb := tb_t 523 rfl rfl
theorem mM_X4_220 : Cond.methodLink RX4 220 yX4_split ∈ tb := tb_t 524 (by decide +kernel) rfl
theorem mI_X4_split : Cond.instanceMethod yX4_split ∈ tb := tb_t 526 (by decide +kernel) rfl
abbrev kX4_split : Cond := Cond.code yX4_split cX4_split 6 none
set_option maxRecDepth 100000 in
theorem mK_X4_split : kX4_split ∈ tb := tb_t 527 rfl rfl
theorem mM_X4_223 : Cond.methodLink RX4 223 yX4_takePage ∈ tb := tb_t 528 (by decide +kernel) rfl
theorem mI_X4_takePage : Cond.instanceMethod yX4_takePage ∈ tb := tb_t 530 (by decide +kernel) rfl
abbrev kX4_takePage : Cond := Cond.code yX4_takePage cX4_takePage 3 (some .int)
set_option maxRecDepth 100000 in
theorem mK_X4_takePage : kX4_takePage ∈ tb := tb_t 531 rfl rfl
theorem mM_X4_245 : Cond.methodLink RX4 245 yX0_leastFree ∈ tb := tb_t 532 (by decide +kernel) rfl
theorem mI_X0_leastFree : Cond.instanceMethod yX0_leastFree ∈ tb := tb_t 533 (by decide +kernel) rfl
theorem mS_X0_leastFree : Cond.selects RX0 yX0_leastFree yX0_leastFree ∈ tb := tb_t 534 (by decide +kernel) rfl
abbrev kX0_leastFree : Cond := Cond.code yX0_leastFree cX0_leastFree 2 (some .int)
set_option maxRecDepth 100000 in
theorem mK_X0_leastFree : kX0_leastFree ∈ tb := tb_t 535 rfl rfl
theorem mM_X4_236 : Cond.methodLink RX4 236 yX4_raiseRoot ∈ tb := tb_t 536 (by decide +kernel) rfl
theorem mI_X4_raiseRoot : Cond.instanceMethod yX4_raiseRoot ∈ tb := tb_t 538 (by decide +kernel) rfl
abbrev kX4_raiseRoot : Cond := Cond.code yX4_raiseRoot cX4_raiseRoot 2 none
set_option maxRecDepth 100000 in
theorem mK_X4_raiseRoot : kX4_raiseRoot ∈ tb := tb_t 539 rfl rfl
theorem mM_L_63 : Cond.methodLink RL 63 yL_get ∈ tb := tb_t 540 (by decide +kernel) rfl
theorem mT_L_get : Cond.static yL_get ∈ tb := tb_t 541 (by decide +kernel) rfl
theorem mC_L_19 : Cond.classLink RL 19 "java/util/NoSuchElementException" ∈ tb := tb_t 543 (by decide +kernel) rfl
theorem mM_L_15 : Cond.methodLink RL 15 yX4_get ∈ tb := tb_t 544 (by decide +kernel) rfl
theorem mI_X4_get : Cond.instanceMethod yX4_get ∈ tb := tb_t 545 (by decide +kernel) rfl
theorem mS_X4_get : Cond.selects RX4 yX4_get yX4_get ∈ tb := tb_t 546 (by decide +kernel) rfl
abbrev kX4_get : Cond := Cond.code yX4_get cX4_get 4 (some .int)
set_option maxRecDepth 100000 in
theorem mK_X4_get : kX4_get ∈ tb := tb_t 547 rfl rfl
theorem mC_X4_103 : Cond.classLink RX4 103 "java/util/NoSuchElementException" ∈ tb := tb_t 548 (by decide +kernel) rfl
theorem mM_L_76 : Cond.methodLink RL 76 yL_next ∈ tb := tb_t 564 (by decide +kernel) rfl
theorem mT_L_next : Cond.static yL_next ∈ tb := tb_t 565 (by decide +kernel) rfl
theorem mM_L_21 : Cond.methodLink RL 21 yX4_next ∈ tb := tb_t 567 (by decide +kernel) rfl
theorem mI_X4_next : Cond.instanceMethod yX4_next ∈ tb := tb_t 568 (by decide +kernel) rfl
theorem mS_X4_next : Cond.selects RX4 yX4_next yX4_next ∈ tb := tb_t 569 (by decide +kernel) rfl
abbrev kX4_next : Cond := Cond.code yX4_next cX4_next 2 (some .boolean)
set_option maxRecDepth 100000 in
theorem mK_X4_next : kX4_next ∈ tb := tb_t 570 rfl rfl
theorem mM_L_80 : Cond.methodLink RL 80 yL_cursor ∈ tb := tb_t 572 (by decide +kernel) rfl
theorem mT_L_cursor : Cond.static yL_cursor ∈ tb := tb_t 573 (by decide +kernel) rfl
theorem mM_L_25 : Cond.methodLink RL 25 yX4_cursor ∈ tb := tb_t 575 (by decide +kernel) rfl
theorem mI_X4_cursor : Cond.instanceMethod yX4_cursor ∈ tb := tb_t 576 (by decide +kernel) rfl
theorem mS_X4_cursor : Cond.selects RX4 yX4_cursor yX4_cursor ∈ tb := tb_t 577 (by decide +kernel) rfl
abbrev kX4_cursor : Cond := Cond.code yX4_cursor cX4_cursor 2 (some .int)
set_option maxRecDepth 100000 in
theorem mK_X4_cursor : kX4_cursor ∈ tb := tb_t 578 rfl rfl
theorem mM_L_88 : Cond.methodLink RL 88 yL_drop ∈ tb := tb_t 579 (by decide +kernel) rfl
theorem mT_L_drop : Cond.static yL_drop ∈ tb := tb_t 580 (by decide +kernel) rfl
theorem mC_L_33 : Cond.classLink RL 33 "java/lang/IllegalStateException" ∈ tb := tb_t 582 (by decide +kernel) rfl
theorem mM_L_29 : Cond.methodLink RL 29 yX4_drop ∈ tb := tb_t 583 (by decide +kernel) rfl
theorem mI_X4_drop : Cond.instanceMethod yX4_drop ∈ tb := tb_t 584 (by decide +kernel) rfl
theorem mS_X4_drop : Cond.selects RX4 yX4_drop yX4_drop ∈ tb := tb_t 585 (by decide +kernel) rfl
abbrev kX4_drop : Cond := Cond.code yX4_drop cX4_drop 1 (some .int)
set_option maxRecDepth 100000 in
theorem mK_X4_drop : kX4_drop ∈ tb := tb_t 586 rfl rfl
theorem mM_X4_139 : Cond.methodLink RX4 139 yX1_countDirty ∈ tb := tb_t 587 (by decide +kernel) rfl
theorem mC_X4_142 : Cond.classLink RX4 142 "java/lang/IllegalStateException" ∈ tb := tb_t 588 (by decide +kernel) rfl
theorem mM_X4_147 : Cond.methodLink RX4 147 yX1_emptyAll ∈ tb := tb_t 604 (by decide +kernel) rfl
theorem mI_X1_emptyAll : Cond.instanceMethod yX1_emptyAll ∈ tb := tb_t 605 (by decide +kernel) rfl
theorem mS_X1_emptyAll : Cond.selects RX1 yX1_emptyAll yX1_emptyAll ∈ tb := tb_t 606 (by decide +kernel) rfl
abbrev kX1_emptyAll : Cond := Cond.code yX1_emptyAll cX1_emptyAll 3 (some .int)
set_option maxRecDepth 100000 in
theorem mK_X1_emptyAll : kX1_emptyAll ∈ tb := tb_t 607 rfl rfl
theorem mM_L_91 : Cond.methodLink RL 91 yL_page ∈ tb := tb_t 608 (by decide +kernel) rfl
theorem mT_L_page : Cond.static yL_page ∈ tb := tb_t 609 (by decide +kernel) rfl
theorem mC_L_39 : Cond.classLink RL 39 "java/lang/IndexOutOfBoundsException" ∈ tb := tb_t 611 (by decide +kernel) rfl
theorem mC_L_41 : Cond.classLink RL 41 "java/lang/IllegalArgumentException" ∈ tb := tb_t 612 (by decide +kernel) rfl
theorem mM_L_35 : Cond.methodLink RL 35 yX4_page ∈ tb := tb_t 613 (by decide +kernel) rfl
theorem mI_X4_page : Cond.instanceMethod yX4_page ∈ tb := tb_t 614 (by decide +kernel) rfl
theorem mS_X4_page : Cond.selects RX4 yX4_page yX4_page ∈ tb := tb_t 615 (by decide +kernel) rfl
abbrev kX4_page : Cond := Cond.code yX4_page cX4_page 3 (some .int)
set_option maxRecDepth 100000 in
theorem mK_X4_page : kX4_page ∈ tb := tb_t 616 rfl rfl
theorem mM_X4_150 : Cond.methodLink RX4 150 yX0_isPage ∈ tb := tb_t 617 (by decide +kernel) rfl
theorem mC_X4_154 : Cond.classLink RX4 154 "java/lang/IndexOutOfBoundsException" ∈ tb := tb_t 618 (by decide +kernel) rfl
theorem mC_X4_169 : Cond.classLink RX4 169 "java/lang/IllegalArgumentException" ∈ tb := tb_t 634 (by decide +kernel) rfl
theorem mM_L_94 : Cond.methodLink RL 94 yL_item ∈ tb := tb_t 650 (by decide +kernel) rfl
theorem mT_L_item : Cond.static yL_item ∈ tb := tb_t 651 (by decide +kernel) rfl
theorem mM_L_43 : Cond.methodLink RL 43 yX4_item ∈ tb := tb_t 653 (by decide +kernel) rfl
theorem mI_X4_item : Cond.instanceMethod yX4_item ∈ tb := tb_t 654 (by decide +kernel) rfl
theorem mS_X4_item : Cond.selects RX4 yX4_item yX4_item ∈ tb := tb_t 655 (by decide +kernel) rfl
abbrev kX4_item : Cond := Cond.code yX4_item cX4_item 4 (some .int)
set_option maxRecDepth 100000 in
theorem mK_X4_item : kX4_item ∈ tb := tb_t 656 rfl rfl
theorem mM_L_98 : Cond.methodLink RL 98 yL_frame ∈ tb := tb_t 658 (by decide +kernel) rfl
theorem mT_L_frame : Cond.static yL_frame ∈ tb := tb_t 659 (by decide +kernel) rfl
theorem mM_L_47 : Cond.methodLink RL 47 yX4_frame ∈ tb := tb_t 661 (by decide +kernel) rfl
theorem mI_X4_frame : Cond.instanceMethod yX4_frame ∈ tb := tb_t 662 (by decide +kernel) rfl
theorem mS_X4_frame : Cond.selects RX4 yX4_frame yX4_frame ∈ tb := tb_t 663 (by decide +kernel) rfl
abbrev kX4_frame : Cond := Cond.code yX4_frame cX4_frame 3 (some .int)
set_option maxRecDepth 100000 in
theorem mK_X4_frame : kX4_frame ∈ tb := tb_t 664 rfl rfl
theorem mM_X4_179 : Cond.methodLink RX4 179 yX1_isFrame ∈ tb := tb_t 665 (by decide +kernel) rfl
theorem mM_X4_184 : Cond.methodLink RX4 184 yX1_pageIn ∈ tb := tb_t 667 (by decide +kernel) rfl
theorem mI_X1_pageIn : Cond.instanceMethod yX1_pageIn ∈ tb := tb_t 668 (by decide +kernel) rfl
theorem mS_X1_pageIn : Cond.selects RX1 yX1_pageIn yX1_pageIn ∈ tb := tb_t 669 (by decide +kernel) rfl
abbrev kX1_pageIn : Cond := Cond.code yX1_pageIn cX1_pageIn 2 (some .int)
set_option maxRecDepth 100000 in
theorem mK_X1_pageIn : kX1_pageIn ∈ tb := tb_t 670 rfl rfl
theorem mM_X4_187 : Cond.methodLink RX4 187 yX1_isUsed ∈ tb := tb_t 671 (by decide +kernel) rfl
theorem mI_X1_isUsed : Cond.instanceMethod yX1_isUsed ∈ tb := tb_t 672 (by decide +kernel) rfl
theorem mS_X1_isUsed : Cond.selects RX1 yX1_isUsed yX1_isUsed ∈ tb := tb_t 673 (by decide +kernel) rfl
abbrev kX1_isUsed : Cond := Cond.code yX1_isUsed cX1_isUsed 2 (some .boolean)
set_option maxRecDepth 100000 in
theorem mK_X1_isUsed : kX1_isUsed ∈ tb := tb_t 674 rfl rfl
theorem mM_X4_190 : Cond.methodLink RX4 190 yX1_isDirty ∈ tb := tb_t 675 (by decide +kernel) rfl
theorem mI_X1_isDirty : Cond.instanceMethod yX1_isDirty ∈ tb := tb_t 676 (by decide +kernel) rfl
theorem mS_X1_isDirty : Cond.selects RX1 yX1_isDirty yX1_isDirty ∈ tb := tb_t 677 (by decide +kernel) rfl
abbrev kX1_isDirty : Cond := Cond.code yX1_isDirty cX1_isDirty 2 (some .boolean)
set_option maxRecDepth 100000 in
theorem mK_X1_isDirty : kX1_isDirty ∈ tb := tb_t 678 rfl rfl
theorem mC_L_51 : Cond.classLink RL 51 RX5 ∈ tb := tb_t 680 (by decide +kernel) rfl
theorem mA_X5 : Cond.instantiable RX5 24 ∈ tb := tb_t 681 (by decide +kernel) rfl
theorem mM_L_53 : Cond.methodLink RL 53 yX5_init ∈ tb := tb_t 682 (by decide +kernel) rfl
theorem mI_X5_init : Cond.instanceMethod yX5_init ∈ tb := tb_t 683 (by decide +kernel) rfl
abbrev kX5_init : Cond := Cond.code yX5_init cX5_init 2 none
set_option maxRecDepth 100000 in
theorem mK_X5_init : kX5_init ∈ tb := tb_t 684 rfl rfl
theorem mF_X5_44 : Cond.fieldLink RX5 44 "PagedTreeModel" "refusal" "I" ∈ tb := tb_t 686 (by decide +kernel) rfl
theorem mF_X5_7 : Cond.fieldLink RX5 7 "PagedTreeModel" "kinds" "[I" ∈ tb := tb_t 687 (by decide +kernel) rfl
theorem mF_X5_13 : Cond.fieldLink RX5 13 "PagedTreeModel" "sizes" "[I" ∈ tb := tb_t 688 (by decide +kernel) rfl
theorem mF_X5_16 : Cond.fieldLink RX5 16 "PagedTreeModel" "keys" "[I" ∈ tb := tb_t 689 (by decide +kernel) rfl
theorem mF_X5_19 : Cond.fieldLink RX5 19 "PagedTreeModel" "others" "[I" ∈ tb := tb_t 690 (by decide +kernel) rfl
theorem mF_X5_22 : Cond.fieldLink RX5 22 "PagedTreeModel" "nexts" "[I" ∈ tb := tb_t 691 (by decide +kernel) rfl
theorem mF_X5_71 : Cond.fieldLink RX5 71 "PagedTreeModel" "root" "I" ∈ tb := tb_t 692 (by decide +kernel) rfl
theorem mF_X5_115 : Cond.fieldLink RX5 115 "PagedTreeModel" "entries" "I" ∈ tb := tb_t 693 (by decide +kernel) rfl
theorem mF_X5_74 : Cond.fieldLink RX5 74 "PagedTreeModel" "deep" "I" ∈ tb := tb_t 694 (by decide +kernel) rfl
theorem mF_X5_25 : Cond.fieldLink RX5 25 "PagedTreeModel" "way" "[I" ∈ tb := tb_t 695 (by decide +kernel) rfl
theorem mF_X5_28 : Cond.fieldLink RX5 28 "PagedTreeModel" "child" "[I" ∈ tb := tb_t 696 (by decide +kernel) rfl
theorem mF_X5_31 : Cond.fieldLink RX5 31 "PagedTreeModel" "held" "[I" ∈ tb := tb_t 697 (by decide +kernel) rfl
theorem mF_X5_34 : Cond.fieldLink RX5 34 "PagedTreeModel" "isUsed" "[Z" ∈ tb := tb_t 698 (by decide +kernel) rfl
theorem mF_X5_38 : Cond.fieldLink RX5 38 "PagedTreeModel" "isDirty" "[Z" ∈ tb := tb_t 699 (by decide +kernel) rfl
theorem mF_X5_41 : Cond.fieldLink RX5 41 "PagedTreeModel" "isPinned" "[Z" ∈ tb := tb_t 700 (by decide +kernel) rfl
theorem mF_X5_48 : Cond.fieldLink RX5 48 "PagedTreeModel" "hand" "I" ∈ tb := tb_t 701 (by decide +kernel) rfl
theorem mF_X5_61 : Cond.fieldLink RX5 61 "PagedTreeModel" "hits" "I" ∈ tb := tb_t 702 (by decide +kernel) rfl
theorem mF_X5_68 : Cond.fieldLink RX5 68 "PagedTreeModel" "reads" "I" ∈ tb := tb_t 703 (by decide +kernel) rfl
theorem mF_X5_54 : Cond.fieldLink RX5 54 "PagedTreeModel" "writes" "I" ∈ tb := tb_t 704 (by decide +kernel) rfl
theorem mF_X5_108 : Cond.fieldLink RX5 108 "PagedTreeModel" "isOn" "Z" ∈ tb := tb_t 705 (by decide +kernel) rfl
theorem mF_X5_141 : Cond.fieldLink RX5 141 "PagedTreeModel" "leaf" "I" ∈ tb := tb_t 706 (by decide +kernel) rfl
theorem mF_X5_144 : Cond.fieldLink RX5 144 "PagedTreeModel" "place" "I" ∈ tb := tb_t 707 (by decide +kernel) rfl
theorem mF_X5_147 : Cond.fieldLink RX5 147 "PagedTreeModel" "cursorKey" "I" ∈ tb := tb_t 708 (by decide +kernel) rfl
theorem mF_X5_150 : Cond.fieldLink RX5 150 "PagedTreeModel" "cursorValue" "I" ∈ tb := tb_t 709 (by decide +kernel) rfl
theorem mM_L_60 : Cond.methodLink RL 60 yX5_thrown ∈ tb := tb_t 759 (by decide +kernel) rfl
theorem mI_X5_thrown : Cond.instanceMethod yX5_thrown ∈ tb := tb_t 760 (by decide +kernel) rfl
theorem mS_X5_thrown : Cond.selects RX5 yX5_thrown yX5_thrown ∈ tb := tb_t 761 (by decide +kernel) rfl
abbrev kX5_thrown : Cond := Cond.code yX5_thrown cX5_thrown 1 (some .int)
set_option maxRecDepth 100000 in
theorem mK_X5_thrown : kX5_thrown ∈ tb := tb_t 762 rfl rfl
theorem mM_L_59 : Cond.methodLink RL 59 yX5_put ∈ tb := tb_t 763 (by decide +kernel) rfl
theorem mI_X5_put : Cond.instanceMethod yX5_put ∈ tb := tb_t 764 (by decide +kernel) rfl
theorem mS_X5_put : Cond.selects RX5 yX5_put yX5_put ∈ tb := tb_t 765 (by decide +kernel) rfl
abbrev kX5_put : Cond := Cond.code yX5_put cX5_put 7 (some .boolean)
set_option maxRecDepth 100000 in
theorem mK_X5_put : kX5_put ∈ tb := tb_t 766 rfl rfl
theorem mM_X5_92 : Cond.methodLink RX5 92 yX5_find ∈ tb := tb_t 767 (by decide +kernel) rfl
theorem mI_X5_find : Cond.instanceMethod yX5_find ∈ tb := tb_t 769 (by decide +kernel) rfl
abbrev kX5_find : Cond := Cond.code yX5_find cX5_find 5 none
set_option maxRecDepth 100000 in
theorem mK_X5_find : kX5_find ∈ tb := tb_t 770 rfl rfl
theorem mM_X5_95 : Cond.methodLink RX5 95 yX5_placeOf ∈ tb := tb_t 771 (by decide +kernel) rfl
theorem mI_X5_placeOf : Cond.instanceMethod yX5_placeOf ∈ tb := tb_t 773 (by decide +kernel) rfl
abbrev kX5_placeOf : Cond := Cond.code yX5_placeOf cX5_placeOf 4 (some .int)
set_option maxRecDepth 100000 in
theorem mK_X5_placeOf : kX5_placeOf ∈ tb := tb_t 774 rfl rfl
theorem mM_X5_98 : Cond.methodLink RX5 98 yX5_isAt ∈ tb := tb_t 775 (by decide +kernel) rfl
theorem mI_X5_isAt : Cond.instanceMethod yX5_isAt ∈ tb := tb_t 777 (by decide +kernel) rfl
abbrev kX5_isAt : Cond := Cond.code yX5_isAt cX5_isAt 4 (some .boolean)
set_option maxRecDepth 100000 in
theorem mK_X5_isAt : kX5_isAt ∈ tb := tb_t 778 rfl rfl
theorem mM_X5_102 : Cond.methodLink RX5 102 yX5_pagesInUse ∈ tb := tb_t 779 (by decide +kernel) rfl
theorem mI_X5_pagesInUse : Cond.instanceMethod yX5_pagesInUse ∈ tb := tb_t 781 (by decide +kernel) rfl
abbrev kX5_pagesInUse : Cond := Cond.code yX5_pagesInUse cX5_pagesInUse 3 (some .int)
set_option maxRecDepth 100000 in
theorem mK_X5_pagesInUse : kX5_pagesInUse ∈ tb := tb_t 782 rfl rfl
theorem mM_X5_105 : Cond.methodLink RX5 105 yX5_wanted ∈ tb := tb_t 783 (by decide +kernel) rfl
theorem mI_X5_wanted : Cond.instanceMethod yX5_wanted ∈ tb := tb_t 785 (by decide +kernel) rfl
abbrev kX5_wanted : Cond := Cond.code yX5_wanted cX5_wanted 3 (some .int)
set_option maxRecDepth 100000 in
theorem mK_X5_wanted : kX5_wanted ∈ tb := tb_t 786 rfl rfl
theorem mM_X5_112 : Cond.methodLink RX5 112 yX5_touchWay ∈ tb := tb_t 787 (by decide +kernel) rfl
theorem mI_X5_touchWay : Cond.instanceMethod yX5_touchWay ∈ tb := tb_t 789 (by decide +kernel) rfl
abbrev kX5_touchWay : Cond := Cond.code yX5_touchWay cX5_touchWay 2 none
set_option maxRecDepth 100000 in
theorem mK_X5_touchWay : kX5_touchWay ∈ tb := tb_t 790 rfl rfl
theorem mM_X5_77 : Cond.methodLink RX5 77 yX5_touch ∈ tb := tb_t 791 (by decide +kernel) rfl
theorem mI_X5_touch : Cond.instanceMethod yX5_touch ∈ tb := tb_t 793 (by decide +kernel) rfl
abbrev kX5_touch : Cond := Cond.code yX5_touch cX5_touch 4 none
set_option maxRecDepth 100000 in
theorem mK_X5_touch : kX5_touch ∈ tb := tb_t 794 rfl rfl
theorem mM_X5_57 : Cond.methodLink RX5 57 yX5_frameOf ∈ tb := tb_t 795 (by decide +kernel) rfl
theorem mI_X5_frameOf : Cond.instanceMethod yX5_frameOf ∈ tb := tb_t 797 (by decide +kernel) rfl
abbrev kX5_frameOf : Cond := Cond.code yX5_frameOf cX5_frameOf 4 (some .int)
set_option maxRecDepth 100000 in
theorem mK_X5_frameOf : kX5_frameOf ∈ tb := tb_t 798 rfl rfl
theorem mM_X5_64 : Cond.methodLink RX5 64 yX5_freeFrame ∈ tb := tb_t 799 (by decide +kernel) rfl
theorem mI_X5_freeFrame : Cond.instanceMethod yX5_freeFrame ∈ tb := tb_t 801 (by decide +kernel) rfl
abbrev kX5_freeFrame : Cond := Cond.code yX5_freeFrame cX5_freeFrame 2 (some .int)
set_option maxRecDepth 100000 in
theorem mK_X5_freeFrame : kX5_freeFrame ∈ tb := tb_t 802 rfl rfl
theorem mM_X5_51 : Cond.methodLink RX5 51 yX5_goOn ∈ tb := tb_t 803 (by decide +kernel) rfl
theorem mI_X5_goOn : Cond.instanceMethod yX5_goOn ∈ tb := tb_t 805 (by decide +kernel) rfl
abbrev kX5_goOn : Cond := Cond.code yX5_goOn cX5_goOn 1 none
set_option maxRecDepth 100000 in
theorem mK_X5_goOn : kX5_goOn ∈ tb := tb_t 806 rfl rfl
theorem mM_X5_88 : Cond.methodLink RX5 88 yX5_change ∈ tb := tb_t 807 (by decide +kernel) rfl
theorem mI_X5_change : Cond.instanceMethod yX5_change ∈ tb := tb_t 809 (by decide +kernel) rfl
abbrev kX5_change : Cond := Cond.code yX5_change cX5_change 2 none
set_option maxRecDepth 100000 in
theorem mK_X5_change : kX5_change ∈ tb := tb_t 810 rfl rfl
theorem mM_X5_84 : Cond.methodLink RX5 84 yX5_insert ∈ tb := tb_t 811 (by decide +kernel) rfl
theorem mI_X5_insert : Cond.instanceMethod yX5_insert ∈ tb := tb_t 813 (by decide +kernel) rfl
abbrev kX5_insert : Cond := Cond.code yX5_insert cX5_insert 6 none
set_option maxRecDepth 100000 in
theorem mK_X5_insert : kX5_insert ∈ tb := tb_t 814 rfl rfl
theorem mM_X5_118 : Cond.methodLink RX5 118 yX5_split ∈ tb := tb_t 815 (by decide +kernel) rfl
theorem mI_X5_split : Cond.instanceMethod yX5_split ∈ tb := tb_t 817 (by decide +kernel) rfl
abbrev kX5_split : Cond := Cond.code yX5_split cX5_split 6 none
set_option maxRecDepth 100000 in
theorem mK_X5_split : kX5_split ∈ tb := tb_t 818 rfl rfl
theorem mM_X5_81 : Cond.methodLink RX5 81 yX5_leastFree ∈ tb := tb_t 819 (by decide +kernel) rfl
theorem mI_X5_leastFree : Cond.instanceMethod yX5_leastFree ∈ tb := tb_t 821 (by decide +kernel) rfl
abbrev kX5_leastFree : Cond := Cond.code yX5_leastFree cX5_leastFree 2 (some .int)
set_option maxRecDepth 100000 in
theorem mK_X5_leastFree : kX5_leastFree ∈ tb := tb_t 822 rfl rfl
theorem mM_X5_121 : Cond.methodLink RX5 121 yX5_unpin ∈ tb := tb_t 823 (by decide +kernel) rfl
theorem mI_X5_unpin : Cond.instanceMethod yX5_unpin ∈ tb := tb_t 825 (by decide +kernel) rfl
abbrev kX5_unpin : Cond := Cond.code yX5_unpin cX5_unpin 2 none
set_option maxRecDepth 100000 in
theorem mK_X5_unpin : kX5_unpin ∈ tb := tb_t 826 rfl rfl
theorem mM_L_66 : Cond.methodLink RL 66 yX5_get ∈ tb := tb_t 827 (by decide +kernel) rfl
theorem mI_X5_get : Cond.instanceMethod yX5_get ∈ tb := tb_t 828 (by decide +kernel) rfl
theorem mS_X5_get : Cond.selects RX5 yX5_get yX5_get ∈ tb := tb_t 829 (by decide +kernel) rfl
abbrev kX5_get : Cond := Cond.code yX5_get cX5_get 3 (some .int)
set_option maxRecDepth 100000 in
theorem mK_X5_get : kX5_get ∈ tb := tb_t 830 rfl rfl
theorem mM_L_71 : Cond.methodLink RL 71 yX5_remove ∈ tb := tb_t 831 (by decide +kernel) rfl
theorem mI_X5_remove : Cond.instanceMethod yX5_remove ∈ tb := tb_t 832 (by decide +kernel) rfl
theorem mS_X5_remove : Cond.selects RX5 yX5_remove yX5_remove ∈ tb := tb_t 833 (by decide +kernel) rfl
abbrev kX5_remove : Cond := Cond.code yX5_remove cX5_remove 5 (some .boolean)
set_option maxRecDepth 100000 in
theorem mK_X5_remove : kX5_remove ∈ tb := tb_t 834 rfl rfl
theorem mM_X5_124 : Cond.methodLink RX5 124 yX5_removeAt ∈ tb := tb_t 835 (by decide +kernel) rfl
theorem mI_X5_removeAt : Cond.instanceMethod yX5_removeAt ∈ tb := tb_t 837 (by decide +kernel) rfl
abbrev kX5_removeAt : Cond := Cond.code yX5_removeAt cX5_removeAt 4 none
set_option maxRecDepth 100000 in
theorem mK_X5_removeAt : kX5_removeAt ∈ tb := tb_t 838 rfl rfl
theorem mM_X5_138 : Cond.methodLink RX5 138 yX5_mend ∈ tb := tb_t 839 (by decide +kernel) rfl
theorem mI_X5_mend : Cond.instanceMethod yX5_mend ∈ tb := tb_t 841 (by decide +kernel) rfl
abbrev kX5_mend : Cond := Cond.code yX5_mend cX5_mend 7 none
set_option maxRecDepth 100000 in
theorem mK_X5_mend : kX5_mend ∈ tb := tb_t 842 rfl rfl
theorem mM_X5_131 : Cond.methodLink RX5 131 yX5_give ∈ tb := tb_t 843 (by decide +kernel) rfl
theorem mI_X5_give : Cond.instanceMethod yX5_give ∈ tb := tb_t 845 (by decide +kernel) rfl
abbrev kX5_give : Cond := Cond.code yX5_give cX5_give 10 none
set_option maxRecDepth 100000 in
theorem mK_X5_give : kX5_give ∈ tb := tb_t 846 rfl rfl
theorem mM_X5_135 : Cond.methodLink RX5 135 yX5_join ∈ tb := tb_t 847 (by decide +kernel) rfl
theorem mI_X5_join : Cond.instanceMethod yX5_join ∈ tb := tb_t 849 (by decide +kernel) rfl
abbrev kX5_join : Cond := Cond.code yX5_join cX5_join 6 none
set_option maxRecDepth 100000 in
theorem mK_X5_join : kX5_join ∈ tb := tb_t 850 rfl rfl
theorem mM_X5_128 : Cond.methodLink RX5 128 yX5_release ∈ tb := tb_t 851 (by decide +kernel) rfl
theorem mI_X5_release : Cond.instanceMethod yX5_release ∈ tb := tb_t 853 (by decide +kernel) rfl
abbrev kX5_release : Cond := Cond.code yX5_release cX5_release 3 none
set_option maxRecDepth 100000 in
theorem mK_X5_release : kX5_release ∈ tb := tb_t 854 rfl rfl
theorem mM_L_75 : Cond.methodLink RL 75 yX5_seek ∈ tb := tb_t 855 (by decide +kernel) rfl
theorem mI_X5_seek : Cond.instanceMethod yX5_seek ∈ tb := tb_t 856 (by decide +kernel) rfl
theorem mS_X5_seek : Cond.selects RX5 yX5_seek yX5_seek ∈ tb := tb_t 857 (by decide +kernel) rfl
abbrev kX5_seek : Cond := Cond.code yX5_seek cX5_seek 2 (some .boolean)
set_option maxRecDepth 100000 in
theorem mK_X5_seek : kX5_seek ∈ tb := tb_t 858 rfl rfl
theorem mM_X5_153 : Cond.methodLink RX5 153 yX5_arrive ∈ tb := tb_t 859 (by decide +kernel) rfl
theorem mI_X5_arrive : Cond.instanceMethod yX5_arrive ∈ tb := tb_t 861 (by decide +kernel) rfl
abbrev kX5_arrive : Cond := Cond.code yX5_arrive cX5_arrive 5 (some .boolean)
set_option maxRecDepth 100000 in
theorem mK_X5_arrive : kX5_arrive ∈ tb := tb_t 862 rfl rfl
theorem mM_L_79 : Cond.methodLink RL 79 yX5_next ∈ tb := tb_t 863 (by decide +kernel) rfl
theorem mI_X5_next : Cond.instanceMethod yX5_next ∈ tb := tb_t 864 (by decide +kernel) rfl
theorem mS_X5_next : Cond.selects RX5 yX5_next yX5_next ∈ tb := tb_t 865 (by decide +kernel) rfl
abbrev kX5_next : Cond := Cond.code yX5_next cX5_next 1 (some .boolean)
set_option maxRecDepth 100000 in
theorem mK_X5_next : kX5_next ∈ tb := tb_t 866 rfl rfl
theorem mM_L_83 : Cond.methodLink RL 83 yX5_cursor ∈ tb := tb_t 867 (by decide +kernel) rfl
theorem mI_X5_cursor : Cond.instanceMethod yX5_cursor ∈ tb := tb_t 868 (by decide +kernel) rfl
theorem mS_X5_cursor : Cond.selects RX5 yX5_cursor yX5_cursor ∈ tb := tb_t 869 (by decide +kernel) rfl
abbrev kX5_cursor : Cond := Cond.code yX5_cursor cX5_cursor 2 (some .int)
set_option maxRecDepth 100000 in
theorem mK_X5_cursor : kX5_cursor ∈ tb := tb_t 870 rfl rfl
theorem mM_L_87 : Cond.methodLink RL 87 yX5_flush ∈ tb := tb_t 871 (by decide +kernel) rfl
theorem mI_X5_flush : Cond.instanceMethod yX5_flush ∈ tb := tb_t 872 (by decide +kernel) rfl
theorem mS_X5_flush : Cond.selects RX5 yX5_flush yX5_flush ∈ tb := tb_t 873 (by decide +kernel) rfl
abbrev kX5_flush : Cond := Cond.code yX5_flush cX5_flush 3 (some .int)
set_option maxRecDepth 100000 in
theorem mK_X5_flush : kX5_flush ∈ tb := tb_t 874 rfl rfl
theorem mM_L_90 : Cond.methodLink RL 90 yX5_drop ∈ tb := tb_t 875 (by decide +kernel) rfl
theorem mI_X5_drop : Cond.instanceMethod yX5_drop ∈ tb := tb_t 876 (by decide +kernel) rfl
theorem mS_X5_drop : Cond.selects RX5 yX5_drop yX5_drop ∈ tb := tb_t 877 (by decide +kernel) rfl
abbrev kX5_drop : Cond := Cond.code yX5_drop cX5_drop 3 (some .int)
set_option maxRecDepth 100000 in
theorem mK_X5_drop : kX5_drop ∈ tb := tb_t 878 rfl rfl
theorem mM_L_93 : Cond.methodLink RL 93 yX5_page ∈ tb := tb_t 879 (by decide +kernel) rfl
theorem mI_X5_page : Cond.instanceMethod yX5_page ∈ tb := tb_t 880 (by decide +kernel) rfl
theorem mS_X5_page : Cond.selects RX5 yX5_page yX5_page ∈ tb := tb_t 881 (by decide +kernel) rfl
abbrev kX5_page : Cond := Cond.code yX5_page cX5_page 3 (some .int)
set_option maxRecDepth 100000 in
theorem mK_X5_page : kX5_page ∈ tb := tb_t 882 rfl rfl
theorem mM_L_97 : Cond.methodLink RL 97 yX5_item ∈ tb := tb_t 883 (by decide +kernel) rfl
theorem mI_X5_item : Cond.instanceMethod yX5_item ∈ tb := tb_t 884 (by decide +kernel) rfl
theorem mS_X5_item : Cond.selects RX5 yX5_item yX5_item ∈ tb := tb_t 885 (by decide +kernel) rfl
abbrev kX5_item : Cond := Cond.code yX5_item cX5_item 4 (some .int)
set_option maxRecDepth 100000 in
theorem mK_X5_item : kX5_item ∈ tb := tb_t 886 rfl rfl
theorem mM_L_100 : Cond.methodLink RL 100 yX5_frame ∈ tb := tb_t 887 (by decide +kernel) rfl
theorem mI_X5_frame : Cond.instanceMethod yX5_frame ∈ tb := tb_t 888 (by decide +kernel) rfl
theorem mS_X5_frame : Cond.selects RX5 yX5_frame yX5_frame ∈ tb := tb_t 889 (by decide +kernel) rfl
abbrev kX5_frame : Cond := Cond.code yX5_frame cX5_frame 3 (some .int)
set_option maxRecDepth 100000 in
theorem mK_X5_frame : kX5_frame ∈ tb := tb_t 890 rfl rfl
theorem mM_L_104 : Cond.methodLink RL 104 yX5_told ∈ tb := tb_t 891 (by decide +kernel) rfl
theorem mI_X5_told : Cond.instanceMethod yX5_told ∈ tb := tb_t 892 (by decide +kernel) rfl
theorem mS_X5_told : Cond.selects RX5 yX5_told yX5_told ∈ tb := tb_t 893 (by decide +kernel) rfl
abbrev kX5_told : Cond := Cond.code yX5_told cX5_told 2 (some .int)
set_option maxRecDepth 100000 in
theorem mK_X5_told : kX5_told ∈ tb := tb_t 894 rfl rfl
theorem mM_X5_156 : Cond.methodLink RX5 156 yX5_levels ∈ tb := tb_t 895 (by decide +kernel) rfl
theorem mI_X5_levels : Cond.instanceMethod yX5_levels ∈ tb := tb_t 897 (by decide +kernel) rfl
abbrev kX5_levels : Cond := Cond.code yX5_levels cX5_levels 3 (some .int)
set_option maxRecDepth 100000 in
theorem mK_X5_levels : kX5_levels ∈ tb := tb_t 898 rfl rfl
theorem mM_L_108 : Cond.methodLink RL 108 yX5_astray ∈ tb := tb_t 899 (by decide +kernel) rfl
theorem mI_X5_astray : Cond.instanceMethod yX5_astray ∈ tb := tb_t 900 (by decide +kernel) rfl
theorem mS_X5_astray : Cond.selects RX5 yX5_astray yX5_astray ∈ tb := tb_t 901 (by decide +kernel) rfl
abbrev kX5_astray : Cond := Cond.code yX5_astray cX5_astray 6 (some .int)
set_option maxRecDepth 100000 in
theorem mK_X5_astray : kX5_astray ∈ tb := tb_t 902 rfl rfl
theorem mU_X0 : ∀ w ∈ wsX00, w ∈ tb := by decide +kernel
theorem mU_X1 : ∀ w ∈ wsX10, w ∈ tb := by decide +kernel
theorem mU_X2 : ∀ w ∈ wsX20, w ∈ tb := by decide +kernel
theorem mU_X3 : ∀ w ∈ wsX30, w ∈ tb := by decide +kernel
theorem mU_X4 : ∀ w ∈ wsX40, w ∈ tb := by decide +kernel
theorem mU_X5 : ∀ w ∈ wsX50, w ∈ tb := by decide +kernel
end
section
theorem dX0_init_0 : decode cX0_init 0 = .ok (.aload_n 0, 1) := by decide +kernel
theorem dX0_init_1 : decode cX0_init 1 = .ok (.invokespecial 3, 3) := by decide +kernel
theorem dX0_init_4 : decode cX0_init 4 = .ok (.aload_n 0, 1) := by decide +kernel
theorem dX0_init_5 : decode cX0_init 5 = .ok (.bipush 40, 2) := by decide +kernel
theorem dX0_init_7 : decode cX0_init 7 = .ok (.newarray .int, 2) := by decide +kernel
theorem dX0_init_9 : decode cX0_init 9 = .ok (.putfield 9, 3) := by decide +kernel
theorem dX0_init_12 : decode cX0_init 12 = .ok (.aload_n 0, 1) := by decide +kernel
theorem dX0_init_13 : decode cX0_init 13 = .ok (.bipush 40, 2) := by decide +kernel
theorem dX0_init_15 : decode cX0_init 15 = .ok (.newarray .int, 2) := by decide +kernel
theorem dX0_init_17 : decode cX0_init 17 = .ok (.putfield 15, 3) := by decide +kernel
theorem dX0_init_20 : decode cX0_init 20 = .ok (.aload_n 0, 1) := by decide +kernel
theorem dX0_init_21 : decode cX0_init 21 = .ok (.bipush 40, 2) := by decide +kernel
theorem dX0_init_23 : decode cX0_init 23 = .ok (.newarray .int, 2) := by decide +kernel
theorem dX0_init_25 : decode cX0_init 25 = .ok (.putfield 18, 3) := by decide +kernel
theorem dX0_init_28 : decode cX0_init 28 = .ok (.aload_n 0, 1) := by decide +kernel
theorem dX0_init_29 : decode cX0_init 29 = .ok (.sipush 200, 3) := by decide +kernel
theorem dX0_init_32 : decode cX0_init 32 = .ok (.newarray .int, 2) := by decide +kernel
theorem dX0_init_34 : decode cX0_init 34 = .ok (.putfield 21, 3) := by decide +kernel
theorem dX0_init_37 : decode cX0_init 37 = .ok (.aload_n 0, 1) := by decide +kernel
theorem dX0_init_38 : decode cX0_init 38 = .ok (.sipush 200, 3) := by decide +kernel
theorem dX0_init_41 : decode cX0_init 41 = .ok (.newarray .int, 2) := by decide +kernel
theorem dX0_init_43 : decode cX0_init 43 = .ok (.putfield 24, 3) := by decide +kernel
theorem dX0_init_46 : decode cX0_init 46 = .ok (.aload_n 0, 1) := by decide +kernel
theorem dX0_init_47 : decode cX0_init 47 = .ok (.getfield 18, 3) := by decide +kernel
theorem dX0_init_50 : decode cX0_init 50 = .ok (.iconst (-1), 1) := by decide +kernel
theorem dX0_init_51 : decode cX0_init 51 = .ok (.invokestatic 27, 3) := by decide +kernel
theorem dX0_init_54 : decode cX0_init 54 = .ok (.return_, 1) := by decide +kernel
theorem dX0_isPage_0 : decode cX0_isPage 0 = .ok (.iload_n 1, 1) := by decide +kernel
theorem dX0_isPage_1 : decode cX0_isPage 1 = .ok (.ifCond .lt 13, 3) := by decide +kernel
theorem dX0_isPage_4 : decode cX0_isPage 4 = .ok (.iload_n 1, 1) := by decide +kernel
theorem dX0_isPage_5 : decode cX0_isPage 5 = .ok (.bipush 40, 2) := by decide +kernel
theorem dX0_isPage_7 : decode cX0_isPage 7 = .ok (.if_icmp .ge 7, 3) := by decide +kernel
theorem dX0_isPage_10 : decode cX0_isPage 10 = .ok (.iconst 1, 1) := by decide +kernel
theorem dX0_isPage_11 : decode cX0_isPage 11 = .ok (.goto 4, 3) := by decide +kernel
theorem dX0_isPage_14 : decode cX0_isPage 14 = .ok (.iconst 0, 1) := by decide +kernel
theorem dX0_isPage_15 : decode cX0_isPage 15 = .ok (.ireturn, 1) := by decide +kernel
theorem dX0_kindOf_0 : decode cX0_kindOf 0 = .ok (.aload_n 0, 1) := by decide +kernel
theorem dX0_kindOf_1 : decode cX0_kindOf 1 = .ok (.iload_n 1, 1) := by decide +kernel
theorem dX0_kindOf_2 : decode cX0_kindOf 2 = .ok (.invokevirtual 33, 3) := by decide +kernel
theorem dX0_kindOf_5 : decode cX0_kindOf 5 = .ok (.ifCond .eq 12, 3) := by decide +kernel
theorem dX0_kindOf_8 : decode cX0_kindOf 8 = .ok (.aload_n 0, 1) := by decide +kernel
theorem dX0_kindOf_9 : decode cX0_kindOf 9 = .ok (.getfield 9, 3) := by decide +kernel
theorem dX0_kindOf_12 : decode cX0_kindOf 12 = .ok (.iload_n 1, 1) := by decide +kernel
theorem dX0_kindOf_13 : decode cX0_kindOf 13 = .ok (.iaload, 1) := by decide +kernel
theorem dX0_kindOf_14 : decode cX0_kindOf 14 = .ok (.goto 4, 3) := by decide +kernel
theorem dX0_kindOf_17 : decode cX0_kindOf 17 = .ok (.iconst 0, 1) := by decide +kernel
theorem dX0_kindOf_18 : decode cX0_kindOf 18 = .ok (.ireturn, 1) := by decide +kernel
theorem dX0_countOf_0 : decode cX0_countOf 0 = .ok (.aload_n 0, 1) := by decide +kernel
theorem dX0_countOf_1 : decode cX0_countOf 1 = .ok (.iload_n 1, 1) := by decide +kernel
theorem dX0_countOf_2 : decode cX0_countOf 2 = .ok (.invokevirtual 33, 3) := by decide +kernel
theorem dX0_countOf_5 : decode cX0_countOf 5 = .ok (.ifCond .eq 12, 3) := by decide +kernel
theorem dX0_countOf_8 : decode cX0_countOf 8 = .ok (.aload_n 0, 1) := by decide +kernel
theorem dX0_countOf_9 : decode cX0_countOf 9 = .ok (.getfield 15, 3) := by decide +kernel
theorem dX0_countOf_12 : decode cX0_countOf 12 = .ok (.iload_n 1, 1) := by decide +kernel
theorem dX0_countOf_13 : decode cX0_countOf 13 = .ok (.iaload, 1) := by decide +kernel
theorem dX0_countOf_14 : decode cX0_countOf 14 = .ok (.goto 4, 3) := by decide +kernel
theorem dX0_countOf_17 : decode cX0_countOf 17 = .ok (.iconst 0, 1) := by decide +kernel
theorem dX0_countOf_18 : decode cX0_countOf 18 = .ok (.ireturn, 1) := by decide +kernel
theorem dX0_leafAfter_0 : decode cX0_leafAfter 0 = .ok (.aload_n 0, 1) := by decide +kernel
theorem dX0_leafAfter_1 : decode cX0_leafAfter 1 = .ok (.iload_n 1, 1) := by decide +kernel
theorem dX0_leafAfter_2 : decode cX0_leafAfter 2 = .ok (.invokevirtual 33, 3) := by decide +kernel
theorem dX0_leafAfter_5 : decode cX0_leafAfter 5 = .ok (.ifCond .eq 12, 3) := by decide +kernel
theorem dX0_leafAfter_8 : decode cX0_leafAfter 8 = .ok (.aload_n 0, 1) := by decide +kernel
theorem dX0_leafAfter_9 : decode cX0_leafAfter 9 = .ok (.getfield 18, 3) := by decide +kernel
theorem dX0_leafAfter_12 : decode cX0_leafAfter 12 = .ok (.iload_n 1, 1) := by decide +kernel
theorem dX0_leafAfter_13 : decode cX0_leafAfter 13 = .ok (.iaload, 1) := by decide +kernel
theorem dX0_leafAfter_14 : decode cX0_leafAfter 14 = .ok (.goto 4, 3) := by decide +kernel
theorem dX0_leafAfter_17 : decode cX0_leafAfter 17 = .ok (.iconst (-1), 1) := by decide +kernel
theorem dX0_leafAfter_18 : decode cX0_leafAfter 18 = .ok (.ireturn, 1) := by decide +kernel
theorem dX0_setLeafAfter_0 : decode cX0_setLeafAfter 0 = .ok (.aload_n 0, 1) := by decide +kernel
theorem dX0_setLeafAfter_1 : decode cX0_setLeafAfter 1 = .ok (.iload_n 1, 1) := by decide +kernel
theorem dX0_setLeafAfter_2 : decode cX0_setLeafAfter 2 = .ok (.invokevirtual 33, 3) := by decide +kernel
theorem dX0_setLeafAfter_5 : decode cX0_setLeafAfter 5 = .ok (.ifCond .eq 10, 3) := by decide +kernel
theorem dX0_setLeafAfter_8 : decode cX0_setLeafAfter 8 = .ok (.aload_n 0, 1) := by decide +kernel
theorem dX0_setLeafAfter_9 : decode cX0_setLeafAfter 9 = .ok (.getfield 18, 3) := by decide +kernel
theorem dX0_setLeafAfter_12 : decode cX0_setLeafAfter 12 = .ok (.iload_n 1, 1) := by decide +kernel
theorem dX0_setLeafAfter_13 : decode cX0_setLeafAfter 13 = .ok (.iload_n 2, 1) := by decide +kernel
theorem dX0_setLeafAfter_14 : decode cX0_setLeafAfter 14 = .ok (.iastore, 1) := by decide +kernel
theorem dX0_setLeafAfter_15 : decode cX0_setLeafAfter 15 = .ok (.return_, 1) := by decide +kernel
theorem dX0_keyAt_0 : decode cX0_keyAt 0 = .ok (.aload_n 0, 1) := by decide +kernel
theorem dX0_keyAt_1 : decode cX0_keyAt 1 = .ok (.iload_n 1, 1) := by decide +kernel
theorem dX0_keyAt_2 : decode cX0_keyAt 2 = .ok (.iload_n 2, 1) := by decide +kernel
theorem dX0_keyAt_3 : decode cX0_keyAt 3 = .ok (.invokevirtual 37, 3) := by decide +kernel
theorem dX0_keyAt_6 : decode cX0_keyAt 6 = .ok (.istore_n 3, 1) := by decide +kernel
theorem dX0_keyAt_7 : decode cX0_keyAt 7 = .ok (.iload_n 3, 1) := by decide +kernel
theorem dX0_keyAt_8 : decode cX0_keyAt 8 = .ok (.ifCond .lt 21, 3) := by decide +kernel
theorem dX0_keyAt_11 : decode cX0_keyAt 11 = .ok (.iload_n 3, 1) := by decide +kernel
theorem dX0_keyAt_12 : decode cX0_keyAt 12 = .ok (.aload_n 0, 1) := by decide +kernel
theorem dX0_keyAt_13 : decode cX0_keyAt 13 = .ok (.getfield 21, 3) := by decide +kernel
theorem dX0_keyAt_16 : decode cX0_keyAt 16 = .ok (.arraylength, 1) := by decide +kernel
theorem dX0_keyAt_17 : decode cX0_keyAt 17 = .ok (.if_icmp .ge 12, 3) := by decide +kernel
theorem dX0_keyAt_20 : decode cX0_keyAt 20 = .ok (.aload_n 0, 1) := by decide +kernel
theorem dX0_keyAt_21 : decode cX0_keyAt 21 = .ok (.getfield 21, 3) := by decide +kernel
theorem dX0_keyAt_24 : decode cX0_keyAt 24 = .ok (.iload_n 3, 1) := by decide +kernel
theorem dX0_keyAt_25 : decode cX0_keyAt 25 = .ok (.iaload, 1) := by decide +kernel
theorem dX0_keyAt_26 : decode cX0_keyAt 26 = .ok (.goto 4, 3) := by decide +kernel
theorem dX0_keyAt_29 : decode cX0_keyAt 29 = .ok (.iconst 0, 1) := by decide +kernel
theorem dX0_keyAt_30 : decode cX0_keyAt 30 = .ok (.ireturn, 1) := by decide +kernel
theorem dX0_secondAt_0 : decode cX0_secondAt 0 = .ok (.aload_n 0, 1) := by decide +kernel
theorem dX0_secondAt_1 : decode cX0_secondAt 1 = .ok (.iload_n 1, 1) := by decide +kernel
theorem dX0_secondAt_2 : decode cX0_secondAt 2 = .ok (.iload_n 2, 1) := by decide +kernel
theorem dX0_secondAt_3 : decode cX0_secondAt 3 = .ok (.invokevirtual 37, 3) := by decide +kernel
theorem dX0_secondAt_6 : decode cX0_secondAt 6 = .ok (.istore_n 3, 1) := by decide +kernel
theorem dX0_secondAt_7 : decode cX0_secondAt 7 = .ok (.iload_n 3, 1) := by decide +kernel
theorem dX0_secondAt_8 : decode cX0_secondAt 8 = .ok (.ifCond .lt 21, 3) := by decide +kernel
theorem dX0_secondAt_11 : decode cX0_secondAt 11 = .ok (.iload_n 3, 1) := by decide +kernel
theorem dX0_secondAt_12 : decode cX0_secondAt 12 = .ok (.aload_n 0, 1) := by decide +kernel
theorem dX0_secondAt_13 : decode cX0_secondAt 13 = .ok (.getfield 24, 3) := by decide +kernel
theorem dX0_secondAt_16 : decode cX0_secondAt 16 = .ok (.arraylength, 1) := by decide +kernel
theorem dX0_secondAt_17 : decode cX0_secondAt 17 = .ok (.if_icmp .ge 12, 3) := by decide +kernel
theorem dX0_secondAt_20 : decode cX0_secondAt 20 = .ok (.aload_n 0, 1) := by decide +kernel
theorem dX0_secondAt_21 : decode cX0_secondAt 21 = .ok (.getfield 24, 3) := by decide +kernel
theorem dX0_secondAt_24 : decode cX0_secondAt 24 = .ok (.iload_n 3, 1) := by decide +kernel
theorem dX0_secondAt_25 : decode cX0_secondAt 25 = .ok (.iaload, 1) := by decide +kernel
theorem dX0_secondAt_26 : decode cX0_secondAt 26 = .ok (.goto 4, 3) := by decide +kernel
theorem dX0_secondAt_29 : decode cX0_secondAt 29 = .ok (.iconst 0, 1) := by decide +kernel
theorem dX0_secondAt_30 : decode cX0_secondAt 30 = .ok (.ireturn, 1) := by decide +kernel
theorem dX0_setKey_0 : decode cX0_setKey 0 = .ok (.aload_n 0, 1) := by decide +kernel
theorem dX0_setKey_1 : decode cX0_setKey 1 = .ok (.iload_n 1, 1) := by decide +kernel
theorem dX0_setKey_2 : decode cX0_setKey 2 = .ok (.iload_n 2, 1) := by decide +kernel
theorem dX0_setKey_3 : decode cX0_setKey 3 = .ok (.invokevirtual 37, 3) := by decide +kernel
theorem dX0_setKey_6 : decode cX0_setKey 6 = .ok (.istore 4, 2) := by decide +kernel
theorem dX0_setKey_8 : decode cX0_setKey 8 = .ok (.iload 4, 2) := by decide +kernel
theorem dX0_setKey_10 : decode cX0_setKey 10 = .ok (.ifCond .lt 21, 3) := by decide +kernel
theorem dX0_setKey_13 : decode cX0_setKey 13 = .ok (.iload 4, 2) := by decide +kernel
theorem dX0_setKey_15 : decode cX0_setKey 15 = .ok (.aload_n 0, 1) := by decide +kernel
theorem dX0_setKey_16 : decode cX0_setKey 16 = .ok (.getfield 21, 3) := by decide +kernel
theorem dX0_setKey_19 : decode cX0_setKey 19 = .ok (.arraylength, 1) := by decide +kernel
theorem dX0_setKey_20 : decode cX0_setKey 20 = .ok (.if_icmp .ge 11, 3) := by decide +kernel
theorem dX0_setKey_23 : decode cX0_setKey 23 = .ok (.aload_n 0, 1) := by decide +kernel
theorem dX0_setKey_24 : decode cX0_setKey 24 = .ok (.getfield 21, 3) := by decide +kernel
theorem dX0_setKey_27 : decode cX0_setKey 27 = .ok (.iload 4, 2) := by decide +kernel
theorem dX0_setKey_29 : decode cX0_setKey 29 = .ok (.iload_n 3, 1) := by decide +kernel
theorem dX0_setKey_30 : decode cX0_setKey 30 = .ok (.iastore, 1) := by decide +kernel
theorem dX0_setKey_31 : decode cX0_setKey 31 = .ok (.return_, 1) := by decide +kernel
theorem dX0_setItem_0 : decode cX0_setItem 0 = .ok (.aload_n 0, 1) := by decide +kernel
theorem dX0_setItem_1 : decode cX0_setItem 1 = .ok (.iload_n 1, 1) := by decide +kernel
theorem dX0_setItem_2 : decode cX0_setItem 2 = .ok (.iload_n 2, 1) := by decide +kernel
theorem dX0_setItem_3 : decode cX0_setItem 3 = .ok (.invokevirtual 37, 3) := by decide +kernel
theorem dX0_setItem_6 : decode cX0_setItem 6 = .ok (.istore 5, 2) := by decide +kernel
theorem dX0_setItem_8 : decode cX0_setItem 8 = .ok (.iload 5, 2) := by decide +kernel
theorem dX0_setItem_10 : decode cX0_setItem 10 = .ok (.ifCond .lt 40, 3) := by decide +kernel
theorem dX0_setItem_13 : decode cX0_setItem 13 = .ok (.iload 5, 2) := by decide +kernel
theorem dX0_setItem_15 : decode cX0_setItem 15 = .ok (.aload_n 0, 1) := by decide +kernel
theorem dX0_setItem_16 : decode cX0_setItem 16 = .ok (.getfield 21, 3) := by decide +kernel
theorem dX0_setItem_19 : decode cX0_setItem 19 = .ok (.arraylength, 1) := by decide +kernel
theorem dX0_setItem_20 : decode cX0_setItem 20 = .ok (.if_icmp .ge 30, 3) := by decide +kernel
theorem dX0_setItem_23 : decode cX0_setItem 23 = .ok (.iload 5, 2) := by decide +kernel
theorem dX0_setItem_25 : decode cX0_setItem 25 = .ok (.aload_n 0, 1) := by decide +kernel
theorem dX0_setItem_26 : decode cX0_setItem 26 = .ok (.getfield 24, 3) := by decide +kernel
theorem dX0_setItem_29 : decode cX0_setItem 29 = .ok (.arraylength, 1) := by decide +kernel
theorem dX0_setItem_30 : decode cX0_setItem 30 = .ok (.if_icmp .ge 20, 3) := by decide +kernel
theorem dX0_setItem_33 : decode cX0_setItem 33 = .ok (.aload_n 0, 1) := by decide +kernel
theorem dX0_setItem_34 : decode cX0_setItem 34 = .ok (.getfield 21, 3) := by decide +kernel
theorem dX0_setItem_37 : decode cX0_setItem 37 = .ok (.iload 5, 2) := by decide +kernel
theorem dX0_setItem_39 : decode cX0_setItem 39 = .ok (.iload_n 3, 1) := by decide +kernel
theorem dX0_setItem_40 : decode cX0_setItem 40 = .ok (.iastore, 1) := by decide +kernel
theorem dX0_setItem_41 : decode cX0_setItem 41 = .ok (.aload_n 0, 1) := by decide +kernel
theorem dX0_setItem_42 : decode cX0_setItem 42 = .ok (.getfield 24, 3) := by decide +kernel
theorem dX0_setItem_45 : decode cX0_setItem 45 = .ok (.iload 5, 2) := by decide +kernel
theorem dX0_setItem_47 : decode cX0_setItem 47 = .ok (.iload 4, 2) := by decide +kernel
theorem dX0_setItem_49 : decode cX0_setItem 49 = .ok (.iastore, 1) := by decide +kernel
theorem dX0_setItem_50 : decode cX0_setItem 50 = .ok (.return_, 1) := by decide +kernel
theorem dX0_cellOf_0 : decode cX0_cellOf 0 = .ok (.iload_n 1, 1) := by decide +kernel
theorem dX0_cellOf_1 : decode cX0_cellOf 1 = .ok (.ifCond .lt 22, 3) := by decide +kernel
theorem dX0_cellOf_4 : decode cX0_cellOf 4 = .ok (.iload_n 1, 1) := by decide +kernel
theorem dX0_cellOf_5 : decode cX0_cellOf 5 = .ok (.bipush 40, 2) := by decide +kernel
theorem dX0_cellOf_7 : decode cX0_cellOf 7 = .ok (.if_icmp .ge 16, 3) := by decide +kernel
theorem dX0_cellOf_10 : decode cX0_cellOf 10 = .ok (.iload_n 2, 1) := by decide +kernel
theorem dX0_cellOf_11 : decode cX0_cellOf 11 = .ok (.ifCond .lt 12, 3) := by decide +kernel
theorem dX0_cellOf_14 : decode cX0_cellOf 14 = .ok (.iload_n 2, 1) := by decide +kernel
theorem dX0_cellOf_15 : decode cX0_cellOf 15 = .ok (.iconst 5, 1) := by decide +kernel
theorem dX0_cellOf_16 : decode cX0_cellOf 16 = .ok (.if_icmp .ge 7, 3) := by decide +kernel
theorem dX0_cellOf_19 : decode cX0_cellOf 19 = .ok (.iconst 1, 1) := by decide +kernel
theorem dX0_cellOf_20 : decode cX0_cellOf 20 = .ok (.goto 4, 3) := by decide +kernel
theorem dX0_cellOf_23 : decode cX0_cellOf 23 = .ok (.iconst 0, 1) := by decide +kernel
theorem dX0_cellOf_24 : decode cX0_cellOf 24 = .ok (.istore_n 3, 1) := by decide +kernel
theorem dX0_cellOf_25 : decode cX0_cellOf 25 = .ok (.iload_n 3, 1) := by decide +kernel
theorem dX0_cellOf_26 : decode cX0_cellOf 26 = .ok (.ifCond .eq 11, 3) := by decide +kernel
theorem dX0_cellOf_29 : decode cX0_cellOf 29 = .ok (.iload_n 1, 1) := by decide +kernel
theorem dX0_cellOf_30 : decode cX0_cellOf 30 = .ok (.iconst 5, 1) := by decide +kernel
theorem dX0_cellOf_31 : decode cX0_cellOf 31 = .ok (.imul, 1) := by decide +kernel
theorem dX0_cellOf_32 : decode cX0_cellOf 32 = .ok (.iload_n 2, 1) := by decide +kernel
theorem dX0_cellOf_33 : decode cX0_cellOf 33 = .ok (.iadd, 1) := by decide +kernel
theorem dX0_cellOf_34 : decode cX0_cellOf 34 = .ok (.goto 4, 3) := by decide +kernel
theorem dX0_cellOf_37 : decode cX0_cellOf 37 = .ok (.iconst (-1), 1) := by decide +kernel
theorem dX0_cellOf_38 : decode cX0_cellOf 38 = .ok (.ireturn, 1) := by decide +kernel
theorem dX0_insert_0 : decode cX0_insert 0 = .ok (.aload_n 0, 1) := by decide +kernel
theorem dX0_insert_1 : decode cX0_insert 1 = .ok (.iload_n 1, 1) := by decide +kernel
theorem dX0_insert_2 : decode cX0_insert 2 = .ok (.invokevirtual 41, 3) := by decide +kernel
theorem dX0_insert_5 : decode cX0_insert 5 = .ok (.istore 5, 2) := by decide +kernel
theorem dX0_insert_7 : decode cX0_insert 7 = .ok (.aload_n 0, 1) := by decide +kernel
theorem dX0_insert_8 : decode cX0_insert 8 = .ok (.iload_n 1, 1) := by decide +kernel
theorem dX0_insert_9 : decode cX0_insert 9 = .ok (.invokevirtual 33, 3) := by decide +kernel
theorem dX0_insert_12 : decode cX0_insert 12 = .ok (.ifCond .eq 19, 3) := by decide +kernel
theorem dX0_insert_15 : decode cX0_insert 15 = .ok (.iload 5, 2) := by decide +kernel
theorem dX0_insert_17 : decode cX0_insert 17 = .ok (.iconst 5, 1) := by decide +kernel
theorem dX0_insert_18 : decode cX0_insert 18 = .ok (.if_icmp .ge 13, 3) := by decide +kernel
theorem dX0_insert_21 : decode cX0_insert 21 = .ok (.iload_n 2, 1) := by decide +kernel
theorem dX0_insert_22 : decode cX0_insert 22 = .ok (.ifCond .lt 9, 3) := by decide +kernel
theorem dX0_insert_25 : decode cX0_insert 25 = .ok (.iload_n 2, 1) := by decide +kernel
theorem dX0_insert_26 : decode cX0_insert 26 = .ok (.iload 5, 2) := by decide +kernel
theorem dX0_insert_28 : decode cX0_insert 28 = .ok (.if_icmp .le 4, 3) := by decide +kernel
theorem dX0_insert_31 : decode cX0_insert 31 = .ok (.return_, 1) := by decide +kernel
theorem dX0_insert_32 : decode cX0_insert 32 = .ok (.iload 5, 2) := by decide +kernel
theorem dX0_insert_34 : decode cX0_insert 34 = .ok (.istore 6, 2) := by decide +kernel
theorem dX0_insert_36 : decode cX0_insert 36 = .ok (.iload 6, 2) := by decide +kernel
theorem dX0_insert_38 : decode cX0_insert 38 = .ok (.iload_n 2, 1) := by decide +kernel
theorem dX0_insert_39 : decode cX0_insert 39 = .ok (.if_icmp .le 34, 3) := by decide +kernel
theorem dX0_insert_42 : decode cX0_insert 42 = .ok (.aload_n 0, 1) := by decide +kernel
theorem dX0_insert_43 : decode cX0_insert 43 = .ok (.iload_n 1, 1) := by decide +kernel
theorem dX0_insert_44 : decode cX0_insert 44 = .ok (.iload 6, 2) := by decide +kernel
theorem dX0_insert_46 : decode cX0_insert 46 = .ok (.aload_n 0, 1) := by decide +kernel
theorem dX0_insert_47 : decode cX0_insert 47 = .ok (.iload_n 1, 1) := by decide +kernel
theorem dX0_insert_48 : decode cX0_insert 48 = .ok (.iload 6, 2) := by decide +kernel
theorem dX0_insert_50 : decode cX0_insert 50 = .ok (.iconst 1, 1) := by decide +kernel
theorem dX0_insert_51 : decode cX0_insert 51 = .ok (.isub, 1) := by decide +kernel
theorem dX0_insert_52 : decode cX0_insert 52 = .ok (.invokevirtual 45, 3) := by decide +kernel
theorem dX0_insert_55 : decode cX0_insert 55 = .ok (.aload_n 0, 1) := by decide +kernel
theorem dX0_insert_56 : decode cX0_insert 56 = .ok (.iload_n 1, 1) := by decide +kernel
theorem dX0_insert_57 : decode cX0_insert 57 = .ok (.iload 6, 2) := by decide +kernel
theorem dX0_insert_59 : decode cX0_insert 59 = .ok (.iconst 1, 1) := by decide +kernel
theorem dX0_insert_60 : decode cX0_insert 60 = .ok (.isub, 1) := by decide +kernel
theorem dX0_insert_61 : decode cX0_insert 61 = .ok (.invokevirtual 48, 3) := by decide +kernel
theorem dX0_insert_64 : decode cX0_insert 64 = .ok (.invokevirtual 51, 3) := by decide +kernel
theorem dX0_insert_67 : decode cX0_insert 67 = .ok (.iinc 6 (-1), 3) := by decide +kernel
theorem dX0_insert_70 : decode cX0_insert 70 = .ok (.goto (-34), 3) := by decide +kernel
theorem dX0_insert_73 : decode cX0_insert 73 = .ok (.aload_n 0, 1) := by decide +kernel
theorem dX0_insert_74 : decode cX0_insert 74 = .ok (.iload_n 1, 1) := by decide +kernel
theorem dX0_insert_75 : decode cX0_insert 75 = .ok (.iload_n 2, 1) := by decide +kernel
theorem dX0_insert_76 : decode cX0_insert 76 = .ok (.iload_n 3, 1) := by decide +kernel
theorem dX0_insert_77 : decode cX0_insert 77 = .ok (.iload 4, 2) := by decide +kernel
theorem dX0_insert_79 : decode cX0_insert 79 = .ok (.invokevirtual 51, 3) := by decide +kernel
theorem dX0_insert_82 : decode cX0_insert 82 = .ok (.aload_n 0, 1) := by decide +kernel
theorem dX0_insert_83 : decode cX0_insert 83 = .ok (.getfield 15, 3) := by decide +kernel
theorem dX0_insert_86 : decode cX0_insert 86 = .ok (.iload_n 1, 1) := by decide +kernel
theorem dX0_insert_87 : decode cX0_insert 87 = .ok (.iload 5, 2) := by decide +kernel
theorem dX0_insert_89 : decode cX0_insert 89 = .ok (.iconst 1, 1) := by decide +kernel
theorem dX0_insert_90 : decode cX0_insert 90 = .ok (.iadd, 1) := by decide +kernel
theorem dX0_insert_91 : decode cX0_insert 91 = .ok (.iastore, 1) := by decide +kernel
theorem dX0_insert_92 : decode cX0_insert 92 = .ok (.return_, 1) := by decide +kernel
theorem dX0_delete_0 : decode cX0_delete 0 = .ok (.aload_n 0, 1) := by decide +kernel
theorem dX0_delete_1 : decode cX0_delete 1 = .ok (.iload_n 1, 1) := by decide +kernel
theorem dX0_delete_2 : decode cX0_delete 2 = .ok (.invokevirtual 41, 3) := by decide +kernel
theorem dX0_delete_5 : decode cX0_delete 5 = .ok (.istore_n 3, 1) := by decide +kernel
theorem dX0_delete_6 : decode cX0_delete 6 = .ok (.aload_n 0, 1) := by decide +kernel
theorem dX0_delete_7 : decode cX0_delete 7 = .ok (.iload_n 1, 1) := by decide +kernel
theorem dX0_delete_8 : decode cX0_delete 8 = .ok (.invokevirtual 33, 3) := by decide +kernel
theorem dX0_delete_11 : decode cX0_delete 11 = .ok (.ifCond .eq 12, 3) := by decide +kernel
theorem dX0_delete_14 : decode cX0_delete 14 = .ok (.iload_n 2, 1) := by decide +kernel
theorem dX0_delete_15 : decode cX0_delete 15 = .ok (.ifCond .lt 8, 3) := by decide +kernel
theorem dX0_delete_18 : decode cX0_delete 18 = .ok (.iload_n 2, 1) := by decide +kernel
theorem dX0_delete_19 : decode cX0_delete 19 = .ok (.iload_n 3, 1) := by decide +kernel
theorem dX0_delete_20 : decode cX0_delete 20 = .ok (.if_icmp .lt 4, 3) := by decide +kernel
theorem dX0_delete_23 : decode cX0_delete 23 = .ok (.return_, 1) := by decide +kernel
theorem dX0_delete_24 : decode cX0_delete 24 = .ok (.iload_n 2, 1) := by decide +kernel
theorem dX0_delete_25 : decode cX0_delete 25 = .ok (.istore 4, 2) := by decide +kernel
theorem dX0_delete_27 : decode cX0_delete 27 = .ok (.iload 4, 2) := by decide +kernel
theorem dX0_delete_29 : decode cX0_delete 29 = .ok (.iconst 1, 1) := by decide +kernel
theorem dX0_delete_30 : decode cX0_delete 30 = .ok (.iadd, 1) := by decide +kernel
theorem dX0_delete_31 : decode cX0_delete 31 = .ok (.iload_n 3, 1) := by decide +kernel
theorem dX0_delete_32 : decode cX0_delete 32 = .ok (.if_icmp .ge 34, 3) := by decide +kernel
theorem dX0_delete_35 : decode cX0_delete 35 = .ok (.aload_n 0, 1) := by decide +kernel
theorem dX0_delete_36 : decode cX0_delete 36 = .ok (.iload_n 1, 1) := by decide +kernel
theorem dX0_delete_37 : decode cX0_delete 37 = .ok (.iload 4, 2) := by decide +kernel
theorem dX0_delete_39 : decode cX0_delete 39 = .ok (.aload_n 0, 1) := by decide +kernel
theorem dX0_delete_40 : decode cX0_delete 40 = .ok (.iload_n 1, 1) := by decide +kernel
theorem dX0_delete_41 : decode cX0_delete 41 = .ok (.iload 4, 2) := by decide +kernel
theorem dX0_delete_43 : decode cX0_delete 43 = .ok (.iconst 1, 1) := by decide +kernel
theorem dX0_delete_44 : decode cX0_delete 44 = .ok (.iadd, 1) := by decide +kernel
theorem dX0_delete_45 : decode cX0_delete 45 = .ok (.invokevirtual 45, 3) := by decide +kernel
theorem dX0_delete_48 : decode cX0_delete 48 = .ok (.aload_n 0, 1) := by decide +kernel
theorem dX0_delete_49 : decode cX0_delete 49 = .ok (.iload_n 1, 1) := by decide +kernel
theorem dX0_delete_50 : decode cX0_delete 50 = .ok (.iload 4, 2) := by decide +kernel
theorem dX0_delete_52 : decode cX0_delete 52 = .ok (.iconst 1, 1) := by decide +kernel
theorem dX0_delete_53 : decode cX0_delete 53 = .ok (.iadd, 1) := by decide +kernel
theorem dX0_delete_54 : decode cX0_delete 54 = .ok (.invokevirtual 48, 3) := by decide +kernel
theorem dX0_delete_57 : decode cX0_delete 57 = .ok (.invokevirtual 51, 3) := by decide +kernel
theorem dX0_delete_60 : decode cX0_delete 60 = .ok (.iinc 4 1, 3) := by decide +kernel
theorem dX0_delete_63 : decode cX0_delete 63 = .ok (.goto (-36), 3) := by decide +kernel
theorem dX0_delete_66 : decode cX0_delete 66 = .ok (.aload_n 0, 1) := by decide +kernel
theorem dX0_delete_67 : decode cX0_delete 67 = .ok (.getfield 15, 3) := by decide +kernel
theorem dX0_delete_70 : decode cX0_delete 70 = .ok (.iload_n 1, 1) := by decide +kernel
theorem dX0_delete_71 : decode cX0_delete 71 = .ok (.iload_n 3, 1) := by decide +kernel
theorem dX0_delete_72 : decode cX0_delete 72 = .ok (.iconst 1, 1) := by decide +kernel
theorem dX0_delete_73 : decode cX0_delete 73 = .ok (.isub, 1) := by decide +kernel
theorem dX0_delete_74 : decode cX0_delete 74 = .ok (.iastore, 1) := by decide +kernel
theorem dX0_delete_75 : decode cX0_delete 75 = .ok (.return_, 1) := by decide +kernel
theorem dX0_moveItems_0 : decode cX0_moveItems 0 = .ok (.aload_n 0, 1) := by decide +kernel
theorem dX0_moveItems_1 : decode cX0_moveItems 1 = .ok (.iload_n 1, 1) := by decide +kernel
theorem dX0_moveItems_2 : decode cX0_moveItems 2 = .ok (.invokevirtual 41, 3) := by decide +kernel
theorem dX0_moveItems_5 : decode cX0_moveItems 5 = .ok (.istore 4, 2) := by decide +kernel
theorem dX0_moveItems_7 : decode cX0_moveItems 7 = .ok (.aload_n 0, 1) := by decide +kernel
theorem dX0_moveItems_8 : decode cX0_moveItems 8 = .ok (.iload_n 3, 1) := by decide +kernel
theorem dX0_moveItems_9 : decode cX0_moveItems 9 = .ok (.invokevirtual 41, 3) := by decide +kernel
theorem dX0_moveItems_12 : decode cX0_moveItems 12 = .ok (.istore 5, 2) := by decide +kernel
theorem dX0_moveItems_14 : decode cX0_moveItems 14 = .ok (.aload_n 0, 1) := by decide +kernel
theorem dX0_moveItems_15 : decode cX0_moveItems 15 = .ok (.iload_n 1, 1) := by decide +kernel
theorem dX0_moveItems_16 : decode cX0_moveItems 16 = .ok (.invokevirtual 33, 3) := by decide +kernel
theorem dX0_moveItems_19 : decode cX0_moveItems 19 = .ok (.ifCond .eq 32, 3) := by decide +kernel
theorem dX0_moveItems_22 : decode cX0_moveItems 22 = .ok (.aload_n 0, 1) := by decide +kernel
theorem dX0_moveItems_23 : decode cX0_moveItems 23 = .ok (.iload_n 3, 1) := by decide +kernel
theorem dX0_moveItems_24 : decode cX0_moveItems 24 = .ok (.invokevirtual 33, 3) := by decide +kernel
theorem dX0_moveItems_27 : decode cX0_moveItems 27 = .ok (.ifCond .eq 24, 3) := by decide +kernel
theorem dX0_moveItems_30 : decode cX0_moveItems 30 = .ok (.iload_n 2, 1) := by decide +kernel
theorem dX0_moveItems_31 : decode cX0_moveItems 31 = .ok (.ifCond .lt 20, 3) := by decide +kernel
theorem dX0_moveItems_34 : decode cX0_moveItems 34 = .ok (.iload_n 2, 1) := by decide +kernel
theorem dX0_moveItems_35 : decode cX0_moveItems 35 = .ok (.iload 4, 2) := by decide +kernel
theorem dX0_moveItems_37 : decode cX0_moveItems 37 = .ok (.if_icmp .gt 14, 3) := by decide +kernel
theorem dX0_moveItems_40 : decode cX0_moveItems 40 = .ok (.iload 5, 2) := by decide +kernel
theorem dX0_moveItems_42 : decode cX0_moveItems 42 = .ok (.iload 4, 2) := by decide +kernel
theorem dX0_moveItems_44 : decode cX0_moveItems 44 = .ok (.iadd, 1) := by decide +kernel
theorem dX0_moveItems_45 : decode cX0_moveItems 45 = .ok (.iload_n 2, 1) := by decide +kernel
theorem dX0_moveItems_46 : decode cX0_moveItems 46 = .ok (.isub, 1) := by decide +kernel
theorem dX0_moveItems_47 : decode cX0_moveItems 47 = .ok (.iconst 5, 1) := by decide +kernel
theorem dX0_moveItems_48 : decode cX0_moveItems 48 = .ok (.if_icmp .le 4, 3) := by decide +kernel
theorem dX0_moveItems_51 : decode cX0_moveItems 51 = .ok (.return_, 1) := by decide +kernel
theorem dX0_moveItems_52 : decode cX0_moveItems 52 = .ok (.iload_n 2, 1) := by decide +kernel
theorem dX0_moveItems_53 : decode cX0_moveItems 53 = .ok (.istore 6, 2) := by decide +kernel
theorem dX0_moveItems_55 : decode cX0_moveItems 55 = .ok (.iload 6, 2) := by decide +kernel
theorem dX0_moveItems_57 : decode cX0_moveItems 57 = .ok (.iload 4, 2) := by decide +kernel
theorem dX0_moveItems_59 : decode cX0_moveItems 59 = .ok (.if_icmp .ge 35, 3) := by decide +kernel
theorem dX0_moveItems_62 : decode cX0_moveItems 62 = .ok (.aload_n 0, 1) := by decide +kernel
theorem dX0_moveItems_63 : decode cX0_moveItems 63 = .ok (.iload_n 3, 1) := by decide +kernel
theorem dX0_moveItems_64 : decode cX0_moveItems 64 = .ok (.iload 5, 2) := by decide +kernel
theorem dX0_moveItems_66 : decode cX0_moveItems 66 = .ok (.iload 6, 2) := by decide +kernel
theorem dX0_moveItems_68 : decode cX0_moveItems 68 = .ok (.iadd, 1) := by decide +kernel
theorem dX0_moveItems_69 : decode cX0_moveItems 69 = .ok (.iload_n 2, 1) := by decide +kernel
theorem dX0_moveItems_70 : decode cX0_moveItems 70 = .ok (.isub, 1) := by decide +kernel
theorem dX0_moveItems_71 : decode cX0_moveItems 71 = .ok (.aload_n 0, 1) := by decide +kernel
theorem dX0_moveItems_72 : decode cX0_moveItems 72 = .ok (.iload_n 1, 1) := by decide +kernel
theorem dX0_moveItems_73 : decode cX0_moveItems 73 = .ok (.iload 6, 2) := by decide +kernel
theorem dX0_moveItems_75 : decode cX0_moveItems 75 = .ok (.invokevirtual 45, 3) := by decide +kernel
theorem dX0_moveItems_78 : decode cX0_moveItems 78 = .ok (.aload_n 0, 1) := by decide +kernel
theorem dX0_moveItems_79 : decode cX0_moveItems 79 = .ok (.iload_n 1, 1) := by decide +kernel
theorem dX0_moveItems_80 : decode cX0_moveItems 80 = .ok (.iload 6, 2) := by decide +kernel
theorem dX0_moveItems_82 : decode cX0_moveItems 82 = .ok (.invokevirtual 48, 3) := by decide +kernel
theorem dX0_moveItems_85 : decode cX0_moveItems 85 = .ok (.invokevirtual 51, 3) := by decide +kernel
theorem dX0_moveItems_88 : decode cX0_moveItems 88 = .ok (.iinc 6 1, 3) := by decide +kernel
theorem dX0_moveItems_91 : decode cX0_moveItems 91 = .ok (.goto (-36), 3) := by decide +kernel
theorem dX0_moveItems_94 : decode cX0_moveItems 94 = .ok (.aload_n 0, 1) := by decide +kernel
theorem dX0_moveItems_95 : decode cX0_moveItems 95 = .ok (.getfield 15, 3) := by decide +kernel
theorem dX0_moveItems_98 : decode cX0_moveItems 98 = .ok (.iload_n 1, 1) := by decide +kernel
theorem dX0_moveItems_99 : decode cX0_moveItems 99 = .ok (.iload_n 2, 1) := by decide +kernel
theorem dX0_moveItems_100 : decode cX0_moveItems 100 = .ok (.iastore, 1) := by decide +kernel
theorem dX0_moveItems_101 : decode cX0_moveItems 101 = .ok (.aload_n 0, 1) := by decide +kernel
theorem dX0_moveItems_102 : decode cX0_moveItems 102 = .ok (.getfield 15, 3) := by decide +kernel
theorem dX0_moveItems_105 : decode cX0_moveItems 105 = .ok (.iload_n 3, 1) := by decide +kernel
theorem dX0_moveItems_106 : decode cX0_moveItems 106 = .ok (.iload 5, 2) := by decide +kernel
theorem dX0_moveItems_108 : decode cX0_moveItems 108 = .ok (.iload 4, 2) := by decide +kernel
theorem dX0_moveItems_110 : decode cX0_moveItems 110 = .ok (.iadd, 1) := by decide +kernel
theorem dX0_moveItems_111 : decode cX0_moveItems 111 = .ok (.iload_n 2, 1) := by decide +kernel
theorem dX0_moveItems_112 : decode cX0_moveItems 112 = .ok (.isub, 1) := by decide +kernel
theorem dX0_moveItems_113 : decode cX0_moveItems 113 = .ok (.iastore, 1) := by decide +kernel
theorem dX0_moveItems_114 : decode cX0_moveItems 114 = .ok (.return_, 1) := by decide +kernel
theorem dX0_allot_0 : decode cX0_allot 0 = .ok (.aload_n 0, 1) := by decide +kernel
theorem dX0_allot_1 : decode cX0_allot 1 = .ok (.iload_n 1, 1) := by decide +kernel
theorem dX0_allot_2 : decode cX0_allot 2 = .ok (.invokevirtual 33, 3) := by decide +kernel
theorem dX0_allot_5 : decode cX0_allot 5 = .ok (.ifCond .eq 24, 3) := by decide +kernel
theorem dX0_allot_8 : decode cX0_allot 8 = .ok (.aload_n 0, 1) := by decide +kernel
theorem dX0_allot_9 : decode cX0_allot 9 = .ok (.getfield 9, 3) := by decide +kernel
theorem dX0_allot_12 : decode cX0_allot 12 = .ok (.iload_n 1, 1) := by decide +kernel
theorem dX0_allot_13 : decode cX0_allot 13 = .ok (.iload_n 2, 1) := by decide +kernel
theorem dX0_allot_14 : decode cX0_allot 14 = .ok (.iastore, 1) := by decide +kernel
theorem dX0_allot_15 : decode cX0_allot 15 = .ok (.aload_n 0, 1) := by decide +kernel
theorem dX0_allot_16 : decode cX0_allot 16 = .ok (.getfield 15, 3) := by decide +kernel
theorem dX0_allot_19 : decode cX0_allot 19 = .ok (.iload_n 1, 1) := by decide +kernel
theorem dX0_allot_20 : decode cX0_allot 20 = .ok (.iconst 0, 1) := by decide +kernel
theorem dX0_allot_21 : decode cX0_allot 21 = .ok (.iastore, 1) := by decide +kernel
theorem dX0_allot_22 : decode cX0_allot 22 = .ok (.aload_n 0, 1) := by decide +kernel
theorem dX0_allot_23 : decode cX0_allot 23 = .ok (.getfield 18, 3) := by decide +kernel
theorem dX0_allot_26 : decode cX0_allot 26 = .ok (.iload_n 1, 1) := by decide +kernel
theorem dX0_allot_27 : decode cX0_allot 27 = .ok (.iconst (-1), 1) := by decide +kernel
theorem dX0_allot_28 : decode cX0_allot 28 = .ok (.iastore, 1) := by decide +kernel
theorem dX0_allot_29 : decode cX0_allot 29 = .ok (.return_, 1) := by decide +kernel
theorem dX0_leastFree_0 : decode cX0_leastFree 0 = .ok (.iconst 0, 1) := by decide +kernel
theorem dX0_leastFree_1 : decode cX0_leastFree 1 = .ok (.istore_n 1, 1) := by decide +kernel
theorem dX0_leastFree_2 : decode cX0_leastFree 2 = .ok (.iload_n 1, 1) := by decide +kernel
theorem dX0_leastFree_3 : decode cX0_leastFree 3 = .ok (.bipush 40, 2) := by decide +kernel
theorem dX0_leastFree_5 : decode cX0_leastFree 5 = .ok (.if_icmp .ge 19, 3) := by decide +kernel
theorem dX0_leastFree_8 : decode cX0_leastFree 8 = .ok (.aload_n 0, 1) := by decide +kernel
theorem dX0_leastFree_9 : decode cX0_leastFree 9 = .ok (.iload_n 1, 1) := by decide +kernel
theorem dX0_leastFree_10 : decode cX0_leastFree 10 = .ok (.invokevirtual 55, 3) := by decide +kernel
theorem dX0_leastFree_13 : decode cX0_leastFree 13 = .ok (.ifCond .ne 5, 3) := by decide +kernel
theorem dX0_leastFree_16 : decode cX0_leastFree 16 = .ok (.iload_n 1, 1) := by decide +kernel
theorem dX0_leastFree_17 : decode cX0_leastFree 17 = .ok (.ireturn, 1) := by decide +kernel
theorem dX0_leastFree_18 : decode cX0_leastFree 18 = .ok (.iinc 1 1, 3) := by decide +kernel
theorem dX0_leastFree_21 : decode cX0_leastFree 21 = .ok (.goto (-19), 3) := by decide +kernel
theorem dX0_leastFree_24 : decode cX0_leastFree 24 = .ok (.iconst (-1), 1) := by decide +kernel
theorem dX0_leastFree_25 : decode cX0_leastFree 25 = .ok (.ireturn, 1) := by decide +kernel
theorem dX0_countFree_0 : decode cX0_countFree 0 = .ok (.iconst 0, 1) := by decide +kernel
theorem dX0_countFree_1 : decode cX0_countFree 1 = .ok (.istore_n 1, 1) := by decide +kernel
theorem dX0_countFree_2 : decode cX0_countFree 2 = .ok (.iconst 0, 1) := by decide +kernel
theorem dX0_countFree_3 : decode cX0_countFree 3 = .ok (.istore_n 2, 1) := by decide +kernel
theorem dX0_countFree_4 : decode cX0_countFree 4 = .ok (.iload_n 2, 1) := by decide +kernel
theorem dX0_countFree_5 : decode cX0_countFree 5 = .ok (.bipush 40, 2) := by decide +kernel
theorem dX0_countFree_7 : decode cX0_countFree 7 = .ok (.if_icmp .ge 20, 3) := by decide +kernel
theorem dX0_countFree_10 : decode cX0_countFree 10 = .ok (.aload_n 0, 1) := by decide +kernel
theorem dX0_countFree_11 : decode cX0_countFree 11 = .ok (.iload_n 2, 1) := by decide +kernel
theorem dX0_countFree_12 : decode cX0_countFree 12 = .ok (.invokevirtual 55, 3) := by decide +kernel
theorem dX0_countFree_15 : decode cX0_countFree 15 = .ok (.ifCond .ne 6, 3) := by decide +kernel
theorem dX0_countFree_18 : decode cX0_countFree 18 = .ok (.iinc 1 1, 3) := by decide +kernel
theorem dX0_countFree_21 : decode cX0_countFree 21 = .ok (.iinc 2 1, 3) := by decide +kernel
theorem dX0_countFree_24 : decode cX0_countFree 24 = .ok (.goto (-20), 3) := by decide +kernel
theorem dX0_countFree_27 : decode cX0_countFree 27 = .ok (.iload_n 1, 1) := by decide +kernel
theorem dX0_countFree_28 : decode cX0_countFree 28 = .ok (.ireturn, 1) := by decide +kernel
theorem dX0_placeOf_0 : decode cX0_placeOf 0 = .ok (.aload_n 0, 1) := by decide +kernel
theorem dX0_placeOf_1 : decode cX0_placeOf 1 = .ok (.iload_n 1, 1) := by decide +kernel
theorem dX0_placeOf_2 : decode cX0_placeOf 2 = .ok (.invokevirtual 41, 3) := by decide +kernel
theorem dX0_placeOf_5 : decode cX0_placeOf 5 = .ok (.istore_n 3, 1) := by decide +kernel
theorem dX0_placeOf_6 : decode cX0_placeOf 6 = .ok (.iconst 0, 1) := by decide +kernel
theorem dX0_placeOf_7 : decode cX0_placeOf 7 = .ok (.istore 4, 2) := by decide +kernel
theorem dX0_placeOf_9 : decode cX0_placeOf 9 = .ok (.iload 4, 2) := by decide +kernel
theorem dX0_placeOf_11 : decode cX0_placeOf 11 = .ok (.iload_n 3, 1) := by decide +kernel
theorem dX0_placeOf_12 : decode cX0_placeOf 12 = .ok (.if_icmp .ge 23, 3) := by decide +kernel
theorem dX0_placeOf_15 : decode cX0_placeOf 15 = .ok (.aload_n 0, 1) := by decide +kernel
theorem dX0_placeOf_16 : decode cX0_placeOf 16 = .ok (.iload_n 1, 1) := by decide +kernel
theorem dX0_placeOf_17 : decode cX0_placeOf 17 = .ok (.iload 4, 2) := by decide +kernel
theorem dX0_placeOf_19 : decode cX0_placeOf 19 = .ok (.invokevirtual 45, 3) := by decide +kernel
theorem dX0_placeOf_22 : decode cX0_placeOf 22 = .ok (.iload_n 2, 1) := by decide +kernel
theorem dX0_placeOf_23 : decode cX0_placeOf 23 = .ok (.if_icmp .lt 6, 3) := by decide +kernel
theorem dX0_placeOf_26 : decode cX0_placeOf 26 = .ok (.iload 4, 2) := by decide +kernel
theorem dX0_placeOf_28 : decode cX0_placeOf 28 = .ok (.ireturn, 1) := by decide +kernel
theorem dX0_placeOf_29 : decode cX0_placeOf 29 = .ok (.iinc 4 1, 3) := by decide +kernel
theorem dX0_placeOf_32 : decode cX0_placeOf 32 = .ok (.goto (-23), 3) := by decide +kernel
theorem dX0_placeOf_35 : decode cX0_placeOf 35 = .ok (.iload_n 3, 1) := by decide +kernel
theorem dX0_placeOf_36 : decode cX0_placeOf 36 = .ok (.ireturn, 1) := by decide +kernel
theorem dX0_hasKey_0 : decode cX0_hasKey 0 = .ok (.iload_n 2, 1) := by decide +kernel
theorem dX0_hasKey_1 : decode cX0_hasKey 1 = .ok (.aload_n 0, 1) := by decide +kernel
theorem dX0_hasKey_2 : decode cX0_hasKey 2 = .ok (.iload_n 1, 1) := by decide +kernel
theorem dX0_hasKey_3 : decode cX0_hasKey 3 = .ok (.invokevirtual 41, 3) := by decide +kernel
theorem dX0_hasKey_6 : decode cX0_hasKey 6 = .ok (.if_icmp .ge 17, 3) := by decide +kernel
theorem dX0_hasKey_9 : decode cX0_hasKey 9 = .ok (.aload_n 0, 1) := by decide +kernel
theorem dX0_hasKey_10 : decode cX0_hasKey 10 = .ok (.iload_n 1, 1) := by decide +kernel
theorem dX0_hasKey_11 : decode cX0_hasKey 11 = .ok (.iload_n 2, 1) := by decide +kernel
theorem dX0_hasKey_12 : decode cX0_hasKey 12 = .ok (.invokevirtual 45, 3) := by decide +kernel
theorem dX0_hasKey_15 : decode cX0_hasKey 15 = .ok (.iload_n 3, 1) := by decide +kernel
theorem dX0_hasKey_16 : decode cX0_hasKey 16 = .ok (.if_icmp .ne 7, 3) := by decide +kernel
theorem dX0_hasKey_19 : decode cX0_hasKey 19 = .ok (.iconst 1, 1) := by decide +kernel
theorem dX0_hasKey_20 : decode cX0_hasKey 20 = .ok (.goto 4, 3) := by decide +kernel
theorem dX0_hasKey_23 : decode cX0_hasKey 23 = .ok (.iconst 0, 1) := by decide +kernel
theorem dX0_hasKey_24 : decode cX0_hasKey 24 = .ok (.ireturn, 1) := by decide +kernel
theorem dX0_childPlaceFor_0 : decode cX0_childPlaceFor 0 = .ok (.aload_n 0, 1) := by decide +kernel
theorem dX0_childPlaceFor_1 : decode cX0_childPlaceFor 1 = .ok (.iload_n 1, 1) := by decide +kernel
theorem dX0_childPlaceFor_2 : decode cX0_childPlaceFor 2 = .ok (.invokevirtual 41, 3) := by decide +kernel
theorem dX0_childPlaceFor_5 : decode cX0_childPlaceFor 5 = .ok (.iconst 1, 1) := by decide +kernel
theorem dX0_childPlaceFor_6 : decode cX0_childPlaceFor 6 = .ok (.isub, 1) := by decide +kernel
theorem dX0_childPlaceFor_7 : decode cX0_childPlaceFor 7 = .ok (.istore_n 3, 1) := by decide +kernel
theorem dX0_childPlaceFor_8 : decode cX0_childPlaceFor 8 = .ok (.iload_n 3, 1) := by decide +kernel
theorem dX0_childPlaceFor_9 : decode cX0_childPlaceFor 9 = .ok (.ifCond .le 21, 3) := by decide +kernel
theorem dX0_childPlaceFor_12 : decode cX0_childPlaceFor 12 = .ok (.aload_n 0, 1) := by decide +kernel
theorem dX0_childPlaceFor_13 : decode cX0_childPlaceFor 13 = .ok (.iload_n 1, 1) := by decide +kernel
theorem dX0_childPlaceFor_14 : decode cX0_childPlaceFor 14 = .ok (.iload_n 3, 1) := by decide +kernel
theorem dX0_childPlaceFor_15 : decode cX0_childPlaceFor 15 = .ok (.invokevirtual 45, 3) := by decide +kernel
theorem dX0_childPlaceFor_18 : decode cX0_childPlaceFor 18 = .ok (.iload_n 2, 1) := by decide +kernel
theorem dX0_childPlaceFor_19 : decode cX0_childPlaceFor 19 = .ok (.if_icmp .gt 5, 3) := by decide +kernel
theorem dX0_childPlaceFor_22 : decode cX0_childPlaceFor 22 = .ok (.iload_n 3, 1) := by decide +kernel
theorem dX0_childPlaceFor_23 : decode cX0_childPlaceFor 23 = .ok (.ireturn, 1) := by decide +kernel
theorem dX0_childPlaceFor_24 : decode cX0_childPlaceFor 24 = .ok (.iinc 3 (-1), 3) := by decide +kernel
theorem dX0_childPlaceFor_27 : decode cX0_childPlaceFor 27 = .ok (.goto (-19), 3) := by decide +kernel
theorem dX0_childPlaceFor_30 : decode cX0_childPlaceFor 30 = .ok (.iconst 0, 1) := by decide +kernel
theorem dX0_childPlaceFor_31 : decode cX0_childPlaceFor 31 = .ok (.ireturn, 1) := by decide +kernel
theorem dX0_countLevels_0 : decode cX0_countLevels 0 = .ok (.iload_n 1, 1) := by decide +kernel
theorem dX0_countLevels_1 : decode cX0_countLevels 1 = .ok (.istore_n 2, 1) := by decide +kernel
theorem dX0_countLevels_2 : decode cX0_countLevels 2 = .ok (.iconst 1, 1) := by decide +kernel
theorem dX0_countLevels_3 : decode cX0_countLevels 3 = .ok (.istore_n 3, 1) := by decide +kernel
theorem dX0_countLevels_4 : decode cX0_countLevels 4 = .ok (.iload_n 3, 1) := by decide +kernel
theorem dX0_countLevels_5 : decode cX0_countLevels 5 = .ok (.bipush 6, 2) := by decide +kernel
theorem dX0_countLevels_7 : decode cX0_countLevels 7 = .ok (.if_icmp .ge 25, 3) := by decide +kernel
theorem dX0_countLevels_10 : decode cX0_countLevels 10 = .ok (.aload_n 0, 1) := by decide +kernel
theorem dX0_countLevels_11 : decode cX0_countLevels 11 = .ok (.iload_n 2, 1) := by decide +kernel
theorem dX0_countLevels_12 : decode cX0_countLevels 12 = .ok (.invokevirtual 55, 3) := by decide +kernel
theorem dX0_countLevels_15 : decode cX0_countLevels 15 = .ok (.iconst 2, 1) := by decide +kernel
theorem dX0_countLevels_16 : decode cX0_countLevels 16 = .ok (.if_icmp .ne 16, 3) := by decide +kernel
theorem dX0_countLevels_19 : decode cX0_countLevels 19 = .ok (.aload_n 0, 1) := by decide +kernel
theorem dX0_countLevels_20 : decode cX0_countLevels 20 = .ok (.iload_n 2, 1) := by decide +kernel
theorem dX0_countLevels_21 : decode cX0_countLevels 21 = .ok (.iconst 0, 1) := by decide +kernel
theorem dX0_countLevels_22 : decode cX0_countLevels 22 = .ok (.invokevirtual 48, 3) := by decide +kernel
theorem dX0_countLevels_25 : decode cX0_countLevels 25 = .ok (.istore_n 2, 1) := by decide +kernel
theorem dX0_countLevels_26 : decode cX0_countLevels 26 = .ok (.iinc 3 1, 3) := by decide +kernel
theorem dX0_countLevels_29 : decode cX0_countLevels 29 = .ok (.goto (-25), 3) := by decide +kernel
theorem dX0_countLevels_32 : decode cX0_countLevels 32 = .ok (.iload_n 3, 1) := by decide +kernel
theorem dX0_countLevels_33 : decode cX0_countLevels 33 = .ok (.ireturn, 1) := by decide +kernel
theorem dX1_init_0 : decode cX1_init 0 = .ok (.aload_n 0, 1) := by decide +kernel
theorem dX1_init_1 : decode cX1_init 1 = .ok (.invokespecial 3, 3) := by decide +kernel
theorem dX1_init_4 : decode cX1_init 4 = .ok (.aload_n 0, 1) := by decide +kernel
theorem dX1_init_5 : decode cX1_init 5 = .ok (.bipush 12, 2) := by decide +kernel
theorem dX1_init_7 : decode cX1_init 7 = .ok (.newarray .int, 2) := by decide +kernel
theorem dX1_init_9 : decode cX1_init 9 = .ok (.putfield 9, 3) := by decide +kernel
theorem dX1_init_12 : decode cX1_init 12 = .ok (.aload_n 0, 1) := by decide +kernel
theorem dX1_init_13 : decode cX1_init 13 = .ok (.bipush 12, 2) := by decide +kernel
theorem dX1_init_15 : decode cX1_init 15 = .ok (.newarray .boolean, 2) := by decide +kernel
theorem dX1_init_17 : decode cX1_init 17 = .ok (.putfield 15, 3) := by decide +kernel
theorem dX1_init_20 : decode cX1_init 20 = .ok (.aload_n 0, 1) := by decide +kernel
theorem dX1_init_21 : decode cX1_init 21 = .ok (.bipush 12, 2) := by decide +kernel
theorem dX1_init_23 : decode cX1_init 23 = .ok (.newarray .boolean, 2) := by decide +kernel
theorem dX1_init_25 : decode cX1_init 25 = .ok (.putfield 19, 3) := by decide +kernel
theorem dX1_init_28 : decode cX1_init 28 = .ok (.aload_n 0, 1) := by decide +kernel
theorem dX1_init_29 : decode cX1_init 29 = .ok (.bipush 12, 2) := by decide +kernel
theorem dX1_init_31 : decode cX1_init 31 = .ok (.newarray .boolean, 2) := by decide +kernel
theorem dX1_init_33 : decode cX1_init 33 = .ok (.putfield 22, 3) := by decide +kernel
theorem dX1_init_36 : decode cX1_init 36 = .ok (.aload_n 0, 1) := by decide +kernel
theorem dX1_init_37 : decode cX1_init 37 = .ok (.getfield 9, 3) := by decide +kernel
theorem dX1_init_40 : decode cX1_init 40 = .ok (.iconst (-1), 1) := by decide +kernel
theorem dX1_init_41 : decode cX1_init 41 = .ok (.invokestatic 25, 3) := by decide +kernel
theorem dX1_init_44 : decode cX1_init 44 = .ok (.return_, 1) := by decide +kernel
theorem dX1_isFrame_0 : decode cX1_isFrame 0 = .ok (.iload_n 1, 1) := by decide +kernel
theorem dX1_isFrame_1 : decode cX1_isFrame 1 = .ok (.ifCond .lt 13, 3) := by decide +kernel
theorem dX1_isFrame_4 : decode cX1_isFrame 4 = .ok (.iload_n 1, 1) := by decide +kernel
theorem dX1_isFrame_5 : decode cX1_isFrame 5 = .ok (.bipush 12, 2) := by decide +kernel
theorem dX1_isFrame_7 : decode cX1_isFrame 7 = .ok (.if_icmp .ge 7, 3) := by decide +kernel
theorem dX1_isFrame_10 : decode cX1_isFrame 10 = .ok (.iconst 1, 1) := by decide +kernel
theorem dX1_isFrame_11 : decode cX1_isFrame 11 = .ok (.goto 4, 3) := by decide +kernel
theorem dX1_isFrame_14 : decode cX1_isFrame 14 = .ok (.iconst 0, 1) := by decide +kernel
theorem dX1_isFrame_15 : decode cX1_isFrame 15 = .ok (.ireturn, 1) := by decide +kernel
theorem dX1_pageIn_0 : decode cX1_pageIn 0 = .ok (.aload_n 0, 1) := by decide +kernel
theorem dX1_pageIn_1 : decode cX1_pageIn 1 = .ok (.iload_n 1, 1) := by decide +kernel
theorem dX1_pageIn_2 : decode cX1_pageIn 2 = .ok (.invokevirtual 31, 3) := by decide +kernel
theorem dX1_pageIn_5 : decode cX1_pageIn 5 = .ok (.ifCond .eq 12, 3) := by decide +kernel
theorem dX1_pageIn_8 : decode cX1_pageIn 8 = .ok (.aload_n 0, 1) := by decide +kernel
theorem dX1_pageIn_9 : decode cX1_pageIn 9 = .ok (.getfield 9, 3) := by decide +kernel
theorem dX1_pageIn_12 : decode cX1_pageIn 12 = .ok (.iload_n 1, 1) := by decide +kernel
theorem dX1_pageIn_13 : decode cX1_pageIn 13 = .ok (.iaload, 1) := by decide +kernel
theorem dX1_pageIn_14 : decode cX1_pageIn 14 = .ok (.goto 4, 3) := by decide +kernel
theorem dX1_pageIn_17 : decode cX1_pageIn 17 = .ok (.iconst (-1), 1) := by decide +kernel
theorem dX1_pageIn_18 : decode cX1_pageIn 18 = .ok (.ireturn, 1) := by decide +kernel
theorem dX1_isUsed_0 : decode cX1_isUsed 0 = .ok (.aload_n 0, 1) := by decide +kernel
theorem dX1_isUsed_1 : decode cX1_isUsed 1 = .ok (.iload_n 1, 1) := by decide +kernel
theorem dX1_isUsed_2 : decode cX1_isUsed 2 = .ok (.invokevirtual 31, 3) := by decide +kernel
theorem dX1_isUsed_5 : decode cX1_isUsed 5 = .ok (.ifCond .eq 16, 3) := by decide +kernel
theorem dX1_isUsed_8 : decode cX1_isUsed 8 = .ok (.aload_n 0, 1) := by decide +kernel
theorem dX1_isUsed_9 : decode cX1_isUsed 9 = .ok (.getfield 15, 3) := by decide +kernel
theorem dX1_isUsed_12 : decode cX1_isUsed 12 = .ok (.iload_n 1, 1) := by decide +kernel
theorem dX1_isUsed_13 : decode cX1_isUsed 13 = .ok (.baload, 1) := by decide +kernel
theorem dX1_isUsed_14 : decode cX1_isUsed 14 = .ok (.ifCond .eq 7, 3) := by decide +kernel
theorem dX1_isUsed_17 : decode cX1_isUsed 17 = .ok (.iconst 1, 1) := by decide +kernel
theorem dX1_isUsed_18 : decode cX1_isUsed 18 = .ok (.goto 4, 3) := by decide +kernel
theorem dX1_isUsed_21 : decode cX1_isUsed 21 = .ok (.iconst 0, 1) := by decide +kernel
theorem dX1_isUsed_22 : decode cX1_isUsed 22 = .ok (.ireturn, 1) := by decide +kernel
theorem dX1_isDirty_0 : decode cX1_isDirty 0 = .ok (.aload_n 0, 1) := by decide +kernel
theorem dX1_isDirty_1 : decode cX1_isDirty 1 = .ok (.iload_n 1, 1) := by decide +kernel
theorem dX1_isDirty_2 : decode cX1_isDirty 2 = .ok (.invokevirtual 31, 3) := by decide +kernel
theorem dX1_isDirty_5 : decode cX1_isDirty 5 = .ok (.ifCond .eq 16, 3) := by decide +kernel
theorem dX1_isDirty_8 : decode cX1_isDirty 8 = .ok (.aload_n 0, 1) := by decide +kernel
theorem dX1_isDirty_9 : decode cX1_isDirty 9 = .ok (.getfield 19, 3) := by decide +kernel
theorem dX1_isDirty_12 : decode cX1_isDirty 12 = .ok (.iload_n 1, 1) := by decide +kernel
theorem dX1_isDirty_13 : decode cX1_isDirty 13 = .ok (.baload, 1) := by decide +kernel
theorem dX1_isDirty_14 : decode cX1_isDirty 14 = .ok (.ifCond .eq 7, 3) := by decide +kernel
theorem dX1_isDirty_17 : decode cX1_isDirty 17 = .ok (.iconst 1, 1) := by decide +kernel
theorem dX1_isDirty_18 : decode cX1_isDirty 18 = .ok (.goto 4, 3) := by decide +kernel
theorem dX1_isDirty_21 : decode cX1_isDirty 21 = .ok (.iconst 0, 1) := by decide +kernel
theorem dX1_isDirty_22 : decode cX1_isDirty 22 = .ok (.ireturn, 1) := by decide +kernel
theorem dX1_hits_0 : decode cX1_hits 0 = .ok (.aload_n 0, 1) := by decide +kernel
theorem dX1_hits_1 : decode cX1_hits 1 = .ok (.getfield 35, 3) := by decide +kernel
theorem dX1_hits_4 : decode cX1_hits 4 = .ok (.ireturn, 1) := by decide +kernel
theorem dX1_pagesRead_0 : decode cX1_pagesRead 0 = .ok (.aload_n 0, 1) := by decide +kernel
theorem dX1_pagesRead_1 : decode cX1_pagesRead 1 = .ok (.getfield 39, 3) := by decide +kernel
theorem dX1_pagesRead_4 : decode cX1_pagesRead 4 = .ok (.ireturn, 1) := by decide +kernel
theorem dX1_pagesWritten_0 : decode cX1_pagesWritten 0 = .ok (.aload_n 0, 1) := by decide +kernel
theorem dX1_pagesWritten_1 : decode cX1_pagesWritten 1 = .ok (.getfield 42, 3) := by decide +kernel
theorem dX1_pagesWritten_4 : decode cX1_pagesWritten 4 = .ok (.ireturn, 1) := by decide +kernel
theorem dX1_handPlace_0 : decode cX1_handPlace 0 = .ok (.aload_n 0, 1) := by decide +kernel
theorem dX1_handPlace_1 : decode cX1_handPlace 1 = .ok (.getfield 45, 3) := by decide +kernel
theorem dX1_handPlace_4 : decode cX1_handPlace 4 = .ok (.ireturn, 1) := by decide +kernel
theorem dX1_frameOf_0 : decode cX1_frameOf 0 = .ok (.iconst 0, 1) := by decide +kernel
theorem dX1_frameOf_1 : decode cX1_frameOf 1 = .ok (.istore_n 2, 1) := by decide +kernel
theorem dX1_frameOf_2 : decode cX1_frameOf 2 = .ok (.iload_n 2, 1) := by decide +kernel
theorem dX1_frameOf_3 : decode cX1_frameOf 3 = .ok (.bipush 12, 2) := by decide +kernel
theorem dX1_frameOf_5 : decode cX1_frameOf 5 = .ok (.if_icmp .ge 26, 3) := by decide +kernel
theorem dX1_frameOf_8 : decode cX1_frameOf 8 = .ok (.iload_n 1, 1) := by decide +kernel
theorem dX1_frameOf_9 : decode cX1_frameOf 9 = .ok (.iconst (-1), 1) := by decide +kernel
theorem dX1_frameOf_10 : decode cX1_frameOf 10 = .ok (.if_icmp .eq 15, 3) := by decide +kernel
theorem dX1_frameOf_13 : decode cX1_frameOf 13 = .ok (.aload_n 0, 1) := by decide +kernel
theorem dX1_frameOf_14 : decode cX1_frameOf 14 = .ok (.getfield 9, 3) := by decide +kernel
theorem dX1_frameOf_17 : decode cX1_frameOf 17 = .ok (.iload_n 2, 1) := by decide +kernel
theorem dX1_frameOf_18 : decode cX1_frameOf 18 = .ok (.iaload, 1) := by decide +kernel
theorem dX1_frameOf_19 : decode cX1_frameOf 19 = .ok (.iload_n 1, 1) := by decide +kernel
theorem dX1_frameOf_20 : decode cX1_frameOf 20 = .ok (.if_icmp .ne 5, 3) := by decide +kernel
theorem dX1_frameOf_23 : decode cX1_frameOf 23 = .ok (.iload_n 2, 1) := by decide +kernel
theorem dX1_frameOf_24 : decode cX1_frameOf 24 = .ok (.ireturn, 1) := by decide +kernel
theorem dX1_frameOf_25 : decode cX1_frameOf 25 = .ok (.iinc 2 1, 3) := by decide +kernel
theorem dX1_frameOf_28 : decode cX1_frameOf 28 = .ok (.goto (-26), 3) := by decide +kernel
theorem dX1_frameOf_31 : decode cX1_frameOf 31 = .ok (.iconst (-1), 1) := by decide +kernel
theorem dX1_frameOf_32 : decode cX1_frameOf 32 = .ok (.ireturn, 1) := by decide +kernel
theorem dX1_touch_0 : decode cX1_touch 0 = .ok (.aload_n 0, 1) := by decide +kernel
theorem dX1_touch_1 : decode cX1_touch 1 = .ok (.iload_n 1, 1) := by decide +kernel
theorem dX1_touch_2 : decode cX1_touch 2 = .ok (.invokevirtual 48, 3) := by decide +kernel
theorem dX1_touch_5 : decode cX1_touch 5 = .ok (.istore_n 3, 1) := by decide +kernel
theorem dX1_touch_6 : decode cX1_touch 6 = .ok (.iload_n 3, 1) := by decide +kernel
theorem dX1_touch_7 : decode cX1_touch 7 = .ok (.iconst (-1), 1) := by decide +kernel
theorem dX1_touch_8 : decode cX1_touch 8 = .ok (.if_icmp .eq 16, 3) := by decide +kernel
theorem dX1_touch_11 : decode cX1_touch 11 = .ok (.aload_n 0, 1) := by decide +kernel
theorem dX1_touch_12 : decode cX1_touch 12 = .ok (.dup, 1) := by decide +kernel
theorem dX1_touch_13 : decode cX1_touch 13 = .ok (.getfield 35, 3) := by decide +kernel
theorem dX1_touch_16 : decode cX1_touch 16 = .ok (.iconst 1, 1) := by decide +kernel
theorem dX1_touch_17 : decode cX1_touch 17 = .ok (.iadd, 1) := by decide +kernel
theorem dX1_touch_18 : decode cX1_touch 18 = .ok (.putfield 35, 3) := by decide +kernel
theorem dX1_touch_21 : decode cX1_touch 21 = .ok (.goto 22, 3) := by decide +kernel
theorem dX1_touch_24 : decode cX1_touch 24 = .ok (.aload_n 0, 1) := by decide +kernel
theorem dX1_touch_25 : decode cX1_touch 25 = .ok (.invokevirtual 52, 3) := by decide +kernel
theorem dX1_touch_28 : decode cX1_touch 28 = .ok (.istore_n 3, 1) := by decide +kernel
theorem dX1_touch_29 : decode cX1_touch 29 = .ok (.iload_n 2, 1) := by decide +kernel
theorem dX1_touch_30 : decode cX1_touch 30 = .ok (.ifCond .ne 13, 3) := by decide +kernel
theorem dX1_touch_33 : decode cX1_touch 33 = .ok (.aload_n 0, 1) := by decide +kernel
theorem dX1_touch_34 : decode cX1_touch 34 = .ok (.dup, 1) := by decide +kernel
theorem dX1_touch_35 : decode cX1_touch 35 = .ok (.getfield 39, 3) := by decide +kernel
theorem dX1_touch_38 : decode cX1_touch 38 = .ok (.iconst 1, 1) := by decide +kernel
theorem dX1_touch_39 : decode cX1_touch 39 = .ok (.iadd, 1) := by decide +kernel
theorem dX1_touch_40 : decode cX1_touch 40 = .ok (.putfield 39, 3) := by decide +kernel
theorem dX1_touch_43 : decode cX1_touch 43 = .ok (.aload_n 0, 1) := by decide +kernel
theorem dX1_touch_44 : decode cX1_touch 44 = .ok (.iload_n 3, 1) := by decide +kernel
theorem dX1_touch_45 : decode cX1_touch 45 = .ok (.invokevirtual 31, 3) := by decide +kernel
theorem dX1_touch_48 : decode cX1_touch 48 = .ok (.ifCond .eq 24, 3) := by decide +kernel
theorem dX1_touch_51 : decode cX1_touch 51 = .ok (.aload_n 0, 1) := by decide +kernel
theorem dX1_touch_52 : decode cX1_touch 52 = .ok (.getfield 9, 3) := by decide +kernel
theorem dX1_touch_55 : decode cX1_touch 55 = .ok (.iload_n 3, 1) := by decide +kernel
theorem dX1_touch_56 : decode cX1_touch 56 = .ok (.iload_n 1, 1) := by decide +kernel
theorem dX1_touch_57 : decode cX1_touch 57 = .ok (.iastore, 1) := by decide +kernel
theorem dX1_touch_58 : decode cX1_touch 58 = .ok (.aload_n 0, 1) := by decide +kernel
theorem dX1_touch_59 : decode cX1_touch 59 = .ok (.getfield 15, 3) := by decide +kernel
theorem dX1_touch_62 : decode cX1_touch 62 = .ok (.iload_n 3, 1) := by decide +kernel
theorem dX1_touch_63 : decode cX1_touch 63 = .ok (.iconst 1, 1) := by decide +kernel
theorem dX1_touch_64 : decode cX1_touch 64 = .ok (.bastore, 1) := by decide +kernel
theorem dX1_touch_65 : decode cX1_touch 65 = .ok (.aload_n 0, 1) := by decide +kernel
theorem dX1_touch_66 : decode cX1_touch 66 = .ok (.getfield 22, 3) := by decide +kernel
theorem dX1_touch_69 : decode cX1_touch 69 = .ok (.iload_n 3, 1) := by decide +kernel
theorem dX1_touch_70 : decode cX1_touch 70 = .ok (.iconst 1, 1) := by decide +kernel
theorem dX1_touch_71 : decode cX1_touch 71 = .ok (.bastore, 1) := by decide +kernel
theorem dX1_touch_72 : decode cX1_touch 72 = .ok (.return_, 1) := by decide +kernel
theorem dX1_vacateFrame_0 : decode cX1_vacateFrame 0 = .ok (.aload_n 0, 1) := by decide +kernel
theorem dX1_vacateFrame_1 : decode cX1_vacateFrame 1 = .ok (.getfield 45, 3) := by decide +kernel
theorem dX1_vacateFrame_4 : decode cX1_vacateFrame 4 = .ok (.istore_n 1, 1) := by decide +kernel
theorem dX1_vacateFrame_5 : decode cX1_vacateFrame 5 = .ok (.iconst 0, 1) := by decide +kernel
theorem dX1_vacateFrame_6 : decode cX1_vacateFrame 6 = .ok (.istore_n 2, 1) := by decide +kernel
theorem dX1_vacateFrame_7 : decode cX1_vacateFrame 7 = .ok (.iload_n 2, 1) := by decide +kernel
theorem dX1_vacateFrame_8 : decode cX1_vacateFrame 8 = .ok (.bipush 24, 2) := by decide +kernel
theorem dX1_vacateFrame_10 : decode cX1_vacateFrame 10 = .ok (.if_icmp .ge 45, 3) := by decide +kernel
theorem dX1_vacateFrame_13 : decode cX1_vacateFrame 13 = .ok (.iload_n 1, 1) := by decide +kernel
theorem dX1_vacateFrame_14 : decode cX1_vacateFrame 14 = .ok (.iload_n 2, 1) := by decide +kernel
theorem dX1_vacateFrame_15 : decode cX1_vacateFrame 15 = .ok (.iadd, 1) := by decide +kernel
theorem dX1_vacateFrame_16 : decode cX1_vacateFrame 16 = .ok (.bipush 12, 2) := by decide +kernel
theorem dX1_vacateFrame_18 : decode cX1_vacateFrame 18 = .ok (.invokestatic 56, 3) := by decide +kernel
theorem dX1_vacateFrame_21 : decode cX1_vacateFrame 21 = .ok (.istore_n 3, 1) := by decide +kernel
theorem dX1_vacateFrame_22 : decode cX1_vacateFrame 22 = .ok (.aload_n 0, 1) := by decide +kernel
theorem dX1_vacateFrame_23 : decode cX1_vacateFrame 23 = .ok (.iload_n 3, 1) := by decide +kernel
theorem dX1_vacateFrame_24 : decode cX1_vacateFrame 24 = .ok (.invokevirtual 62, 3) := by decide +kernel
theorem dX1_vacateFrame_27 : decode cX1_vacateFrame 27 = .ok (.ifCond .eq 22, 3) := by decide +kernel
theorem dX1_vacateFrame_30 : decode cX1_vacateFrame 30 = .ok (.aload_n 0, 1) := by decide +kernel
theorem dX1_vacateFrame_31 : decode cX1_vacateFrame 31 = .ok (.iload_n 3, 1) := by decide +kernel
theorem dX1_vacateFrame_32 : decode cX1_vacateFrame 32 = .ok (.iconst 1, 1) := by decide +kernel
theorem dX1_vacateFrame_33 : decode cX1_vacateFrame 33 = .ok (.iadd, 1) := by decide +kernel
theorem dX1_vacateFrame_34 : decode cX1_vacateFrame 34 = .ok (.bipush 12, 2) := by decide +kernel
theorem dX1_vacateFrame_36 : decode cX1_vacateFrame 36 = .ok (.invokestatic 56, 3) := by decide +kernel
theorem dX1_vacateFrame_39 : decode cX1_vacateFrame 39 = .ok (.putfield 45, 3) := by decide +kernel
theorem dX1_vacateFrame_42 : decode cX1_vacateFrame 42 = .ok (.aload_n 0, 1) := by decide +kernel
theorem dX1_vacateFrame_43 : decode cX1_vacateFrame 43 = .ok (.iload_n 3, 1) := by decide +kernel
theorem dX1_vacateFrame_44 : decode cX1_vacateFrame 44 = .ok (.invokevirtual 65, 3) := by decide +kernel
theorem dX1_vacateFrame_47 : decode cX1_vacateFrame 47 = .ok (.iload_n 3, 1) := by decide +kernel
theorem dX1_vacateFrame_48 : decode cX1_vacateFrame 48 = .ok (.ireturn, 1) := by decide +kernel
theorem dX1_vacateFrame_49 : decode cX1_vacateFrame 49 = .ok (.iinc 2 1, 3) := by decide +kernel
theorem dX1_vacateFrame_52 : decode cX1_vacateFrame 52 = .ok (.goto (-45), 3) := by decide +kernel
theorem dX1_vacateFrame_55 : decode cX1_vacateFrame 55 = .ok (.iconst (-1), 1) := by decide +kernel
theorem dX1_vacateFrame_56 : decode cX1_vacateFrame 56 = .ok (.ireturn, 1) := by decide +kernel
theorem dX1_givesWay_0 : decode cX1_givesWay 0 = .ok (.iload_n 1, 1) := by decide +kernel
theorem dX1_givesWay_1 : decode cX1_givesWay 1 = .ok (.ifCond .lt 9, 3) := by decide +kernel
theorem dX1_givesWay_4 : decode cX1_givesWay 4 = .ok (.iload_n 1, 1) := by decide +kernel
theorem dX1_givesWay_5 : decode cX1_givesWay 5 = .ok (.bipush 12, 2) := by decide +kernel
theorem dX1_givesWay_7 : decode cX1_givesWay 7 = .ok (.if_icmp .lt 5, 3) := by decide +kernel
theorem dX1_givesWay_10 : decode cX1_givesWay 10 = .ok (.iconst 0, 1) := by decide +kernel
theorem dX1_givesWay_11 : decode cX1_givesWay 11 = .ok (.ireturn, 1) := by decide +kernel
theorem dX1_givesWay_12 : decode cX1_givesWay 12 = .ok (.aload_n 0, 1) := by decide +kernel
theorem dX1_givesWay_13 : decode cX1_givesWay 13 = .ok (.getfield 9, 3) := by decide +kernel
theorem dX1_givesWay_16 : decode cX1_givesWay 16 = .ok (.iload_n 1, 1) := by decide +kernel
theorem dX1_givesWay_17 : decode cX1_givesWay 17 = .ok (.iaload, 1) := by decide +kernel
theorem dX1_givesWay_18 : decode cX1_givesWay 18 = .ok (.iconst (-1), 1) := by decide +kernel
theorem dX1_givesWay_19 : decode cX1_givesWay 19 = .ok (.if_icmp .ne 5, 3) := by decide +kernel
theorem dX1_givesWay_22 : decode cX1_givesWay 22 = .ok (.iconst 1, 1) := by decide +kernel
theorem dX1_givesWay_23 : decode cX1_givesWay 23 = .ok (.ireturn, 1) := by decide +kernel
theorem dX1_givesWay_24 : decode cX1_givesWay 24 = .ok (.aload_n 0, 1) := by decide +kernel
theorem dX1_givesWay_25 : decode cX1_givesWay 25 = .ok (.getfield 22, 3) := by decide +kernel
theorem dX1_givesWay_28 : decode cX1_givesWay 28 = .ok (.iload_n 1, 1) := by decide +kernel
theorem dX1_givesWay_29 : decode cX1_givesWay 29 = .ok (.baload, 1) := by decide +kernel
theorem dX1_givesWay_30 : decode cX1_givesWay 30 = .ok (.ifCond .eq 5, 3) := by decide +kernel
theorem dX1_givesWay_33 : decode cX1_givesWay 33 = .ok (.iconst 0, 1) := by decide +kernel
theorem dX1_givesWay_34 : decode cX1_givesWay 34 = .ok (.ireturn, 1) := by decide +kernel
theorem dX1_givesWay_35 : decode cX1_givesWay 35 = .ok (.aload_n 0, 1) := by decide +kernel
theorem dX1_givesWay_36 : decode cX1_givesWay 36 = .ok (.getfield 15, 3) := by decide +kernel
theorem dX1_givesWay_39 : decode cX1_givesWay 39 = .ok (.iload_n 1, 1) := by decide +kernel
theorem dX1_givesWay_40 : decode cX1_givesWay 40 = .ok (.baload, 1) := by decide +kernel
theorem dX1_givesWay_41 : decode cX1_givesWay 41 = .ok (.ifCond .eq 12, 3) := by decide +kernel
theorem dX1_givesWay_44 : decode cX1_givesWay 44 = .ok (.aload_n 0, 1) := by decide +kernel
theorem dX1_givesWay_45 : decode cX1_givesWay 45 = .ok (.getfield 15, 3) := by decide +kernel
theorem dX1_givesWay_48 : decode cX1_givesWay 48 = .ok (.iload_n 1, 1) := by decide +kernel
theorem dX1_givesWay_49 : decode cX1_givesWay 49 = .ok (.iconst 0, 1) := by decide +kernel
theorem dX1_givesWay_50 : decode cX1_givesWay 50 = .ok (.bastore, 1) := by decide +kernel
theorem dX1_givesWay_51 : decode cX1_givesWay 51 = .ok (.iconst 0, 1) := by decide +kernel
theorem dX1_givesWay_52 : decode cX1_givesWay 52 = .ok (.ireturn, 1) := by decide +kernel
theorem dX1_givesWay_53 : decode cX1_givesWay 53 = .ok (.aload_n 0, 1) := by decide +kernel
theorem dX1_givesWay_54 : decode cX1_givesWay 54 = .ok (.getfield 19, 3) := by decide +kernel
theorem dX1_givesWay_57 : decode cX1_givesWay 57 = .ok (.iload_n 1, 1) := by decide +kernel
theorem dX1_givesWay_58 : decode cX1_givesWay 58 = .ok (.baload, 1) := by decide +kernel
theorem dX1_givesWay_59 : decode cX1_givesWay 59 = .ok (.ifCond .eq 13, 3) := by decide +kernel
theorem dX1_givesWay_62 : decode cX1_givesWay 62 = .ok (.aload_n 0, 1) := by decide +kernel
theorem dX1_givesWay_63 : decode cX1_givesWay 63 = .ok (.dup, 1) := by decide +kernel
theorem dX1_givesWay_64 : decode cX1_givesWay 64 = .ok (.getfield 42, 3) := by decide +kernel
theorem dX1_givesWay_67 : decode cX1_givesWay 67 = .ok (.iconst 1, 1) := by decide +kernel
theorem dX1_givesWay_68 : decode cX1_givesWay 68 = .ok (.iadd, 1) := by decide +kernel
theorem dX1_givesWay_69 : decode cX1_givesWay 69 = .ok (.putfield 42, 3) := by decide +kernel
theorem dX1_givesWay_72 : decode cX1_givesWay 72 = .ok (.iconst 1, 1) := by decide +kernel
theorem dX1_givesWay_73 : decode cX1_givesWay 73 = .ok (.ireturn, 1) := by decide +kernel
theorem dX1_clear_0 : decode cX1_clear 0 = .ok (.iload_n 1, 1) := by decide +kernel
theorem dX1_clear_1 : decode cX1_clear 1 = .ok (.ifCond .lt 37, 3) := by decide +kernel
theorem dX1_clear_4 : decode cX1_clear 4 = .ok (.iload_n 1, 1) := by decide +kernel
theorem dX1_clear_5 : decode cX1_clear 5 = .ok (.bipush 12, 2) := by decide +kernel
theorem dX1_clear_7 : decode cX1_clear 7 = .ok (.if_icmp .ge 31, 3) := by decide +kernel
theorem dX1_clear_10 : decode cX1_clear 10 = .ok (.aload_n 0, 1) := by decide +kernel
theorem dX1_clear_11 : decode cX1_clear 11 = .ok (.getfield 9, 3) := by decide +kernel
theorem dX1_clear_14 : decode cX1_clear 14 = .ok (.iload_n 1, 1) := by decide +kernel
theorem dX1_clear_15 : decode cX1_clear 15 = .ok (.iconst (-1), 1) := by decide +kernel
theorem dX1_clear_16 : decode cX1_clear 16 = .ok (.iastore, 1) := by decide +kernel
theorem dX1_clear_17 : decode cX1_clear 17 = .ok (.aload_n 0, 1) := by decide +kernel
theorem dX1_clear_18 : decode cX1_clear 18 = .ok (.getfield 15, 3) := by decide +kernel
theorem dX1_clear_21 : decode cX1_clear 21 = .ok (.iload_n 1, 1) := by decide +kernel
theorem dX1_clear_22 : decode cX1_clear 22 = .ok (.iconst 0, 1) := by decide +kernel
theorem dX1_clear_23 : decode cX1_clear 23 = .ok (.bastore, 1) := by decide +kernel
theorem dX1_clear_24 : decode cX1_clear 24 = .ok (.aload_n 0, 1) := by decide +kernel
theorem dX1_clear_25 : decode cX1_clear 25 = .ok (.getfield 19, 3) := by decide +kernel
theorem dX1_clear_28 : decode cX1_clear 28 = .ok (.iload_n 1, 1) := by decide +kernel
theorem dX1_clear_29 : decode cX1_clear 29 = .ok (.iconst 0, 1) := by decide +kernel
theorem dX1_clear_30 : decode cX1_clear 30 = .ok (.bastore, 1) := by decide +kernel
theorem dX1_clear_31 : decode cX1_clear 31 = .ok (.aload_n 0, 1) := by decide +kernel
theorem dX1_clear_32 : decode cX1_clear 32 = .ok (.getfield 22, 3) := by decide +kernel
theorem dX1_clear_35 : decode cX1_clear 35 = .ok (.iload_n 1, 1) := by decide +kernel
theorem dX1_clear_36 : decode cX1_clear 36 = .ok (.iconst 0, 1) := by decide +kernel
theorem dX1_clear_37 : decode cX1_clear 37 = .ok (.bastore, 1) := by decide +kernel
theorem dX1_clear_38 : decode cX1_clear 38 = .ok (.return_, 1) := by decide +kernel
theorem dX1_soil_0 : decode cX1_soil 0 = .ok (.aload_n 0, 1) := by decide +kernel
theorem dX1_soil_1 : decode cX1_soil 1 = .ok (.iload_n 1, 1) := by decide +kernel
theorem dX1_soil_2 : decode cX1_soil 2 = .ok (.invokevirtual 48, 3) := by decide +kernel
theorem dX1_soil_5 : decode cX1_soil 5 = .ok (.istore_n 2, 1) := by decide +kernel
theorem dX1_soil_6 : decode cX1_soil 6 = .ok (.aload_n 0, 1) := by decide +kernel
theorem dX1_soil_7 : decode cX1_soil 7 = .ok (.iload_n 2, 1) := by decide +kernel
theorem dX1_soil_8 : decode cX1_soil 8 = .ok (.invokevirtual 31, 3) := by decide +kernel
theorem dX1_soil_11 : decode cX1_soil 11 = .ok (.ifCond .eq 10, 3) := by decide +kernel
theorem dX1_soil_14 : decode cX1_soil 14 = .ok (.aload_n 0, 1) := by decide +kernel
theorem dX1_soil_15 : decode cX1_soil 15 = .ok (.getfield 19, 3) := by decide +kernel
theorem dX1_soil_18 : decode cX1_soil 18 = .ok (.iload_n 2, 1) := by decide +kernel
theorem dX1_soil_19 : decode cX1_soil 19 = .ok (.iconst 1, 1) := by decide +kernel
theorem dX1_soil_20 : decode cX1_soil 20 = .ok (.bastore, 1) := by decide +kernel
theorem dX1_soil_21 : decode cX1_soil 21 = .ok (.return_, 1) := by decide +kernel
theorem dX1_clearPage_0 : decode cX1_clearPage 0 = .ok (.aload_n 0, 1) := by decide +kernel
theorem dX1_clearPage_1 : decode cX1_clearPage 1 = .ok (.aload_n 0, 1) := by decide +kernel
theorem dX1_clearPage_2 : decode cX1_clearPage 2 = .ok (.iload_n 1, 1) := by decide +kernel
theorem dX1_clearPage_3 : decode cX1_clearPage 3 = .ok (.invokevirtual 48, 3) := by decide +kernel
theorem dX1_clearPage_6 : decode cX1_clearPage 6 = .ok (.invokevirtual 65, 3) := by decide +kernel
theorem dX1_clearPage_9 : decode cX1_clearPage 9 = .ok (.return_, 1) := by decide +kernel
theorem dX1_unpinAll_0 : decode cX1_unpinAll 0 = .ok (.iconst 0, 1) := by decide +kernel
theorem dX1_unpinAll_1 : decode cX1_unpinAll 1 = .ok (.istore_n 1, 1) := by decide +kernel
theorem dX1_unpinAll_2 : decode cX1_unpinAll 2 = .ok (.iload_n 1, 1) := by decide +kernel
theorem dX1_unpinAll_3 : decode cX1_unpinAll 3 = .ok (.bipush 12, 2) := by decide +kernel
theorem dX1_unpinAll_5 : decode cX1_unpinAll 5 = .ok (.if_icmp .ge 16, 3) := by decide +kernel
theorem dX1_unpinAll_8 : decode cX1_unpinAll 8 = .ok (.aload_n 0, 1) := by decide +kernel
theorem dX1_unpinAll_9 : decode cX1_unpinAll 9 = .ok (.getfield 22, 3) := by decide +kernel
theorem dX1_unpinAll_12 : decode cX1_unpinAll 12 = .ok (.iload_n 1, 1) := by decide +kernel
theorem dX1_unpinAll_13 : decode cX1_unpinAll 13 = .ok (.iconst 0, 1) := by decide +kernel
theorem dX1_unpinAll_14 : decode cX1_unpinAll 14 = .ok (.bastore, 1) := by decide +kernel
theorem dX1_unpinAll_15 : decode cX1_unpinAll 15 = .ok (.iinc 1 1, 3) := by decide +kernel
theorem dX1_unpinAll_18 : decode cX1_unpinAll 18 = .ok (.goto (-16), 3) := by decide +kernel
theorem dX1_unpinAll_21 : decode cX1_unpinAll 21 = .ok (.return_, 1) := by decide +kernel
theorem dX1_countDirty_0 : decode cX1_countDirty 0 = .ok (.iconst 0, 1) := by decide +kernel
theorem dX1_countDirty_1 : decode cX1_countDirty 1 = .ok (.istore_n 1, 1) := by decide +kernel
theorem dX1_countDirty_2 : decode cX1_countDirty 2 = .ok (.iconst 0, 1) := by decide +kernel
theorem dX1_countDirty_3 : decode cX1_countDirty 3 = .ok (.istore_n 2, 1) := by decide +kernel
theorem dX1_countDirty_4 : decode cX1_countDirty 4 = .ok (.iload_n 2, 1) := by decide +kernel
theorem dX1_countDirty_5 : decode cX1_countDirty 5 = .ok (.bipush 12, 2) := by decide +kernel
theorem dX1_countDirty_7 : decode cX1_countDirty 7 = .ok (.if_icmp .ge 21, 3) := by decide +kernel
theorem dX1_countDirty_10 : decode cX1_countDirty 10 = .ok (.aload_n 0, 1) := by decide +kernel
theorem dX1_countDirty_11 : decode cX1_countDirty 11 = .ok (.getfield 19, 3) := by decide +kernel
theorem dX1_countDirty_14 : decode cX1_countDirty 14 = .ok (.iload_n 2, 1) := by decide +kernel
theorem dX1_countDirty_15 : decode cX1_countDirty 15 = .ok (.baload, 1) := by decide +kernel
theorem dX1_countDirty_16 : decode cX1_countDirty 16 = .ok (.ifCond .eq 6, 3) := by decide +kernel
theorem dX1_countDirty_19 : decode cX1_countDirty 19 = .ok (.iinc 1 1, 3) := by decide +kernel
theorem dX1_countDirty_22 : decode cX1_countDirty 22 = .ok (.iinc 2 1, 3) := by decide +kernel
theorem dX1_countDirty_25 : decode cX1_countDirty 25 = .ok (.goto (-21), 3) := by decide +kernel
theorem dX1_countDirty_28 : decode cX1_countDirty 28 = .ok (.iload_n 1, 1) := by decide +kernel
theorem dX1_countDirty_29 : decode cX1_countDirty 29 = .ok (.ireturn, 1) := by decide +kernel
theorem dX1_writeDirty_0 : decode cX1_writeDirty 0 = .ok (.aload_n 0, 1) := by decide +kernel
theorem dX1_writeDirty_1 : decode cX1_writeDirty 1 = .ok (.invokevirtual 69, 3) := by decide +kernel
theorem dX1_writeDirty_4 : decode cX1_writeDirty 4 = .ok (.istore_n 1, 1) := by decide +kernel
theorem dX1_writeDirty_5 : decode cX1_writeDirty 5 = .ok (.iconst 0, 1) := by decide +kernel
theorem dX1_writeDirty_6 : decode cX1_writeDirty 6 = .ok (.istore_n 2, 1) := by decide +kernel
theorem dX1_writeDirty_7 : decode cX1_writeDirty 7 = .ok (.iload_n 2, 1) := by decide +kernel
theorem dX1_writeDirty_8 : decode cX1_writeDirty 8 = .ok (.bipush 12, 2) := by decide +kernel
theorem dX1_writeDirty_10 : decode cX1_writeDirty 10 = .ok (.if_icmp .ge 16, 3) := by decide +kernel
theorem dX1_writeDirty_13 : decode cX1_writeDirty 13 = .ok (.aload_n 0, 1) := by decide +kernel
theorem dX1_writeDirty_14 : decode cX1_writeDirty 14 = .ok (.getfield 19, 3) := by decide +kernel
theorem dX1_writeDirty_17 : decode cX1_writeDirty 17 = .ok (.iload_n 2, 1) := by decide +kernel
theorem dX1_writeDirty_18 : decode cX1_writeDirty 18 = .ok (.iconst 0, 1) := by decide +kernel
theorem dX1_writeDirty_19 : decode cX1_writeDirty 19 = .ok (.bastore, 1) := by decide +kernel
theorem dX1_writeDirty_20 : decode cX1_writeDirty 20 = .ok (.iinc 2 1, 3) := by decide +kernel
theorem dX1_writeDirty_23 : decode cX1_writeDirty 23 = .ok (.goto (-16), 3) := by decide +kernel
theorem dX1_writeDirty_26 : decode cX1_writeDirty 26 = .ok (.aload_n 0, 1) := by decide +kernel
theorem dX1_writeDirty_27 : decode cX1_writeDirty 27 = .ok (.dup, 1) := by decide +kernel
theorem dX1_writeDirty_28 : decode cX1_writeDirty 28 = .ok (.getfield 42, 3) := by decide +kernel
theorem dX1_writeDirty_31 : decode cX1_writeDirty 31 = .ok (.iload_n 1, 1) := by decide +kernel
theorem dX1_writeDirty_32 : decode cX1_writeDirty 32 = .ok (.iadd, 1) := by decide +kernel
theorem dX1_writeDirty_33 : decode cX1_writeDirty 33 = .ok (.putfield 42, 3) := by decide +kernel
theorem dX1_writeDirty_36 : decode cX1_writeDirty 36 = .ok (.iload_n 1, 1) := by decide +kernel
theorem dX1_writeDirty_37 : decode cX1_writeDirty 37 = .ok (.ireturn, 1) := by decide +kernel
theorem dX1_emptyAll_0 : decode cX1_emptyAll 0 = .ok (.iconst 0, 1) := by decide +kernel
theorem dX1_emptyAll_1 : decode cX1_emptyAll 1 = .ok (.istore_n 1, 1) := by decide +kernel
theorem dX1_emptyAll_2 : decode cX1_emptyAll 2 = .ok (.iconst 0, 1) := by decide +kernel
theorem dX1_emptyAll_3 : decode cX1_emptyAll 3 = .ok (.istore_n 2, 1) := by decide +kernel
theorem dX1_emptyAll_4 : decode cX1_emptyAll 4 = .ok (.iload_n 2, 1) := by decide +kernel
theorem dX1_emptyAll_5 : decode cX1_emptyAll 5 = .ok (.bipush 12, 2) := by decide +kernel
theorem dX1_emptyAll_7 : decode cX1_emptyAll 7 = .ok (.if_icmp .ge 27, 3) := by decide +kernel
theorem dX1_emptyAll_10 : decode cX1_emptyAll 10 = .ok (.aload_n 0, 1) := by decide +kernel
theorem dX1_emptyAll_11 : decode cX1_emptyAll 11 = .ok (.getfield 9, 3) := by decide +kernel
theorem dX1_emptyAll_14 : decode cX1_emptyAll 14 = .ok (.iload_n 2, 1) := by decide +kernel
theorem dX1_emptyAll_15 : decode cX1_emptyAll 15 = .ok (.iaload, 1) := by decide +kernel
theorem dX1_emptyAll_16 : decode cX1_emptyAll 16 = .ok (.iconst (-1), 1) := by decide +kernel
theorem dX1_emptyAll_17 : decode cX1_emptyAll 17 = .ok (.if_icmp .eq 6, 3) := by decide +kernel
theorem dX1_emptyAll_20 : decode cX1_emptyAll 20 = .ok (.iinc 1 1, 3) := by decide +kernel
theorem dX1_emptyAll_23 : decode cX1_emptyAll 23 = .ok (.aload_n 0, 1) := by decide +kernel
theorem dX1_emptyAll_24 : decode cX1_emptyAll 24 = .ok (.iload_n 2, 1) := by decide +kernel
theorem dX1_emptyAll_25 : decode cX1_emptyAll 25 = .ok (.invokevirtual 65, 3) := by decide +kernel
theorem dX1_emptyAll_28 : decode cX1_emptyAll 28 = .ok (.iinc 2 1, 3) := by decide +kernel
theorem dX1_emptyAll_31 : decode cX1_emptyAll 31 = .ok (.goto (-27), 3) := by decide +kernel
theorem dX1_emptyAll_34 : decode cX1_emptyAll 34 = .ok (.aload_n 0, 1) := by decide +kernel
theorem dX1_emptyAll_35 : decode cX1_emptyAll 35 = .ok (.iconst 0, 1) := by decide +kernel
theorem dX1_emptyAll_36 : decode cX1_emptyAll 36 = .ok (.putfield 45, 3) := by decide +kernel
theorem dX1_emptyAll_39 : decode cX1_emptyAll 39 = .ok (.iload_n 1, 1) := by decide +kernel
theorem dX1_emptyAll_40 : decode cX1_emptyAll 40 = .ok (.ireturn, 1) := by decide +kernel
theorem dX1_countHolding_0 : decode cX1_countHolding 0 = .ok (.iconst 0, 1) := by decide +kernel
theorem dX1_countHolding_1 : decode cX1_countHolding 1 = .ok (.istore_n 2, 1) := by decide +kernel
theorem dX1_countHolding_2 : decode cX1_countHolding 2 = .ok (.iconst 0, 1) := by decide +kernel
theorem dX1_countHolding_3 : decode cX1_countHolding 3 = .ok (.istore_n 3, 1) := by decide +kernel
theorem dX1_countHolding_4 : decode cX1_countHolding 4 = .ok (.iload_n 3, 1) := by decide +kernel
theorem dX1_countHolding_5 : decode cX1_countHolding 5 = .ok (.bipush 12, 2) := by decide +kernel
theorem dX1_countHolding_7 : decode cX1_countHolding 7 = .ok (.if_icmp .ge 22, 3) := by decide +kernel
theorem dX1_countHolding_10 : decode cX1_countHolding 10 = .ok (.aload_n 0, 1) := by decide +kernel
theorem dX1_countHolding_11 : decode cX1_countHolding 11 = .ok (.getfield 9, 3) := by decide +kernel
theorem dX1_countHolding_14 : decode cX1_countHolding 14 = .ok (.iload_n 3, 1) := by decide +kernel
theorem dX1_countHolding_15 : decode cX1_countHolding 15 = .ok (.iaload, 1) := by decide +kernel
theorem dX1_countHolding_16 : decode cX1_countHolding 16 = .ok (.iload_n 1, 1) := by decide +kernel
theorem dX1_countHolding_17 : decode cX1_countHolding 17 = .ok (.if_icmp .ne 6, 3) := by decide +kernel
theorem dX1_countHolding_20 : decode cX1_countHolding 20 = .ok (.iinc 2 1, 3) := by decide +kernel
theorem dX1_countHolding_23 : decode cX1_countHolding 23 = .ok (.iinc 3 1, 3) := by decide +kernel
theorem dX1_countHolding_26 : decode cX1_countHolding 26 = .ok (.goto (-22), 3) := by decide +kernel
theorem dX1_countHolding_29 : decode cX1_countHolding 29 = .ok (.iload_n 2, 1) := by decide +kernel
theorem dX1_countHolding_30 : decode cX1_countHolding 30 = .ok (.ireturn, 1) := by decide +kernel
theorem dX2_init_0 : decode cX2_init 0 = .ok (.aload_n 0, 1) := by decide +kernel
theorem dX2_init_1 : decode cX2_init 1 = .ok (.invokespecial 3, 3) := by decide +kernel
theorem dX2_init_4 : decode cX2_init 4 = .ok (.aload_n 0, 1) := by decide +kernel
theorem dX2_init_5 : decode cX2_init 5 = .ok (.bipush 40, 2) := by decide +kernel
theorem dX2_init_7 : decode cX2_init 7 = .ok (.newarray .int, 2) := by decide +kernel
theorem dX2_init_9 : decode cX2_init 9 = .ok (.putfield 9, 3) := by decide +kernel
theorem dX2_init_12 : decode cX2_init 12 = .ok (.aload_n 0, 1) := by decide +kernel
theorem dX2_init_13 : decode cX2_init 13 = .ok (.bipush 40, 2) := by decide +kernel
theorem dX2_init_15 : decode cX2_init 15 = .ok (.newarray .int, 2) := by decide +kernel
theorem dX2_init_17 : decode cX2_init 17 = .ok (.putfield 15, 3) := by decide +kernel
theorem dX2_init_20 : decode cX2_init 20 = .ok (.aload_n 0, 1) := by decide +kernel
theorem dX2_init_21 : decode cX2_init 21 = .ok (.bipush 40, 2) := by decide +kernel
theorem dX2_init_23 : decode cX2_init 23 = .ok (.newarray .int, 2) := by decide +kernel
theorem dX2_init_25 : decode cX2_init 25 = .ok (.putfield 18, 3) := by decide +kernel
theorem dX2_init_28 : decode cX2_init 28 = .ok (.aload_n 0, 1) := by decide +kernel
theorem dX2_init_29 : decode cX2_init 29 = .ok (.bipush 40, 2) := by decide +kernel
theorem dX2_init_31 : decode cX2_init 31 = .ok (.newarray .long, 2) := by decide +kernel
theorem dX2_init_33 : decode cX2_init 33 = .ok (.putfield 21, 3) := by decide +kernel
theorem dX2_init_36 : decode cX2_init 36 = .ok (.aload_n 0, 1) := by decide +kernel
theorem dX2_init_37 : decode cX2_init 37 = .ok (.bipush 40, 2) := by decide +kernel
theorem dX2_init_39 : decode cX2_init 39 = .ok (.newarray .long, 2) := by decide +kernel
theorem dX2_init_41 : decode cX2_init 41 = .ok (.putfield 25, 3) := by decide +kernel
theorem dX2_init_44 : decode cX2_init 44 = .ok (.return_, 1) := by decide +kernel
theorem dX2_countAstray_0 : decode cX2_countAstray 0 = .ok (.aload_n 0, 1) := by decide +kernel
theorem dX2_countAstray_1 : decode cX2_countAstray 1 = .ok (.getfield 15, 3) := by decide +kernel
theorem dX2_countAstray_4 : decode cX2_countAstray 4 = .ok (.iconst 0, 1) := by decide +kernel
theorem dX2_countAstray_5 : decode cX2_countAstray 5 = .ok (.invokestatic 28, 3) := by decide +kernel
theorem dX2_countAstray_8 : decode cX2_countAstray 8 = .ok (.aload_n 0, 1) := by decide +kernel
theorem dX2_countAstray_9 : decode cX2_countAstray 9 = .ok (.iconst 0, 1) := by decide +kernel
theorem dX2_countAstray_10 : decode cX2_countAstray 10 = .ok (.putfield 34, 3) := by decide +kernel
theorem dX2_countAstray_13 : decode cX2_countAstray 13 = .ok (.aload_n 0, 1) := by decide +kernel
theorem dX2_countAstray_14 : decode cX2_countAstray 14 = .ok (.iload_n 3, 1) := by decide +kernel
theorem dX2_countAstray_15 : decode cX2_countAstray 15 = .ok (.iconst 1, 1) := by decide +kernel
theorem dX2_countAstray_16 : decode cX2_countAstray 16 = .ok (.ldc2_w 38, 3) := by decide +kernel
theorem dX2_countAstray_19 : decode cX2_countAstray 19 = .ok (.ldc2_w 40, 3) := by decide +kernel
theorem dX2_countAstray_22 : decode cX2_countAstray 22 = .ok (.invokevirtual 42, 3) := by decide +kernel
theorem dX2_countAstray_25 : decode cX2_countAstray 25 = .ok (.iconst 0, 1) := by decide +kernel
theorem dX2_countAstray_26 : decode cX2_countAstray 26 = .ok (.istore 4, 2) := by decide +kernel
theorem dX2_countAstray_28 : decode cX2_countAstray 28 = .ok (.iload 4, 2) := by decide +kernel
theorem dX2_countAstray_30 : decode cX2_countAstray 30 = .ok (.bipush 40, 2) := by decide +kernel
theorem dX2_countAstray_32 : decode cX2_countAstray 32 = .ok (.if_icmp .ge 30, 3) := by decide +kernel
theorem dX2_countAstray_35 : decode cX2_countAstray 35 = .ok (.iload 4, 2) := by decide +kernel
theorem dX2_countAstray_37 : decode cX2_countAstray 37 = .ok (.aload_n 0, 1) := by decide +kernel
theorem dX2_countAstray_38 : decode cX2_countAstray 38 = .ok (.getfield 34, 3) := by decide +kernel
theorem dX2_countAstray_41 : decode cX2_countAstray 41 = .ok (.if_icmp .ge 21, 3) := by decide +kernel
theorem dX2_countAstray_44 : decode cX2_countAstray 44 = .ok (.aload_n 0, 1) := by decide +kernel
theorem dX2_countAstray_45 : decode cX2_countAstray 45 = .ok (.aload_n 1, 1) := by decide +kernel
theorem dX2_countAstray_46 : decode cX2_countAstray 46 = .ok (.aload_n 0, 1) := by decide +kernel
theorem dX2_countAstray_47 : decode cX2_countAstray 47 = .ok (.getfield 9, 3) := by decide +kernel
theorem dX2_countAstray_50 : decode cX2_countAstray 50 = .ok (.iload 4, 2) := by decide +kernel
theorem dX2_countAstray_52 : decode cX2_countAstray 52 = .ok (.iaload, 1) := by decide +kernel
theorem dX2_countAstray_53 : decode cX2_countAstray 53 = .ok (.invokevirtual 46, 3) := by decide +kernel
theorem dX2_countAstray_56 : decode cX2_countAstray 56 = .ok (.iinc 4 1, 3) := by decide +kernel
theorem dX2_countAstray_59 : decode cX2_countAstray 59 = .ok (.goto (-31), 3) := by decide +kernel
theorem dX2_countAstray_62 : decode cX2_countAstray 62 = .ok (.iconst 0, 1) := by decide +kernel
theorem dX2_countAstray_63 : decode cX2_countAstray 63 = .ok (.istore 4, 2) := by decide +kernel
theorem dX2_countAstray_65 : decode cX2_countAstray 65 = .ok (.iconst 0, 1) := by decide +kernel
theorem dX2_countAstray_66 : decode cX2_countAstray 66 = .ok (.istore 5, 2) := by decide +kernel
theorem dX2_countAstray_68 : decode cX2_countAstray 68 = .ok (.iload 5, 2) := by decide +kernel
theorem dX2_countAstray_70 : decode cX2_countAstray 70 = .ok (.bipush 40, 2) := by decide +kernel
theorem dX2_countAstray_72 : decode cX2_countAstray 72 = .ok (.if_icmp .ge 24, 3) := by decide +kernel
theorem dX2_countAstray_75 : decode cX2_countAstray 75 = .ok (.aload_n 0, 1) := by decide +kernel
theorem dX2_countAstray_76 : decode cX2_countAstray 76 = .ok (.aload_n 1, 1) := by decide +kernel
theorem dX2_countAstray_77 : decode cX2_countAstray 77 = .ok (.aload_n 2, 1) := by decide +kernel
theorem dX2_countAstray_78 : decode cX2_countAstray 78 = .ok (.iload_n 3, 1) := by decide +kernel
theorem dX2_countAstray_79 : decode cX2_countAstray 79 = .ok (.iload 5, 2) := by decide +kernel
theorem dX2_countAstray_81 : decode cX2_countAstray 81 = .ok (.invokevirtual 50, 3) := by decide +kernel
theorem dX2_countAstray_84 : decode cX2_countAstray 84 = .ok (.ifCond .eq 6, 3) := by decide +kernel
theorem dX2_countAstray_87 : decode cX2_countAstray 87 = .ok (.iinc 4 1, 3) := by decide +kernel
theorem dX2_countAstray_90 : decode cX2_countAstray 90 = .ok (.iinc 5 1, 3) := by decide +kernel
theorem dX2_countAstray_93 : decode cX2_countAstray 93 = .ok (.goto (-25), 3) := by decide +kernel
theorem dX2_countAstray_96 : decode cX2_countAstray 96 = .ok (.iload 4, 2) := by decide +kernel
theorem dX2_countAstray_98 : decode cX2_countAstray 98 = .ok (.ireturn, 1) := by decide +kernel
theorem dX2_meet_0 : decode cX2_meet 0 = .ok (.iload_n 1, 1) := by decide +kernel
theorem dX2_meet_1 : decode cX2_meet 1 = .ok (.ifCond .lt 9, 3) := by decide +kernel
theorem dX2_meet_4 : decode cX2_meet 4 = .ok (.iload_n 1, 1) := by decide +kernel
theorem dX2_meet_5 : decode cX2_meet 5 = .ok (.bipush 40, 2) := by decide +kernel
theorem dX2_meet_7 : decode cX2_meet 7 = .ok (.if_icmp .lt 4, 3) := by decide +kernel
theorem dX2_meet_10 : decode cX2_meet 10 = .ok (.return_, 1) := by decide +kernel
theorem dX2_meet_11 : decode cX2_meet 11 = .ok (.aload_n 0, 1) := by decide +kernel
theorem dX2_meet_12 : decode cX2_meet 12 = .ok (.getfield 15, 3) := by decide +kernel
theorem dX2_meet_15 : decode cX2_meet 15 = .ok (.iload_n 1, 1) := by decide +kernel
theorem dX2_meet_16 : decode cX2_meet 16 = .ok (.dup2, 1) := by decide +kernel
theorem dX2_meet_17 : decode cX2_meet 17 = .ok (.iaload, 1) := by decide +kernel
theorem dX2_meet_18 : decode cX2_meet 18 = .ok (.iconst 1, 1) := by decide +kernel
theorem dX2_meet_19 : decode cX2_meet 19 = .ok (.iadd, 1) := by decide +kernel
theorem dX2_meet_20 : decode cX2_meet 20 = .ok (.iastore, 1) := by decide +kernel
theorem dX2_meet_21 : decode cX2_meet 21 = .ok (.aload_n 0, 1) := by decide +kernel
theorem dX2_meet_22 : decode cX2_meet 22 = .ok (.getfield 15, 3) := by decide +kernel
theorem dX2_meet_25 : decode cX2_meet 25 = .ok (.iload_n 1, 1) := by decide +kernel
theorem dX2_meet_26 : decode cX2_meet 26 = .ok (.iaload, 1) := by decide +kernel
theorem dX2_meet_27 : decode cX2_meet 27 = .ok (.iconst 1, 1) := by decide +kernel
theorem dX2_meet_28 : decode cX2_meet 28 = .ok (.if_icmp .ne 61, 3) := by decide +kernel
theorem dX2_meet_31 : decode cX2_meet 31 = .ok (.aload_n 0, 1) := by decide +kernel
theorem dX2_meet_32 : decode cX2_meet 32 = .ok (.getfield 34, 3) := by decide +kernel
theorem dX2_meet_35 : decode cX2_meet 35 = .ok (.ifCond .lt 54, 3) := by decide +kernel
theorem dX2_meet_38 : decode cX2_meet 38 = .ok (.aload_n 0, 1) := by decide +kernel
theorem dX2_meet_39 : decode cX2_meet 39 = .ok (.getfield 34, 3) := by decide +kernel
theorem dX2_meet_42 : decode cX2_meet 42 = .ok (.bipush 40, 2) := by decide +kernel
theorem dX2_meet_44 : decode cX2_meet 44 = .ok (.if_icmp .ge 45, 3) := by decide +kernel
theorem dX2_meet_47 : decode cX2_meet 47 = .ok (.aload_n 0, 1) := by decide +kernel
theorem dX2_meet_48 : decode cX2_meet 48 = .ok (.getfield 9, 3) := by decide +kernel
theorem dX2_meet_51 : decode cX2_meet 51 = .ok (.aload_n 0, 1) := by decide +kernel
theorem dX2_meet_52 : decode cX2_meet 52 = .ok (.getfield 34, 3) := by decide +kernel
theorem dX2_meet_55 : decode cX2_meet 55 = .ok (.iload_n 1, 1) := by decide +kernel
theorem dX2_meet_56 : decode cX2_meet 56 = .ok (.iastore, 1) := by decide +kernel
theorem dX2_meet_57 : decode cX2_meet 57 = .ok (.aload_n 0, 1) := by decide +kernel
theorem dX2_meet_58 : decode cX2_meet 58 = .ok (.dup, 1) := by decide +kernel
theorem dX2_meet_59 : decode cX2_meet 59 = .ok (.getfield 34, 3) := by decide +kernel
theorem dX2_meet_62 : decode cX2_meet 62 = .ok (.iconst 1, 1) := by decide +kernel
theorem dX2_meet_63 : decode cX2_meet 63 = .ok (.iadd, 1) := by decide +kernel
theorem dX2_meet_64 : decode cX2_meet 64 = .ok (.putfield 34, 3) := by decide +kernel
theorem dX2_meet_67 : decode cX2_meet 67 = .ok (.aload_n 0, 1) := by decide +kernel
theorem dX2_meet_68 : decode cX2_meet 68 = .ok (.getfield 18, 3) := by decide +kernel
theorem dX2_meet_71 : decode cX2_meet 71 = .ok (.iload_n 1, 1) := by decide +kernel
theorem dX2_meet_72 : decode cX2_meet 72 = .ok (.iload_n 2, 1) := by decide +kernel
theorem dX2_meet_73 : decode cX2_meet 73 = .ok (.iastore, 1) := by decide +kernel
theorem dX2_meet_74 : decode cX2_meet 74 = .ok (.aload_n 0, 1) := by decide +kernel
theorem dX2_meet_75 : decode cX2_meet 75 = .ok (.getfield 21, 3) := by decide +kernel
theorem dX2_meet_78 : decode cX2_meet 78 = .ok (.iload_n 1, 1) := by decide +kernel
theorem dX2_meet_79 : decode cX2_meet 79 = .ok (.lload_n 3, 1) := by decide +kernel
theorem dX2_meet_80 : decode cX2_meet 80 = .ok (.lastore, 1) := by decide +kernel
theorem dX2_meet_81 : decode cX2_meet 81 = .ok (.aload_n 0, 1) := by decide +kernel
theorem dX2_meet_82 : decode cX2_meet 82 = .ok (.getfield 25, 3) := by decide +kernel
theorem dX2_meet_85 : decode cX2_meet 85 = .ok (.iload_n 1, 1) := by decide +kernel
theorem dX2_meet_86 : decode cX2_meet 86 = .ok (.lload 5, 2) := by decide +kernel
theorem dX2_meet_88 : decode cX2_meet 88 = .ok (.lastore, 1) := by decide +kernel
theorem dX2_meet_89 : decode cX2_meet 89 = .ok (.return_, 1) := by decide +kernel
theorem dX2_meetChildren_0 : decode cX2_meetChildren 0 = .ok (.iload_n 2, 1) := by decide +kernel
theorem dX2_meetChildren_1 : decode cX2_meetChildren 1 = .ok (.ifCond .lt 18, 3) := by decide +kernel
theorem dX2_meetChildren_4 : decode cX2_meetChildren 4 = .ok (.iload_n 2, 1) := by decide +kernel
theorem dX2_meetChildren_5 : decode cX2_meetChildren 5 = .ok (.bipush 40, 2) := by decide +kernel
theorem dX2_meetChildren_7 : decode cX2_meetChildren 7 = .ok (.if_icmp .ge 12, 3) := by decide +kernel
theorem dX2_meetChildren_10 : decode cX2_meetChildren 10 = .ok (.aload_n 1, 1) := by decide +kernel
theorem dX2_meetChildren_11 : decode cX2_meetChildren 11 = .ok (.iload_n 2, 1) := by decide +kernel
theorem dX2_meetChildren_12 : decode cX2_meetChildren 12 = .ok (.invokevirtual 54, 3) := by decide +kernel
theorem dX2_meetChildren_15 : decode cX2_meetChildren 15 = .ok (.iconst 2, 1) := by decide +kernel
theorem dX2_meetChildren_16 : decode cX2_meetChildren 16 = .ok (.if_icmp .eq 4, 3) := by decide +kernel
theorem dX2_meetChildren_19 : decode cX2_meetChildren 19 = .ok (.return_, 1) := by decide +kernel
theorem dX2_meetChildren_20 : decode cX2_meetChildren 20 = .ok (.aload_n 1, 1) := by decide +kernel
theorem dX2_meetChildren_21 : decode cX2_meetChildren 21 = .ok (.iload_n 2, 1) := by decide +kernel
theorem dX2_meetChildren_22 : decode cX2_meetChildren 22 = .ok (.invokevirtual 60, 3) := by decide +kernel
theorem dX2_meetChildren_25 : decode cX2_meetChildren 25 = .ok (.istore_n 3, 1) := by decide +kernel
theorem dX2_meetChildren_26 : decode cX2_meetChildren 26 = .ok (.iconst 0, 1) := by decide +kernel
theorem dX2_meetChildren_27 : decode cX2_meetChildren 27 = .ok (.istore 4, 2) := by decide +kernel
theorem dX2_meetChildren_29 : decode cX2_meetChildren 29 = .ok (.iload 4, 2) := by decide +kernel
theorem dX2_meetChildren_31 : decode cX2_meetChildren 31 = .ok (.iload_n 3, 1) := by decide +kernel
theorem dX2_meetChildren_32 : decode cX2_meetChildren 32 = .ok (.if_icmp .ge 85, 3) := by decide +kernel
theorem dX2_meetChildren_35 : decode cX2_meetChildren 35 = .ok (.iload 4, 2) := by decide +kernel
theorem dX2_meetChildren_37 : decode cX2_meetChildren 37 = .ok (.ifCond .ne 12, 3) := by decide +kernel
theorem dX2_meetChildren_40 : decode cX2_meetChildren 40 = .ok (.aload_n 0, 1) := by decide +kernel
theorem dX2_meetChildren_41 : decode cX2_meetChildren 41 = .ok (.getfield 21, 3) := by decide +kernel
theorem dX2_meetChildren_44 : decode cX2_meetChildren 44 = .ok (.iload_n 2, 1) := by decide +kernel
theorem dX2_meetChildren_45 : decode cX2_meetChildren 45 = .ok (.laload, 1) := by decide +kernel
theorem dX2_meetChildren_46 : decode cX2_meetChildren 46 = .ok (.goto 11, 3) := by decide +kernel
theorem dX2_meetChildren_49 : decode cX2_meetChildren 49 = .ok (.aload_n 1, 1) := by decide +kernel
theorem dX2_meetChildren_50 : decode cX2_meetChildren 50 = .ok (.iload_n 2, 1) := by decide +kernel
theorem dX2_meetChildren_51 : decode cX2_meetChildren 51 = .ok (.iload 4, 2) := by decide +kernel
theorem dX2_meetChildren_53 : decode cX2_meetChildren 53 = .ok (.invokevirtual 63, 3) := by decide +kernel
theorem dX2_meetChildren_56 : decode cX2_meetChildren 56 = .ok (.i2l, 1) := by decide +kernel
theorem dX2_meetChildren_57 : decode cX2_meetChildren 57 = .ok (.lstore 5, 2) := by decide +kernel
theorem dX2_meetChildren_59 : decode cX2_meetChildren 59 = .ok (.iload 4, 2) := by decide +kernel
theorem dX2_meetChildren_61 : decode cX2_meetChildren 61 = .ok (.iconst 1, 1) := by decide +kernel
theorem dX2_meetChildren_62 : decode cX2_meetChildren 62 = .ok (.iadd, 1) := by decide +kernel
theorem dX2_meetChildren_63 : decode cX2_meetChildren 63 = .ok (.iload_n 3, 1) := by decide +kernel
theorem dX2_meetChildren_64 : decode cX2_meetChildren 64 = .ok (.if_icmp .ge 16, 3) := by decide +kernel
theorem dX2_meetChildren_67 : decode cX2_meetChildren 67 = .ok (.aload_n 1, 1) := by decide +kernel
theorem dX2_meetChildren_68 : decode cX2_meetChildren 68 = .ok (.iload_n 2, 1) := by decide +kernel
theorem dX2_meetChildren_69 : decode cX2_meetChildren 69 = .ok (.iload 4, 2) := by decide +kernel
theorem dX2_meetChildren_71 : decode cX2_meetChildren 71 = .ok (.iconst 1, 1) := by decide +kernel
theorem dX2_meetChildren_72 : decode cX2_meetChildren 72 = .ok (.iadd, 1) := by decide +kernel
theorem dX2_meetChildren_73 : decode cX2_meetChildren 73 = .ok (.invokevirtual 63, 3) := by decide +kernel
theorem dX2_meetChildren_76 : decode cX2_meetChildren 76 = .ok (.i2l, 1) := by decide +kernel
theorem dX2_meetChildren_77 : decode cX2_meetChildren 77 = .ok (.goto 9, 3) := by decide +kernel
theorem dX2_meetChildren_80 : decode cX2_meetChildren 80 = .ok (.aload_n 0, 1) := by decide +kernel
theorem dX2_meetChildren_81 : decode cX2_meetChildren 81 = .ok (.getfield 25, 3) := by decide +kernel
theorem dX2_meetChildren_84 : decode cX2_meetChildren 84 = .ok (.iload_n 2, 1) := by decide +kernel
theorem dX2_meetChildren_85 : decode cX2_meetChildren 85 = .ok (.laload, 1) := by decide +kernel
theorem dX2_meetChildren_86 : decode cX2_meetChildren 86 = .ok (.lstore 7, 2) := by decide +kernel
theorem dX2_meetChildren_88 : decode cX2_meetChildren 88 = .ok (.aload_n 0, 1) := by decide +kernel
theorem dX2_meetChildren_89 : decode cX2_meetChildren 89 = .ok (.aload_n 1, 1) := by decide +kernel
theorem dX2_meetChildren_90 : decode cX2_meetChildren 90 = .ok (.iload_n 2, 1) := by decide +kernel
theorem dX2_meetChildren_91 : decode cX2_meetChildren 91 = .ok (.iload 4, 2) := by decide +kernel
theorem dX2_meetChildren_93 : decode cX2_meetChildren 93 = .ok (.invokevirtual 67, 3) := by decide +kernel
theorem dX2_meetChildren_96 : decode cX2_meetChildren 96 = .ok (.aload_n 0, 1) := by decide +kernel
theorem dX2_meetChildren_97 : decode cX2_meetChildren 97 = .ok (.getfield 18, 3) := by decide +kernel
theorem dX2_meetChildren_100 : decode cX2_meetChildren 100 = .ok (.iload_n 2, 1) := by decide +kernel
theorem dX2_meetChildren_101 : decode cX2_meetChildren 101 = .ok (.iaload, 1) := by decide +kernel
theorem dX2_meetChildren_102 : decode cX2_meetChildren 102 = .ok (.iconst 1, 1) := by decide +kernel
theorem dX2_meetChildren_103 : decode cX2_meetChildren 103 = .ok (.iadd, 1) := by decide +kernel
theorem dX2_meetChildren_104 : decode cX2_meetChildren 104 = .ok (.lload 5, 2) := by decide +kernel
theorem dX2_meetChildren_106 : decode cX2_meetChildren 106 = .ok (.lload 7, 2) := by decide +kernel
theorem dX2_meetChildren_108 : decode cX2_meetChildren 108 = .ok (.invokevirtual 42, 3) := by decide +kernel
theorem dX2_meetChildren_111 : decode cX2_meetChildren 111 = .ok (.iinc 4 1, 3) := by decide +kernel
theorem dX2_meetChildren_114 : decode cX2_meetChildren 114 = .ok (.goto (-85), 3) := by decide +kernel
theorem dX2_meetChildren_117 : decode cX2_meetChildren 117 = .ok (.return_, 1) := by decide +kernel
theorem dX2_isAstray_0 : decode cX2_isAstray 0 = .ok (.iload 4, 2) := by decide +kernel
theorem dX2_isAstray_2 : decode cX2_isAstray 2 = .ok (.ifCond .lt 10, 3) := by decide +kernel
theorem dX2_isAstray_5 : decode cX2_isAstray 5 = .ok (.iload 4, 2) := by decide +kernel
theorem dX2_isAstray_7 : decode cX2_isAstray 7 = .ok (.bipush 40, 2) := by decide +kernel
theorem dX2_isAstray_9 : decode cX2_isAstray 9 = .ok (.if_icmp .lt 5, 3) := by decide +kernel
theorem dX2_isAstray_12 : decode cX2_isAstray 12 = .ok (.iconst 0, 1) := by decide +kernel
theorem dX2_isAstray_13 : decode cX2_isAstray 13 = .ok (.ireturn, 1) := by decide +kernel
theorem dX2_isAstray_14 : decode cX2_isAstray 14 = .ok (.aload_n 1, 1) := by decide +kernel
theorem dX2_isAstray_15 : decode cX2_isAstray 15 = .ok (.iload 4, 2) := by decide +kernel
theorem dX2_isAstray_17 : decode cX2_isAstray 17 = .ok (.invokevirtual 54, 3) := by decide +kernel
theorem dX2_isAstray_20 : decode cX2_isAstray 20 = .ok (.ifCond .ne 28, 3) := by decide +kernel
theorem dX2_isAstray_23 : decode cX2_isAstray 23 = .ok (.aload_n 0, 1) := by decide +kernel
theorem dX2_isAstray_24 : decode cX2_isAstray 24 = .ok (.getfield 15, 3) := by decide +kernel
theorem dX2_isAstray_27 : decode cX2_isAstray 27 = .ok (.iload 4, 2) := by decide +kernel
theorem dX2_isAstray_29 : decode cX2_isAstray 29 = .ok (.iaload, 1) := by decide +kernel
theorem dX2_isAstray_30 : decode cX2_isAstray 30 = .ok (.ifCond .ne 12, 3) := by decide +kernel
theorem dX2_isAstray_33 : decode cX2_isAstray 33 = .ok (.aload_n 2, 1) := by decide +kernel
theorem dX2_isAstray_34 : decode cX2_isAstray 34 = .ok (.iload 4, 2) := by decide +kernel
theorem dX2_isAstray_36 : decode cX2_isAstray 36 = .ok (.invokevirtual 70, 3) := by decide +kernel
theorem dX2_isAstray_39 : decode cX2_isAstray 39 = .ok (.ifCond .eq 7, 3) := by decide +kernel
theorem dX2_isAstray_42 : decode cX2_isAstray 42 = .ok (.iconst 1, 1) := by decide +kernel
theorem dX2_isAstray_43 : decode cX2_isAstray 43 = .ok (.goto 4, 3) := by decide +kernel
theorem dX2_isAstray_46 : decode cX2_isAstray 46 = .ok (.iconst 0, 1) := by decide +kernel
theorem dX2_isAstray_47 : decode cX2_isAstray 47 = .ok (.ireturn, 1) := by decide +kernel
theorem dX2_isAstray_48 : decode cX2_isAstray 48 = .ok (.aload_n 0, 1) := by decide +kernel
theorem dX2_isAstray_49 : decode cX2_isAstray 49 = .ok (.getfield 18, 3) := by decide +kernel
theorem dX2_isAstray_52 : decode cX2_isAstray 52 = .ok (.iload 4, 2) := by decide +kernel
theorem dX2_isAstray_54 : decode cX2_isAstray 54 = .ok (.iaload, 1) := by decide +kernel
theorem dX2_isAstray_55 : decode cX2_isAstray 55 = .ok (.aload_n 1, 1) := by decide +kernel
theorem dX2_isAstray_56 : decode cX2_isAstray 56 = .ok (.iload_n 3, 1) := by decide +kernel
theorem dX2_isAstray_57 : decode cX2_isAstray 57 = .ok (.invokevirtual 75, 3) := by decide +kernel
theorem dX2_isAstray_60 : decode cX2_isAstray 60 = .ok (.if_icmp .ne 7, 3) := by decide +kernel
theorem dX2_isAstray_63 : decode cX2_isAstray 63 = .ok (.iconst 1, 1) := by decide +kernel
theorem dX2_isAstray_64 : decode cX2_isAstray 64 = .ok (.goto 4, 3) := by decide +kernel
theorem dX2_isAstray_67 : decode cX2_isAstray 67 = .ok (.iconst 0, 1) := by decide +kernel
theorem dX2_isAstray_68 : decode cX2_isAstray 68 = .ok (.istore 5, 2) := by decide +kernel
theorem dX2_isAstray_70 : decode cX2_isAstray 70 = .ok (.aload_n 0, 1) := by decide +kernel
theorem dX2_isAstray_71 : decode cX2_isAstray 71 = .ok (.getfield 15, 3) := by decide +kernel
theorem dX2_isAstray_74 : decode cX2_isAstray 74 = .ok (.iload 4, 2) := by decide +kernel
theorem dX2_isAstray_76 : decode cX2_isAstray 76 = .ok (.iaload, 1) := by decide +kernel
theorem dX2_isAstray_77 : decode cX2_isAstray 77 = .ok (.iconst 1, 1) := by decide +kernel
theorem dX2_isAstray_78 : decode cX2_isAstray 78 = .ok (.if_icmp .ne 90, 3) := by decide +kernel
theorem dX2_isAstray_81 : decode cX2_isAstray 81 = .ok (.aload_n 2, 1) := by decide +kernel
theorem dX2_isAstray_82 : decode cX2_isAstray 82 = .ok (.iload 4, 2) := by decide +kernel
theorem dX2_isAstray_84 : decode cX2_isAstray 84 = .ok (.invokevirtual 70, 3) := by decide +kernel
theorem dX2_isAstray_87 : decode cX2_isAstray 87 = .ok (.iconst 1, 1) := by decide +kernel
theorem dX2_isAstray_88 : decode cX2_isAstray 88 = .ok (.if_icmp .gt 80, 3) := by decide +kernel
theorem dX2_isAstray_91 : decode cX2_isAstray 91 = .ok (.aload_n 1, 1) := by decide +kernel
theorem dX2_isAstray_92 : decode cX2_isAstray 92 = .ok (.iload 4, 2) := by decide +kernel
theorem dX2_isAstray_94 : decode cX2_isAstray 94 = .ok (.invokevirtual 54, 3) := by decide +kernel
theorem dX2_isAstray_97 : decode cX2_isAstray 97 = .ok (.iconst 1, 1) := by decide +kernel
theorem dX2_isAstray_98 : decode cX2_isAstray 98 = .ok (.if_icmp .ne 7, 3) := by decide +kernel
theorem dX2_isAstray_101 : decode cX2_isAstray 101 = .ok (.iconst 1, 1) := by decide +kernel
theorem dX2_isAstray_102 : decode cX2_isAstray 102 = .ok (.goto 4, 3) := by decide +kernel
theorem dX2_isAstray_105 : decode cX2_isAstray 105 = .ok (.iconst 0, 1) := by decide +kernel
theorem dX2_isAstray_106 : decode cX2_isAstray 106 = .ok (.iload 5, 2) := by decide +kernel
theorem dX2_isAstray_108 : decode cX2_isAstray 108 = .ok (.if_icmp .ne 60, 3) := by decide +kernel
theorem dX2_isAstray_111 : decode cX2_isAstray 111 = .ok (.aload_n 1, 1) := by decide +kernel
theorem dX2_isAstray_112 : decode cX2_isAstray 112 = .ok (.iload 4, 2) := by decide +kernel
theorem dX2_isAstray_114 : decode cX2_isAstray 114 = .ok (.invokevirtual 78, 3) := by decide +kernel
theorem dX2_isAstray_117 : decode cX2_isAstray 117 = .ok (.aload_n 0, 1) := by decide +kernel
theorem dX2_isAstray_118 : decode cX2_isAstray 118 = .ok (.aload_n 1, 1) := by decide +kernel
theorem dX2_isAstray_119 : decode cX2_isAstray 119 = .ok (.iload 4, 2) := by decide +kernel
theorem dX2_isAstray_121 : decode cX2_isAstray 121 = .ok (.invokevirtual 81, 3) := by decide +kernel
theorem dX2_isAstray_124 : decode cX2_isAstray 124 = .ok (.if_icmp .ne 44, 3) := by decide +kernel
theorem dX2_isAstray_127 : decode cX2_isAstray 127 = .ok (.aload_n 0, 1) := by decide +kernel
theorem dX2_isAstray_128 : decode cX2_isAstray 128 = .ok (.aload_n 1, 1) := by decide +kernel
theorem dX2_isAstray_129 : decode cX2_isAstray 129 = .ok (.iload 4, 2) := by decide +kernel
theorem dX2_isAstray_131 : decode cX2_isAstray 131 = .ok (.iload 4, 2) := by decide +kernel
theorem dX2_isAstray_133 : decode cX2_isAstray 133 = .ok (.iload_n 3, 1) := by decide +kernel
theorem dX2_isAstray_134 : decode cX2_isAstray 134 = .ok (.if_icmp .ne 7, 3) := by decide +kernel
theorem dX2_isAstray_137 : decode cX2_isAstray 137 = .ok (.iconst 1, 1) := by decide +kernel
theorem dX2_isAstray_138 : decode cX2_isAstray 138 = .ok (.goto 4, 3) := by decide +kernel
theorem dX2_isAstray_141 : decode cX2_isAstray 141 = .ok (.iconst 0, 1) := by decide +kernel
theorem dX2_isAstray_142 : decode cX2_isAstray 142 = .ok (.invokevirtual 85, 3) := by decide +kernel
theorem dX2_isAstray_145 : decode cX2_isAstray 145 = .ok (.ifCond .eq 23, 3) := by decide +kernel
theorem dX2_isAstray_148 : decode cX2_isAstray 148 = .ok (.aload_n 0, 1) := by decide +kernel
theorem dX2_isAstray_149 : decode cX2_isAstray 149 = .ok (.aload_n 1, 1) := by decide +kernel
theorem dX2_isAstray_150 : decode cX2_isAstray 150 = .ok (.iload 4, 2) := by decide +kernel
theorem dX2_isAstray_152 : decode cX2_isAstray 152 = .ok (.invokevirtual 89, 3) := by decide +kernel
theorem dX2_isAstray_155 : decode cX2_isAstray 155 = .ok (.ifCond .eq 13, 3) := by decide +kernel
theorem dX2_isAstray_158 : decode cX2_isAstray 158 = .ok (.aload_n 0, 1) := by decide +kernel
theorem dX2_isAstray_159 : decode cX2_isAstray 159 = .ok (.aload_n 1, 1) := by decide +kernel
theorem dX2_isAstray_160 : decode cX2_isAstray 160 = .ok (.iload 4, 2) := by decide +kernel
theorem dX2_isAstray_162 : decode cX2_isAstray 162 = .ok (.invokevirtual 93, 3) := by decide +kernel
theorem dX2_isAstray_165 : decode cX2_isAstray 165 = .ok (.ifCond .ne 7, 3) := by decide +kernel
theorem dX2_isAstray_168 : decode cX2_isAstray 168 = .ok (.iconst 1, 1) := by decide +kernel
theorem dX2_isAstray_169 : decode cX2_isAstray 169 = .ok (.goto 4, 3) := by decide +kernel
theorem dX2_isAstray_172 : decode cX2_isAstray 172 = .ok (.iconst 0, 1) := by decide +kernel
theorem dX2_isAstray_173 : decode cX2_isAstray 173 = .ok (.ireturn, 1) := by decide +kernel
theorem dX2_countIsRight_0 : decode cX2_countIsRight 0 = .ok (.aload_n 1, 1) := by decide +kernel
theorem dX2_countIsRight_1 : decode cX2_countIsRight 1 = .ok (.iload_n 2, 1) := by decide +kernel
theorem dX2_countIsRight_2 : decode cX2_countIsRight 2 = .ok (.invokevirtual 60, 3) := by decide +kernel
theorem dX2_countIsRight_5 : decode cX2_countIsRight 5 = .ok (.istore 4, 2) := by decide +kernel
theorem dX2_countIsRight_7 : decode cX2_countIsRight 7 = .ok (.iload_n 3, 1) := by decide +kernel
theorem dX2_countIsRight_8 : decode cX2_countIsRight 8 = .ok (.ifCond .eq 16, 3) := by decide +kernel
theorem dX2_countIsRight_11 : decode cX2_countIsRight 11 = .ok (.aload_n 1, 1) := by decide +kernel
theorem dX2_countIsRight_12 : decode cX2_countIsRight 12 = .ok (.iload_n 2, 1) := by decide +kernel
theorem dX2_countIsRight_13 : decode cX2_countIsRight 13 = .ok (.invokevirtual 54, 3) := by decide +kernel
theorem dX2_countIsRight_16 : decode cX2_countIsRight 16 = .ok (.iconst 1, 1) := by decide +kernel
theorem dX2_countIsRight_17 : decode cX2_countIsRight 17 = .ok (.if_icmp .ne 7, 3) := by decide +kernel
theorem dX2_countIsRight_20 : decode cX2_countIsRight 20 = .ok (.iconst 1, 1) := by decide +kernel
theorem dX2_countIsRight_21 : decode cX2_countIsRight 21 = .ok (.goto 4, 3) := by decide +kernel
theorem dX2_countIsRight_24 : decode cX2_countIsRight 24 = .ok (.iconst 0, 1) := by decide +kernel
theorem dX2_countIsRight_25 : decode cX2_countIsRight 25 = .ok (.istore 5, 2) := by decide +kernel
theorem dX2_countIsRight_27 : decode cX2_countIsRight 27 = .ok (.iload 4, 2) := by decide +kernel
theorem dX2_countIsRight_29 : decode cX2_countIsRight 29 = .ok (.iconst 4, 1) := by decide +kernel
theorem dX2_countIsRight_30 : decode cX2_countIsRight 30 = .ok (.if_icmp .gt 18, 3) := by decide +kernel
theorem dX2_countIsRight_33 : decode cX2_countIsRight 33 = .ok (.iload 4, 2) := by decide +kernel
theorem dX2_countIsRight_35 : decode cX2_countIsRight 35 = .ok (.iconst 2, 1) := by decide +kernel
theorem dX2_countIsRight_36 : decode cX2_countIsRight 36 = .ok (.if_icmp .ge 8, 3) := by decide +kernel
theorem dX2_countIsRight_39 : decode cX2_countIsRight 39 = .ok (.iload 5, 2) := by decide +kernel
theorem dX2_countIsRight_41 : decode cX2_countIsRight 41 = .ok (.ifCond .eq 7, 3) := by decide +kernel
theorem dX2_countIsRight_44 : decode cX2_countIsRight 44 = .ok (.iconst 1, 1) := by decide +kernel
theorem dX2_countIsRight_45 : decode cX2_countIsRight 45 = .ok (.goto 4, 3) := by decide +kernel
theorem dX2_countIsRight_48 : decode cX2_countIsRight 48 = .ok (.iconst 0, 1) := by decide +kernel
theorem dX2_countIsRight_49 : decode cX2_countIsRight 49 = .ok (.ireturn, 1) := by decide +kernel
theorem dX2_childrenArePages_0 : decode cX2_childrenArePages 0 = .ok (.aload_n 1, 1) := by decide +kernel
theorem dX2_childrenArePages_1 : decode cX2_childrenArePages 1 = .ok (.iload_n 2, 1) := by decide +kernel
theorem dX2_childrenArePages_2 : decode cX2_childrenArePages 2 = .ok (.invokevirtual 54, 3) := by decide +kernel
theorem dX2_childrenArePages_5 : decode cX2_childrenArePages 5 = .ok (.iconst 2, 1) := by decide +kernel
theorem dX2_childrenArePages_6 : decode cX2_childrenArePages 6 = .ok (.if_icmp .ne 35, 3) := by decide +kernel
theorem dX2_childrenArePages_9 : decode cX2_childrenArePages 9 = .ok (.iconst 0, 1) := by decide +kernel
theorem dX2_childrenArePages_10 : decode cX2_childrenArePages 10 = .ok (.istore_n 3, 1) := by decide +kernel
theorem dX2_childrenArePages_11 : decode cX2_childrenArePages 11 = .ok (.iload_n 3, 1) := by decide +kernel
theorem dX2_childrenArePages_12 : decode cX2_childrenArePages 12 = .ok (.aload_n 1, 1) := by decide +kernel
theorem dX2_childrenArePages_13 : decode cX2_childrenArePages 13 = .ok (.iload_n 2, 1) := by decide +kernel
theorem dX2_childrenArePages_14 : decode cX2_childrenArePages 14 = .ok (.invokevirtual 60, 3) := by decide +kernel
theorem dX2_childrenArePages_17 : decode cX2_childrenArePages 17 = .ok (.if_icmp .ge 24, 3) := by decide +kernel
theorem dX2_childrenArePages_20 : decode cX2_childrenArePages 20 = .ok (.aload_n 1, 1) := by decide +kernel
theorem dX2_childrenArePages_21 : decode cX2_childrenArePages 21 = .ok (.aload_n 1, 1) := by decide +kernel
theorem dX2_childrenArePages_22 : decode cX2_childrenArePages 22 = .ok (.iload_n 2, 1) := by decide +kernel
theorem dX2_childrenArePages_23 : decode cX2_childrenArePages 23 = .ok (.iload_n 3, 1) := by decide +kernel
theorem dX2_childrenArePages_24 : decode cX2_childrenArePages 24 = .ok (.invokevirtual 67, 3) := by decide +kernel
theorem dX2_childrenArePages_27 : decode cX2_childrenArePages 27 = .ok (.invokevirtual 54, 3) := by decide +kernel
theorem dX2_childrenArePages_30 : decode cX2_childrenArePages 30 = .ok (.ifCond .ne 5, 3) := by decide +kernel
theorem dX2_childrenArePages_33 : decode cX2_childrenArePages 33 = .ok (.iconst 0, 1) := by decide +kernel
theorem dX2_childrenArePages_34 : decode cX2_childrenArePages 34 = .ok (.ireturn, 1) := by decide +kernel
theorem dX2_childrenArePages_35 : decode cX2_childrenArePages 35 = .ok (.iinc 3 1, 3) := by decide +kernel
theorem dX2_childrenArePages_38 : decode cX2_childrenArePages 38 = .ok (.goto (-27), 3) := by decide +kernel
theorem dX2_childrenArePages_41 : decode cX2_childrenArePages 41 = .ok (.iconst 1, 1) := by decide +kernel
theorem dX2_childrenArePages_42 : decode cX2_childrenArePages 42 = .ok (.ireturn, 1) := by decide +kernel
theorem dX2_keysAreInPlace_0 : decode cX2_keysAreInPlace 0 = .ok (.iload_n 2, 1) := by decide +kernel
theorem dX2_keysAreInPlace_1 : decode cX2_keysAreInPlace 1 = .ok (.ifCond .lt 9, 3) := by decide +kernel
theorem dX2_keysAreInPlace_4 : decode cX2_keysAreInPlace 4 = .ok (.iload_n 2, 1) := by decide +kernel
theorem dX2_keysAreInPlace_5 : decode cX2_keysAreInPlace 5 = .ok (.bipush 40, 2) := by decide +kernel
theorem dX2_keysAreInPlace_7 : decode cX2_keysAreInPlace 7 = .ok (.if_icmp .lt 5, 3) := by decide +kernel
theorem dX2_keysAreInPlace_10 : decode cX2_keysAreInPlace 10 = .ok (.iconst 0, 1) := by decide +kernel
theorem dX2_keysAreInPlace_11 : decode cX2_keysAreInPlace 11 = .ok (.ireturn, 1) := by decide +kernel
theorem dX2_keysAreInPlace_12 : decode cX2_keysAreInPlace 12 = .ok (.aload_n 1, 1) := by decide +kernel
theorem dX2_keysAreInPlace_13 : decode cX2_keysAreInPlace 13 = .ok (.iload_n 2, 1) := by decide +kernel
theorem dX2_keysAreInPlace_14 : decode cX2_keysAreInPlace 14 = .ok (.invokevirtual 54, 3) := by decide +kernel
theorem dX2_keysAreInPlace_17 : decode cX2_keysAreInPlace 17 = .ok (.iconst 1, 1) := by decide +kernel
theorem dX2_keysAreInPlace_18 : decode cX2_keysAreInPlace 18 = .ok (.if_icmp .ne 7, 3) := by decide +kernel
theorem dX2_keysAreInPlace_21 : decode cX2_keysAreInPlace 21 = .ok (.iconst 0, 1) := by decide +kernel
theorem dX2_keysAreInPlace_22 : decode cX2_keysAreInPlace 22 = .ok (.goto 4, 3) := by decide +kernel
theorem dX2_keysAreInPlace_25 : decode cX2_keysAreInPlace 25 = .ok (.iconst 1, 1) := by decide +kernel
theorem dX2_keysAreInPlace_26 : decode cX2_keysAreInPlace 26 = .ok (.istore_n 3, 1) := by decide +kernel
theorem dX2_keysAreInPlace_27 : decode cX2_keysAreInPlace 27 = .ok (.aload_n 0, 1) := by decide +kernel
theorem dX2_keysAreInPlace_28 : decode cX2_keysAreInPlace 28 = .ok (.getfield 21, 3) := by decide +kernel
theorem dX2_keysAreInPlace_31 : decode cX2_keysAreInPlace 31 = .ok (.iload_n 2, 1) := by decide +kernel
theorem dX2_keysAreInPlace_32 : decode cX2_keysAreInPlace 32 = .ok (.laload, 1) := by decide +kernel
theorem dX2_keysAreInPlace_33 : decode cX2_keysAreInPlace 33 = .ok (.lstore 4, 2) := by decide +kernel
theorem dX2_keysAreInPlace_35 : decode cX2_keysAreInPlace 35 = .ok (.iload_n 3, 1) := by decide +kernel
theorem dX2_keysAreInPlace_36 : decode cX2_keysAreInPlace 36 = .ok (.istore 6, 2) := by decide +kernel
theorem dX2_keysAreInPlace_38 : decode cX2_keysAreInPlace 38 = .ok (.iload 6, 2) := by decide +kernel
theorem dX2_keysAreInPlace_40 : decode cX2_keysAreInPlace 40 = .ok (.aload_n 1, 1) := by decide +kernel
theorem dX2_keysAreInPlace_41 : decode cX2_keysAreInPlace 41 = .ok (.iload_n 2, 1) := by decide +kernel
theorem dX2_keysAreInPlace_42 : decode cX2_keysAreInPlace 42 = .ok (.invokevirtual 60, 3) := by decide +kernel
theorem dX2_keysAreInPlace_45 : decode cX2_keysAreInPlace 45 = .ok (.if_icmp .ge 47, 3) := by decide +kernel
theorem dX2_keysAreInPlace_48 : decode cX2_keysAreInPlace 48 = .ok (.aload_n 1, 1) := by decide +kernel
theorem dX2_keysAreInPlace_49 : decode cX2_keysAreInPlace 49 = .ok (.iload_n 2, 1) := by decide +kernel
theorem dX2_keysAreInPlace_50 : decode cX2_keysAreInPlace 50 = .ok (.iload 6, 2) := by decide +kernel
theorem dX2_keysAreInPlace_52 : decode cX2_keysAreInPlace 52 = .ok (.invokevirtual 63, 3) := by decide +kernel
theorem dX2_keysAreInPlace_55 : decode cX2_keysAreInPlace 55 = .ok (.i2l, 1) := by decide +kernel
theorem dX2_keysAreInPlace_56 : decode cX2_keysAreInPlace 56 = .ok (.lstore 7, 2) := by decide +kernel
theorem dX2_keysAreInPlace_58 : decode cX2_keysAreInPlace 58 = .ok (.lload 7, 2) := by decide +kernel
theorem dX2_keysAreInPlace_60 : decode cX2_keysAreInPlace 60 = .ok (.lload 4, 2) := by decide +kernel
theorem dX2_keysAreInPlace_62 : decode cX2_keysAreInPlace 62 = .ok (.lcmp, 1) := by decide +kernel
theorem dX2_keysAreInPlace_63 : decode cX2_keysAreInPlace 63 = .ok (.ifCond .lt 15, 3) := by decide +kernel
theorem dX2_keysAreInPlace_66 : decode cX2_keysAreInPlace 66 = .ok (.lload 7, 2) := by decide +kernel
theorem dX2_keysAreInPlace_68 : decode cX2_keysAreInPlace 68 = .ok (.aload_n 0, 1) := by decide +kernel
theorem dX2_keysAreInPlace_69 : decode cX2_keysAreInPlace 69 = .ok (.getfield 25, 3) := by decide +kernel
theorem dX2_keysAreInPlace_72 : decode cX2_keysAreInPlace 72 = .ok (.iload_n 2, 1) := by decide +kernel
theorem dX2_keysAreInPlace_73 : decode cX2_keysAreInPlace 73 = .ok (.laload, 1) := by decide +kernel
theorem dX2_keysAreInPlace_74 : decode cX2_keysAreInPlace 74 = .ok (.lcmp, 1) := by decide +kernel
theorem dX2_keysAreInPlace_75 : decode cX2_keysAreInPlace 75 = .ok (.ifCond .lt 5, 3) := by decide +kernel
theorem dX2_keysAreInPlace_78 : decode cX2_keysAreInPlace 78 = .ok (.iconst 0, 1) := by decide +kernel
theorem dX2_keysAreInPlace_79 : decode cX2_keysAreInPlace 79 = .ok (.ireturn, 1) := by decide +kernel
theorem dX2_keysAreInPlace_80 : decode cX2_keysAreInPlace 80 = .ok (.lload 7, 2) := by decide +kernel
theorem dX2_keysAreInPlace_82 : decode cX2_keysAreInPlace 82 = .ok (.lconst 1, 1) := by decide +kernel
theorem dX2_keysAreInPlace_83 : decode cX2_keysAreInPlace 83 = .ok (.ladd, 1) := by decide +kernel
theorem dX2_keysAreInPlace_84 : decode cX2_keysAreInPlace 84 = .ok (.lstore 4, 2) := by decide +kernel
theorem dX2_keysAreInPlace_86 : decode cX2_keysAreInPlace 86 = .ok (.iinc 6 1, 3) := by decide +kernel
theorem dX2_keysAreInPlace_89 : decode cX2_keysAreInPlace 89 = .ok (.goto (-51), 3) := by decide +kernel
theorem dX2_keysAreInPlace_92 : decode cX2_keysAreInPlace 92 = .ok (.iconst 1, 1) := by decide +kernel
theorem dX2_keysAreInPlace_93 : decode cX2_keysAreInPlace 93 = .ok (.ireturn, 1) := by decide +kernel
theorem dX2_leafDueAfter_0 : decode cX2_leafDueAfter 0 = .ok (.aload_n 1, 1) := by decide +kernel
theorem dX2_leafDueAfter_1 : decode cX2_leafDueAfter 1 = .ok (.iload_n 2, 1) := by decide +kernel
theorem dX2_leafDueAfter_2 : decode cX2_leafDueAfter 2 = .ok (.invokevirtual 54, 3) := by decide +kernel
theorem dX2_leafDueAfter_5 : decode cX2_leafDueAfter 5 = .ok (.iconst 1, 1) := by decide +kernel
theorem dX2_leafDueAfter_6 : decode cX2_leafDueAfter 6 = .ok (.if_icmp .ne 48, 3) := by decide +kernel
theorem dX2_leafDueAfter_9 : decode cX2_leafDueAfter 9 = .ok (.iconst 0, 1) := by decide +kernel
theorem dX2_leafDueAfter_10 : decode cX2_leafDueAfter 10 = .ok (.istore_n 3, 1) := by decide +kernel
theorem dX2_leafDueAfter_11 : decode cX2_leafDueAfter 11 = .ok (.iload_n 3, 1) := by decide +kernel
theorem dX2_leafDueAfter_12 : decode cX2_leafDueAfter 12 = .ok (.iconst 1, 1) := by decide +kernel
theorem dX2_leafDueAfter_13 : decode cX2_leafDueAfter 13 = .ok (.iadd, 1) := by decide +kernel
theorem dX2_leafDueAfter_14 : decode cX2_leafDueAfter 14 = .ok (.bipush 40, 2) := by decide +kernel
theorem dX2_leafDueAfter_16 : decode cX2_leafDueAfter 16 = .ok (.if_icmp .ge 38, 3) := by decide +kernel
theorem dX2_leafDueAfter_19 : decode cX2_leafDueAfter 19 = .ok (.iload_n 3, 1) := by decide +kernel
theorem dX2_leafDueAfter_20 : decode cX2_leafDueAfter 20 = .ok (.iconst 1, 1) := by decide +kernel
theorem dX2_leafDueAfter_21 : decode cX2_leafDueAfter 21 = .ok (.iadd, 1) := by decide +kernel
theorem dX2_leafDueAfter_22 : decode cX2_leafDueAfter 22 = .ok (.aload_n 0, 1) := by decide +kernel
theorem dX2_leafDueAfter_23 : decode cX2_leafDueAfter 23 = .ok (.getfield 34, 3) := by decide +kernel
theorem dX2_leafDueAfter_26 : decode cX2_leafDueAfter 26 = .ok (.if_icmp .ge 28, 3) := by decide +kernel
theorem dX2_leafDueAfter_29 : decode cX2_leafDueAfter 29 = .ok (.aload_n 0, 1) := by decide +kernel
theorem dX2_leafDueAfter_30 : decode cX2_leafDueAfter 30 = .ok (.getfield 9, 3) := by decide +kernel
theorem dX2_leafDueAfter_33 : decode cX2_leafDueAfter 33 = .ok (.iload_n 3, 1) := by decide +kernel
theorem dX2_leafDueAfter_34 : decode cX2_leafDueAfter 34 = .ok (.iaload, 1) := by decide +kernel
theorem dX2_leafDueAfter_35 : decode cX2_leafDueAfter 35 = .ok (.iload_n 2, 1) := by decide +kernel
theorem dX2_leafDueAfter_36 : decode cX2_leafDueAfter 36 = .ok (.if_icmp .ne 12, 3) := by decide +kernel
theorem dX2_leafDueAfter_39 : decode cX2_leafDueAfter 39 = .ok (.aload_n 0, 1) := by decide +kernel
theorem dX2_leafDueAfter_40 : decode cX2_leafDueAfter 40 = .ok (.getfield 9, 3) := by decide +kernel
theorem dX2_leafDueAfter_43 : decode cX2_leafDueAfter 43 = .ok (.iload_n 3, 1) := by decide +kernel
theorem dX2_leafDueAfter_44 : decode cX2_leafDueAfter 44 = .ok (.iconst 1, 1) := by decide +kernel
theorem dX2_leafDueAfter_45 : decode cX2_leafDueAfter 45 = .ok (.iadd, 1) := by decide +kernel
theorem dX2_leafDueAfter_46 : decode cX2_leafDueAfter 46 = .ok (.iaload, 1) := by decide +kernel
theorem dX2_leafDueAfter_47 : decode cX2_leafDueAfter 47 = .ok (.ireturn, 1) := by decide +kernel
theorem dX2_leafDueAfter_48 : decode cX2_leafDueAfter 48 = .ok (.iinc 3 1, 3) := by decide +kernel
theorem dX2_leafDueAfter_51 : decode cX2_leafDueAfter 51 = .ok (.goto (-40), 3) := by decide +kernel
theorem dX2_leafDueAfter_54 : decode cX2_leafDueAfter 54 = .ok (.iconst (-1), 1) := by decide +kernel
theorem dX2_leafDueAfter_55 : decode cX2_leafDueAfter 55 = .ok (.ireturn, 1) := by decide +kernel
theorem dX3_init_0 : decode cX3_init 0 = .ok (.aload_n 0, 1) := by decide +kernel
theorem dX3_init_1 : decode cX3_init 1 = .ok (.invokespecial 3, 3) := by decide +kernel
theorem dX3_init_4 : decode cX3_init 4 = .ok (.aload_n 0, 1) := by decide +kernel
theorem dX3_init_5 : decode cX3_init 5 = .ok (.bipush 6, 2) := by decide +kernel
theorem dX3_init_7 : decode cX3_init 7 = .ok (.newarray .int, 2) := by decide +kernel
theorem dX3_init_9 : decode cX3_init 9 = .ok (.putfield 9, 3) := by decide +kernel
theorem dX3_init_12 : decode cX3_init 12 = .ok (.aload_n 0, 1) := by decide +kernel
theorem dX3_init_13 : decode cX3_init 13 = .ok (.bipush 6, 2) := by decide +kernel
theorem dX3_init_15 : decode cX3_init 15 = .ok (.newarray .int, 2) := by decide +kernel
theorem dX3_init_17 : decode cX3_init 17 = .ok (.putfield 15, 3) := by decide +kernel
theorem dX3_init_20 : decode cX3_init 20 = .ok (.aload_n 0, 1) := by decide +kernel
theorem dX3_init_21 : decode cX3_init 21 = .ok (.iconst 0, 1) := by decide +kernel
theorem dX3_init_22 : decode cX3_init 22 = .ok (.putfield 18, 3) := by decide +kernel
theorem dX3_init_25 : decode cX3_init 25 = .ok (.return_, 1) := by decide +kernel
theorem dX3_lead_0 : decode cX3_lead 0 = .ok (.aload_n 0, 1) := by decide +kernel
theorem dX3_lead_1 : decode cX3_lead 1 = .ok (.iconst 0, 1) := by decide +kernel
theorem dX3_lead_2 : decode cX3_lead 2 = .ok (.putfield 18, 3) := by decide +kernel
theorem dX3_lead_5 : decode cX3_lead 5 = .ok (.aload_n 0, 1) := by decide +kernel
theorem dX3_lead_6 : decode cX3_lead 6 = .ok (.iload_n 2, 1) := by decide +kernel
theorem dX3_lead_7 : decode cX3_lead 7 = .ok (.iconst 0, 1) := by decide +kernel
theorem dX3_lead_8 : decode cX3_lead 8 = .ok (.invokevirtual 22, 3) := by decide +kernel
end
section
theorem dX3_lead_11 : decode cX3_lead 11 = .ok (.iconst 1, 1) := by decide +kernel
theorem dX3_lead_12 : decode cX3_lead 12 = .ok (.istore 4, 2) := by decide +kernel
theorem dX3_lead_14 : decode cX3_lead 14 = .ok (.iload 4, 2) := by decide +kernel
theorem dX3_lead_16 : decode cX3_lead 16 = .ok (.bipush 6, 2) := by decide +kernel
theorem dX3_lead_18 : decode cX3_lead 18 = .ok (.if_icmp .ge 48, 3) := by decide +kernel
theorem dX3_lead_21 : decode cX3_lead 21 = .ok (.aload_n 1, 1) := by decide +kernel
theorem dX3_lead_22 : decode cX3_lead 22 = .ok (.aload_n 0, 1) := by decide +kernel
theorem dX3_lead_23 : decode cX3_lead 23 = .ok (.invokevirtual 26, 3) := by decide +kernel
theorem dX3_lead_26 : decode cX3_lead 26 = .ok (.invokevirtual 30, 3) := by decide +kernel
theorem dX3_lead_29 : decode cX3_lead 29 = .ok (.iconst 2, 1) := by decide +kernel
theorem dX3_lead_30 : decode cX3_lead 30 = .ok (.if_icmp .ne 36, 3) := by decide +kernel
theorem dX3_lead_33 : decode cX3_lead 33 = .ok (.aload_n 1, 1) := by decide +kernel
theorem dX3_lead_34 : decode cX3_lead 34 = .ok (.aload_n 0, 1) := by decide +kernel
theorem dX3_lead_35 : decode cX3_lead 35 = .ok (.invokevirtual 26, 3) := by decide +kernel
theorem dX3_lead_38 : decode cX3_lead 38 = .ok (.iload_n 3, 1) := by decide +kernel
theorem dX3_lead_39 : decode cX3_lead 39 = .ok (.invokevirtual 36, 3) := by decide +kernel
theorem dX3_lead_42 : decode cX3_lead 42 = .ok (.istore 5, 2) := by decide +kernel
theorem dX3_lead_44 : decode cX3_lead 44 = .ok (.aload_n 0, 1) := by decide +kernel
theorem dX3_lead_45 : decode cX3_lead 45 = .ok (.aload_n 1, 1) := by decide +kernel
theorem dX3_lead_46 : decode cX3_lead 46 = .ok (.aload_n 0, 1) := by decide +kernel
theorem dX3_lead_47 : decode cX3_lead 47 = .ok (.invokevirtual 26, 3) := by decide +kernel
theorem dX3_lead_50 : decode cX3_lead 50 = .ok (.iload 5, 2) := by decide +kernel
theorem dX3_lead_52 : decode cX3_lead 52 = .ok (.invokevirtual 40, 3) := by decide +kernel
theorem dX3_lead_55 : decode cX3_lead 55 = .ok (.iload 5, 2) := by decide +kernel
theorem dX3_lead_57 : decode cX3_lead 57 = .ok (.invokevirtual 22, 3) := by decide +kernel
theorem dX3_lead_60 : decode cX3_lead 60 = .ok (.iinc 4 1, 3) := by decide +kernel
theorem dX3_lead_63 : decode cX3_lead 63 = .ok (.goto (-49), 3) := by decide +kernel
theorem dX3_lead_66 : decode cX3_lead 66 = .ok (.return_, 1) := by decide +kernel
theorem dX3_add_0 : decode cX3_add 0 = .ok (.aload_n 0, 1) := by decide +kernel
theorem dX3_add_1 : decode cX3_add 1 = .ok (.getfield 18, 3) := by decide +kernel
theorem dX3_add_4 : decode cX3_add 4 = .ok (.ifCond .lt 42, 3) := by decide +kernel
theorem dX3_add_7 : decode cX3_add 7 = .ok (.aload_n 0, 1) := by decide +kernel
theorem dX3_add_8 : decode cX3_add 8 = .ok (.getfield 18, 3) := by decide +kernel
theorem dX3_add_11 : decode cX3_add 11 = .ok (.bipush 6, 2) := by decide +kernel
theorem dX3_add_13 : decode cX3_add 13 = .ok (.if_icmp .ge 33, 3) := by decide +kernel
theorem dX3_add_16 : decode cX3_add 16 = .ok (.aload_n 0, 1) := by decide +kernel
theorem dX3_add_17 : decode cX3_add 17 = .ok (.getfield 9, 3) := by decide +kernel
theorem dX3_add_20 : decode cX3_add 20 = .ok (.aload_n 0, 1) := by decide +kernel
theorem dX3_add_21 : decode cX3_add 21 = .ok (.getfield 18, 3) := by decide +kernel
theorem dX3_add_24 : decode cX3_add 24 = .ok (.iload_n 1, 1) := by decide +kernel
theorem dX3_add_25 : decode cX3_add 25 = .ok (.iastore, 1) := by decide +kernel
theorem dX3_add_26 : decode cX3_add 26 = .ok (.aload_n 0, 1) := by decide +kernel
theorem dX3_add_27 : decode cX3_add 27 = .ok (.getfield 15, 3) := by decide +kernel
theorem dX3_add_30 : decode cX3_add 30 = .ok (.aload_n 0, 1) := by decide +kernel
theorem dX3_add_31 : decode cX3_add 31 = .ok (.getfield 18, 3) := by decide +kernel
theorem dX3_add_34 : decode cX3_add 34 = .ok (.iload_n 2, 1) := by decide +kernel
theorem dX3_add_35 : decode cX3_add 35 = .ok (.iastore, 1) := by decide +kernel
theorem dX3_add_36 : decode cX3_add 36 = .ok (.aload_n 0, 1) := by decide +kernel
theorem dX3_add_37 : decode cX3_add 37 = .ok (.dup, 1) := by decide +kernel
theorem dX3_add_38 : decode cX3_add 38 = .ok (.getfield 18, 3) := by decide +kernel
theorem dX3_add_41 : decode cX3_add 41 = .ok (.iconst 1, 1) := by decide +kernel
theorem dX3_add_42 : decode cX3_add 42 = .ok (.iadd, 1) := by decide +kernel
theorem dX3_add_43 : decode cX3_add 43 = .ok (.putfield 18, 3) := by decide +kernel
theorem dX3_add_46 : decode cX3_add 46 = .ok (.return_, 1) := by decide +kernel
theorem dX3_length_0 : decode cX3_length 0 = .ok (.aload_n 0, 1) := by decide +kernel
theorem dX3_length_1 : decode cX3_length 1 = .ok (.getfield 18, 3) := by decide +kernel
theorem dX3_length_4 : decode cX3_length 4 = .ok (.ireturn, 1) := by decide +kernel
theorem dX3_pageAt_0 : decode cX3_pageAt 0 = .ok (.iload_n 1, 1) := by decide +kernel
theorem dX3_pageAt_1 : decode cX3_pageAt 1 = .ok (.ifCond .lt 18, 3) := by decide +kernel
theorem dX3_pageAt_4 : decode cX3_pageAt 4 = .ok (.iload_n 1, 1) := by decide +kernel
theorem dX3_pageAt_5 : decode cX3_pageAt 5 = .ok (.bipush 6, 2) := by decide +kernel
theorem dX3_pageAt_7 : decode cX3_pageAt 7 = .ok (.if_icmp .ge 12, 3) := by decide +kernel
theorem dX3_pageAt_10 : decode cX3_pageAt 10 = .ok (.aload_n 0, 1) := by decide +kernel
theorem dX3_pageAt_11 : decode cX3_pageAt 11 = .ok (.getfield 9, 3) := by decide +kernel
theorem dX3_pageAt_14 : decode cX3_pageAt 14 = .ok (.iload_n 1, 1) := by decide +kernel
theorem dX3_pageAt_15 : decode cX3_pageAt 15 = .ok (.iaload, 1) := by decide +kernel
theorem dX3_pageAt_16 : decode cX3_pageAt 16 = .ok (.goto 4, 3) := by decide +kernel
theorem dX3_pageAt_19 : decode cX3_pageAt 19 = .ok (.iconst (-1), 1) := by decide +kernel
theorem dX3_pageAt_20 : decode cX3_pageAt 20 = .ok (.ireturn, 1) := by decide +kernel
theorem dX3_slotAt_0 : decode cX3_slotAt 0 = .ok (.iload_n 1, 1) := by decide +kernel
theorem dX3_slotAt_1 : decode cX3_slotAt 1 = .ok (.ifCond .lt 18, 3) := by decide +kernel
theorem dX3_slotAt_4 : decode cX3_slotAt 4 = .ok (.iload_n 1, 1) := by decide +kernel
theorem dX3_slotAt_5 : decode cX3_slotAt 5 = .ok (.bipush 6, 2) := by decide +kernel
theorem dX3_slotAt_7 : decode cX3_slotAt 7 = .ok (.if_icmp .ge 12, 3) := by decide +kernel
theorem dX3_slotAt_10 : decode cX3_slotAt 10 = .ok (.aload_n 0, 1) := by decide +kernel
theorem dX3_slotAt_11 : decode cX3_slotAt 11 = .ok (.getfield 15, 3) := by decide +kernel
theorem dX3_slotAt_14 : decode cX3_slotAt 14 = .ok (.iload_n 1, 1) := by decide +kernel
theorem dX3_slotAt_15 : decode cX3_slotAt 15 = .ok (.iaload, 1) := by decide +kernel
theorem dX3_slotAt_16 : decode cX3_slotAt 16 = .ok (.goto 4, 3) := by decide +kernel
theorem dX3_slotAt_19 : decode cX3_slotAt 19 = .ok (.iconst 0, 1) := by decide +kernel
theorem dX3_slotAt_20 : decode cX3_slotAt 20 = .ok (.ireturn, 1) := by decide +kernel
theorem dX3_leaf_0 : decode cX3_leaf 0 = .ok (.aload_n 0, 1) := by decide +kernel
theorem dX3_leaf_1 : decode cX3_leaf 1 = .ok (.aload_n 0, 1) := by decide +kernel
theorem dX3_leaf_2 : decode cX3_leaf 2 = .ok (.getfield 18, 3) := by decide +kernel
theorem dX3_leaf_5 : decode cX3_leaf 5 = .ok (.iconst 1, 1) := by decide +kernel
theorem dX3_leaf_6 : decode cX3_leaf 6 = .ok (.isub, 1) := by decide +kernel
theorem dX3_leaf_7 : decode cX3_leaf 7 = .ok (.invokevirtual 43, 3) := by decide +kernel
theorem dX3_leaf_10 : decode cX3_leaf 10 = .ok (.ireturn, 1) := by decide +kernel
theorem dX4_init_0 : decode cX4_init 0 = .ok (.aload_n 0, 1) := by decide +kernel
theorem dX4_init_1 : decode cX4_init 1 = .ok (.invokespecial 3, 3) := by decide +kernel
theorem dX4_init_4 : decode cX4_init 4 = .ok (.aload_n 0, 1) := by decide +kernel
theorem dX4_init_5 : decode cX4_init 5 = .ok (.new 9, 3) := by decide +kernel
theorem dX4_init_8 : decode cX4_init 8 = .ok (.dup, 1) := by decide +kernel
theorem dX4_init_9 : decode cX4_init 9 = .ok (.invokespecial 11, 3) := by decide +kernel
theorem dX4_init_12 : decode cX4_init 12 = .ok (.putfield 12, 3) := by decide +kernel
theorem dX4_init_15 : decode cX4_init 15 = .ok (.aload_n 0, 1) := by decide +kernel
theorem dX4_init_16 : decode cX4_init 16 = .ok (.new 16, 3) := by decide +kernel
theorem dX4_init_19 : decode cX4_init 19 = .ok (.dup, 1) := by decide +kernel
theorem dX4_init_20 : decode cX4_init 20 = .ok (.invokespecial 18, 3) := by decide +kernel
theorem dX4_init_23 : decode cX4_init 23 = .ok (.putfield 19, 3) := by decide +kernel
theorem dX4_init_26 : decode cX4_init 26 = .ok (.aload_n 0, 1) := by decide +kernel
theorem dX4_init_27 : decode cX4_init 27 = .ok (.new 23, 3) := by decide +kernel
theorem dX4_init_30 : decode cX4_init 30 = .ok (.dup, 1) := by decide +kernel
theorem dX4_init_31 : decode cX4_init 31 = .ok (.invokespecial 25, 3) := by decide +kernel
theorem dX4_init_34 : decode cX4_init 34 = .ok (.putfield 26, 3) := by decide +kernel
theorem dX4_init_37 : decode cX4_init 37 = .ok (.aload_n 0, 1) := by decide +kernel
theorem dX4_init_38 : decode cX4_init 38 = .ok (.new 30, 3) := by decide +kernel
theorem dX4_init_41 : decode cX4_init 41 = .ok (.dup, 1) := by decide +kernel
theorem dX4_init_42 : decode cX4_init 42 = .ok (.invokespecial 32, 3) := by decide +kernel
theorem dX4_init_45 : decode cX4_init 45 = .ok (.putfield 33, 3) := by decide +kernel
theorem dX4_init_48 : decode cX4_init 48 = .ok (.aload_n 0, 1) := by decide +kernel
theorem dX4_init_49 : decode cX4_init 49 = .ok (.iconst 0, 1) := by decide +kernel
theorem dX4_init_50 : decode cX4_init 50 = .ok (.putfield 37, 3) := by decide +kernel
theorem dX4_init_53 : decode cX4_init 53 = .ok (.aload_n 0, 1) := by decide +kernel
theorem dX4_init_54 : decode cX4_init 54 = .ok (.iconst 0, 1) := by decide +kernel
theorem dX4_init_55 : decode cX4_init 55 = .ok (.putfield 41, 3) := by decide +kernel
theorem dX4_init_58 : decode cX4_init 58 = .ok (.aload_n 0, 1) := by decide +kernel
theorem dX4_init_59 : decode cX4_init 59 = .ok (.iconst (-1), 1) := by decide +kernel
theorem dX4_init_60 : decode cX4_init 60 = .ok (.putfield 44, 3) := by decide +kernel
theorem dX4_init_63 : decode cX4_init 63 = .ok (.aload_n 0, 1) := by decide +kernel
theorem dX4_init_64 : decode cX4_init 64 = .ok (.getfield 12, 3) := by decide +kernel
theorem dX4_init_67 : decode cX4_init 67 = .ok (.aload_n 0, 1) := by decide +kernel
theorem dX4_init_68 : decode cX4_init 68 = .ok (.getfield 37, 3) := by decide +kernel
theorem dX4_init_71 : decode cX4_init 71 = .ok (.iconst 1, 1) := by decide +kernel
theorem dX4_init_72 : decode cX4_init 72 = .ok (.invokevirtual 47, 3) := by decide +kernel
theorem dX4_init_75 : decode cX4_init 75 = .ok (.return_, 1) := by decide +kernel
theorem dX4_put_0 : decode cX4_put 0 = .ok (.aload_n 0, 1) := by decide +kernel
theorem dX4_put_1 : decode cX4_put 1 = .ok (.getfield 26, 3) := by decide +kernel
theorem dX4_put_4 : decode cX4_put 4 = .ok (.aload_n 0, 1) := by decide +kernel
theorem dX4_put_5 : decode cX4_put 5 = .ok (.getfield 12, 3) := by decide +kernel
theorem dX4_put_8 : decode cX4_put 8 = .ok (.aload_n 0, 1) := by decide +kernel
theorem dX4_put_9 : decode cX4_put 9 = .ok (.getfield 37, 3) := by decide +kernel
theorem dX4_put_12 : decode cX4_put 12 = .ok (.iload_n 1, 1) := by decide +kernel
theorem dX4_put_13 : decode cX4_put 13 = .ok (.invokevirtual 51, 3) := by decide +kernel
theorem dX4_put_16 : decode cX4_put 16 = .ok (.aload_n 0, 1) := by decide +kernel
theorem dX4_put_17 : decode cX4_put 17 = .ok (.getfield 26, 3) := by decide +kernel
theorem dX4_put_20 : decode cX4_put 20 = .ok (.invokevirtual 55, 3) := by decide +kernel
theorem dX4_put_23 : decode cX4_put 23 = .ok (.istore_n 3, 1) := by decide +kernel
theorem dX4_put_24 : decode cX4_put 24 = .ok (.aload_n 0, 1) := by decide +kernel
theorem dX4_put_25 : decode cX4_put 25 = .ok (.getfield 12, 3) := by decide +kernel
theorem dX4_put_28 : decode cX4_put 28 = .ok (.iload_n 3, 1) := by decide +kernel
theorem dX4_put_29 : decode cX4_put 29 = .ok (.iload_n 1, 1) := by decide +kernel
theorem dX4_put_30 : decode cX4_put 30 = .ok (.invokevirtual 59, 3) := by decide +kernel
theorem dX4_put_33 : decode cX4_put 33 = .ok (.istore 4, 2) := by decide +kernel
theorem dX4_put_35 : decode cX4_put 35 = .ok (.aload_n 0, 1) := by decide +kernel
theorem dX4_put_36 : decode cX4_put 36 = .ok (.getfield 12, 3) := by decide +kernel
theorem dX4_put_39 : decode cX4_put 39 = .ok (.iload_n 3, 1) := by decide +kernel
theorem dX4_put_40 : decode cX4_put 40 = .ok (.iload 4, 2) := by decide +kernel
theorem dX4_put_42 : decode cX4_put 42 = .ok (.iload_n 1, 1) := by decide +kernel
theorem dX4_put_43 : decode cX4_put 43 = .ok (.invokevirtual 63, 3) := by decide +kernel
theorem dX4_put_46 : decode cX4_put 46 = .ok (.istore 5, 2) := by decide +kernel
theorem dX4_put_48 : decode cX4_put 48 = .ok (.iload 5, 2) := by decide +kernel
theorem dX4_put_50 : decode cX4_put 50 = .ok (.ifCond .ne 27, 3) := by decide +kernel
theorem dX4_put_53 : decode cX4_put 53 = .ok (.aload_n 0, 1) := by decide +kernel
theorem dX4_put_54 : decode cX4_put 54 = .ok (.invokevirtual 67, 3) := by decide +kernel
theorem dX4_put_57 : decode cX4_put 57 = .ok (.aload_n 0, 1) := by decide +kernel
theorem dX4_put_58 : decode cX4_put 58 = .ok (.getfield 12, 3) := by decide +kernel
theorem dX4_put_61 : decode cX4_put 61 = .ok (.invokevirtual 70, 3) := by decide +kernel
theorem dX4_put_64 : decode cX4_put 64 = .ok (.if_icmp .le 13, 3) := by decide +kernel
theorem dX4_put_67 : decode cX4_put 67 = .ok (.new 73, 3) := by decide +kernel
theorem dX4_put_70 : decode cX4_put 70 = .ok (.dup, 1) := by decide +kernel
theorem dX4_put_71 : decode cX4_put 71 = .ok (.ldc 75, 2) := by decide +kernel
theorem dX4_put_73 : decode cX4_put 73 = .ok (.invokespecial 77, 3) := by decide +kernel
theorem dX4_put_76 : decode cX4_put 76 = .ok (.athrow, 1) := by decide +kernel
theorem dX4_put_77 : decode cX4_put 77 = .ok (.aload_n 0, 1) := by decide +kernel
theorem dX4_put_78 : decode cX4_put 78 = .ok (.invokevirtual 80, 3) := by decide +kernel
theorem dX4_put_81 : decode cX4_put 81 = .ok (.aload_n 0, 1) := by decide +kernel
theorem dX4_put_82 : decode cX4_put 82 = .ok (.invokevirtual 83, 3) := by decide +kernel
theorem dX4_put_85 : decode cX4_put 85 = .ok (.aload_n 0, 1) := by decide +kernel
theorem dX4_put_86 : decode cX4_put 86 = .ok (.getfield 19, 3) := by decide +kernel
theorem dX4_put_89 : decode cX4_put 89 = .ok (.iload_n 3, 1) := by decide +kernel
theorem dX4_put_90 : decode cX4_put 90 = .ok (.invokevirtual 86, 3) := by decide +kernel
theorem dX4_put_93 : decode cX4_put 93 = .ok (.iload 5, 2) := by decide +kernel
theorem dX4_put_95 : decode cX4_put 95 = .ok (.ifCond .eq 18, 3) := by decide +kernel
theorem dX4_put_98 : decode cX4_put 98 = .ok (.aload_n 0, 1) := by decide +kernel
theorem dX4_put_99 : decode cX4_put 99 = .ok (.getfield 12, 3) := by decide +kernel
theorem dX4_put_102 : decode cX4_put 102 = .ok (.iload_n 3, 1) := by decide +kernel
theorem dX4_put_103 : decode cX4_put 103 = .ok (.iload 4, 2) := by decide +kernel
theorem dX4_put_105 : decode cX4_put 105 = .ok (.iload_n 1, 1) := by decide +kernel
theorem dX4_put_106 : decode cX4_put 106 = .ok (.iload_n 2, 1) := by decide +kernel
theorem dX4_put_107 : decode cX4_put 107 = .ok (.invokevirtual 90, 3) := by decide +kernel
theorem dX4_put_110 : decode cX4_put 110 = .ok (.goto 29, 3) := by decide +kernel
theorem dX4_put_113 : decode cX4_put 113 = .ok (.aload_n 0, 1) := by decide +kernel
theorem dX4_put_114 : decode cX4_put 114 = .ok (.getfield 12, 3) := by decide +kernel
theorem dX4_put_117 : decode cX4_put 117 = .ok (.iload_n 3, 1) := by decide +kernel
theorem dX4_put_118 : decode cX4_put 118 = .ok (.iload 4, 2) := by decide +kernel
theorem dX4_put_120 : decode cX4_put 120 = .ok (.iload_n 1, 1) := by decide +kernel
theorem dX4_put_121 : decode cX4_put 121 = .ok (.iload_n 2, 1) := by decide +kernel
theorem dX4_put_122 : decode cX4_put 122 = .ok (.invokevirtual 94, 3) := by decide +kernel
theorem dX4_put_125 : decode cX4_put 125 = .ok (.aload_n 0, 1) := by decide +kernel
theorem dX4_put_126 : decode cX4_put 126 = .ok (.dup, 1) := by decide +kernel
theorem dX4_put_127 : decode cX4_put 127 = .ok (.getfield 41, 3) := by decide +kernel
theorem dX4_put_130 : decode cX4_put 130 = .ok (.iconst 1, 1) := by decide +kernel
theorem dX4_put_131 : decode cX4_put 131 = .ok (.iadd, 1) := by decide +kernel
theorem dX4_put_132 : decode cX4_put 132 = .ok (.putfield 41, 3) := by decide +kernel
theorem dX4_put_135 : decode cX4_put 135 = .ok (.aload_n 0, 1) := by decide +kernel
theorem dX4_put_136 : decode cX4_put 136 = .ok (.invokevirtual 97, 3) := by decide +kernel
theorem dX4_put_139 : decode cX4_put 139 = .ok (.aload_n 0, 1) := by decide +kernel
theorem dX4_put_140 : decode cX4_put 140 = .ok (.getfield 19, 3) := by decide +kernel
theorem dX4_put_143 : decode cX4_put 143 = .ok (.invokevirtual 100, 3) := by decide +kernel
theorem dX4_put_146 : decode cX4_put 146 = .ok (.iload 5, 2) := by decide +kernel
theorem dX4_put_148 : decode cX4_put 148 = .ok (.ifCond .ne 7, 3) := by decide +kernel
theorem dX4_put_151 : decode cX4_put 151 = .ok (.iconst 1, 1) := by decide +kernel
theorem dX4_put_152 : decode cX4_put 152 = .ok (.goto 4, 3) := by decide +kernel
theorem dX4_put_155 : decode cX4_put 155 = .ok (.iconst 0, 1) := by decide +kernel
theorem dX4_put_156 : decode cX4_put 156 = .ok (.ireturn, 1) := by decide +kernel
theorem dX4_get_0 : decode cX4_get 0 = .ok (.aload_n 0, 1) := by decide +kernel
theorem dX4_get_1 : decode cX4_get 1 = .ok (.getfield 26, 3) := by decide +kernel
theorem dX4_get_4 : decode cX4_get 4 = .ok (.aload_n 0, 1) := by decide +kernel
theorem dX4_get_5 : decode cX4_get 5 = .ok (.getfield 12, 3) := by decide +kernel
theorem dX4_get_8 : decode cX4_get 8 = .ok (.aload_n 0, 1) := by decide +kernel
theorem dX4_get_9 : decode cX4_get 9 = .ok (.getfield 37, 3) := by decide +kernel
theorem dX4_get_12 : decode cX4_get 12 = .ok (.iload_n 1, 1) := by decide +kernel
theorem dX4_get_13 : decode cX4_get 13 = .ok (.invokevirtual 51, 3) := by decide +kernel
theorem dX4_get_16 : decode cX4_get 16 = .ok (.aload_n 0, 1) := by decide +kernel
theorem dX4_get_17 : decode cX4_get 17 = .ok (.getfield 26, 3) := by decide +kernel
theorem dX4_get_20 : decode cX4_get 20 = .ok (.invokevirtual 55, 3) := by decide +kernel
theorem dX4_get_23 : decode cX4_get 23 = .ok (.istore_n 2, 1) := by decide +kernel
theorem dX4_get_24 : decode cX4_get 24 = .ok (.aload_n 0, 1) := by decide +kernel
theorem dX4_get_25 : decode cX4_get 25 = .ok (.getfield 12, 3) := by decide +kernel
theorem dX4_get_28 : decode cX4_get 28 = .ok (.iload_n 2, 1) := by decide +kernel
theorem dX4_get_29 : decode cX4_get 29 = .ok (.iload_n 1, 1) := by decide +kernel
theorem dX4_get_30 : decode cX4_get 30 = .ok (.invokevirtual 59, 3) := by decide +kernel
theorem dX4_get_33 : decode cX4_get 33 = .ok (.istore_n 3, 1) := by decide +kernel
theorem dX4_get_34 : decode cX4_get 34 = .ok (.aload_n 0, 1) := by decide +kernel
theorem dX4_get_35 : decode cX4_get 35 = .ok (.getfield 12, 3) := by decide +kernel
theorem dX4_get_38 : decode cX4_get 38 = .ok (.iload_n 2, 1) := by decide +kernel
theorem dX4_get_39 : decode cX4_get 39 = .ok (.iload_n 3, 1) := by decide +kernel
theorem dX4_get_40 : decode cX4_get 40 = .ok (.iload_n 1, 1) := by decide +kernel
theorem dX4_get_41 : decode cX4_get 41 = .ok (.invokevirtual 63, 3) := by decide +kernel
theorem dX4_get_44 : decode cX4_get 44 = .ok (.ifCond .ne 13, 3) := by decide +kernel
theorem dX4_get_47 : decode cX4_get 47 = .ok (.new 103, 3) := by decide +kernel
theorem dX4_get_50 : decode cX4_get 50 = .ok (.dup, 1) := by decide +kernel
theorem dX4_get_51 : decode cX4_get 51 = .ok (.ldc 105, 2) := by decide +kernel
theorem dX4_get_53 : decode cX4_get 53 = .ok (.invokespecial 107, 3) := by decide +kernel
theorem dX4_get_56 : decode cX4_get 56 = .ok (.athrow, 1) := by decide +kernel
theorem dX4_get_57 : decode cX4_get 57 = .ok (.aload_n 0, 1) := by decide +kernel
theorem dX4_get_58 : decode cX4_get 58 = .ok (.invokevirtual 83, 3) := by decide +kernel
theorem dX4_get_61 : decode cX4_get 61 = .ok (.aload_n 0, 1) := by decide +kernel
theorem dX4_get_62 : decode cX4_get 62 = .ok (.getfield 19, 3) := by decide +kernel
theorem dX4_get_65 : decode cX4_get 65 = .ok (.invokevirtual 100, 3) := by decide +kernel
theorem dX4_get_68 : decode cX4_get 68 = .ok (.aload_n 0, 1) := by decide +kernel
theorem dX4_get_69 : decode cX4_get 69 = .ok (.getfield 12, 3) := by decide +kernel
theorem dX4_get_72 : decode cX4_get 72 = .ok (.iload_n 2, 1) := by decide +kernel
theorem dX4_get_73 : decode cX4_get 73 = .ok (.iload_n 3, 1) := by decide +kernel
theorem dX4_get_74 : decode cX4_get 74 = .ok (.invokevirtual 108, 3) := by decide +kernel
theorem dX4_get_77 : decode cX4_get 77 = .ok (.ireturn, 1) := by decide +kernel
theorem dX4_remove_0 : decode cX4_remove 0 = .ok (.aload_n 0, 1) := by decide +kernel
theorem dX4_remove_1 : decode cX4_remove 1 = .ok (.getfield 26, 3) := by decide +kernel
theorem dX4_remove_4 : decode cX4_remove 4 = .ok (.aload_n 0, 1) := by decide +kernel
theorem dX4_remove_5 : decode cX4_remove 5 = .ok (.getfield 12, 3) := by decide +kernel
theorem dX4_remove_8 : decode cX4_remove 8 = .ok (.aload_n 0, 1) := by decide +kernel
theorem dX4_remove_9 : decode cX4_remove 9 = .ok (.getfield 37, 3) := by decide +kernel
theorem dX4_remove_12 : decode cX4_remove 12 = .ok (.iload_n 1, 1) := by decide +kernel
theorem dX4_remove_13 : decode cX4_remove 13 = .ok (.invokevirtual 51, 3) := by decide +kernel
theorem dX4_remove_16 : decode cX4_remove 16 = .ok (.aload_n 0, 1) := by decide +kernel
theorem dX4_remove_17 : decode cX4_remove 17 = .ok (.getfield 26, 3) := by decide +kernel
theorem dX4_remove_20 : decode cX4_remove 20 = .ok (.invokevirtual 55, 3) := by decide +kernel
theorem dX4_remove_23 : decode cX4_remove 23 = .ok (.istore_n 2, 1) := by decide +kernel
theorem dX4_remove_24 : decode cX4_remove 24 = .ok (.aload_n 0, 1) := by decide +kernel
theorem dX4_remove_25 : decode cX4_remove 25 = .ok (.getfield 12, 3) := by decide +kernel
theorem dX4_remove_28 : decode cX4_remove 28 = .ok (.iload_n 2, 1) := by decide +kernel
theorem dX4_remove_29 : decode cX4_remove 29 = .ok (.iload_n 1, 1) := by decide +kernel
theorem dX4_remove_30 : decode cX4_remove 30 = .ok (.invokevirtual 59, 3) := by decide +kernel
theorem dX4_remove_33 : decode cX4_remove 33 = .ok (.istore_n 3, 1) := by decide +kernel
theorem dX4_remove_34 : decode cX4_remove 34 = .ok (.aload_n 0, 1) := by decide +kernel
theorem dX4_remove_35 : decode cX4_remove 35 = .ok (.getfield 12, 3) := by decide +kernel
theorem dX4_remove_38 : decode cX4_remove 38 = .ok (.iload_n 2, 1) := by decide +kernel
theorem dX4_remove_39 : decode cX4_remove 39 = .ok (.iload_n 3, 1) := by decide +kernel
theorem dX4_remove_40 : decode cX4_remove 40 = .ok (.iload_n 1, 1) := by decide +kernel
theorem dX4_remove_41 : decode cX4_remove 41 = .ok (.invokevirtual 63, 3) := by decide +kernel
theorem dX4_remove_44 : decode cX4_remove 44 = .ok (.istore 4, 2) := by decide +kernel
theorem dX4_remove_46 : decode cX4_remove 46 = .ok (.aload_n 0, 1) := by decide +kernel
theorem dX4_remove_47 : decode cX4_remove 47 = .ok (.invokevirtual 80, 3) := by decide +kernel
theorem dX4_remove_50 : decode cX4_remove 50 = .ok (.aload_n 0, 1) := by decide +kernel
theorem dX4_remove_51 : decode cX4_remove 51 = .ok (.invokevirtual 83, 3) := by decide +kernel
theorem dX4_remove_54 : decode cX4_remove 54 = .ok (.iload 4, 2) := by decide +kernel
theorem dX4_remove_56 : decode cX4_remove 56 = .ok (.ifCond .eq 34, 3) := by decide +kernel
theorem dX4_remove_59 : decode cX4_remove 59 = .ok (.aload_n 0, 1) := by decide +kernel
theorem dX4_remove_60 : decode cX4_remove 60 = .ok (.getfield 12, 3) := by decide +kernel
theorem dX4_remove_63 : decode cX4_remove 63 = .ok (.iload_n 2, 1) := by decide +kernel
theorem dX4_remove_64 : decode cX4_remove 64 = .ok (.iload_n 3, 1) := by decide +kernel
theorem dX4_remove_65 : decode cX4_remove 65 = .ok (.invokevirtual 111, 3) := by decide +kernel
theorem dX4_remove_68 : decode cX4_remove 68 = .ok (.aload_n 0, 1) := by decide +kernel
theorem dX4_remove_69 : decode cX4_remove 69 = .ok (.getfield 19, 3) := by decide +kernel
theorem dX4_remove_72 : decode cX4_remove 72 = .ok (.iload_n 2, 1) := by decide +kernel
theorem dX4_remove_73 : decode cX4_remove 73 = .ok (.invokevirtual 86, 3) := by decide +kernel
theorem dX4_remove_76 : decode cX4_remove 76 = .ok (.aload_n 0, 1) := by decide +kernel
theorem dX4_remove_77 : decode cX4_remove 77 = .ok (.dup, 1) := by decide +kernel
theorem dX4_remove_78 : decode cX4_remove 78 = .ok (.getfield 41, 3) := by decide +kernel
theorem dX4_remove_81 : decode cX4_remove 81 = .ok (.iconst 1, 1) := by decide +kernel
theorem dX4_remove_82 : decode cX4_remove 82 = .ok (.isub, 1) := by decide +kernel
theorem dX4_remove_83 : decode cX4_remove 83 = .ok (.putfield 41, 3) := by decide +kernel
theorem dX4_remove_86 : decode cX4_remove 86 = .ok (.aload_n 0, 1) := by decide +kernel
theorem dX4_remove_87 : decode cX4_remove 87 = .ok (.invokevirtual 114, 3) := by decide +kernel
theorem dX4_remove_90 : decode cX4_remove 90 = .ok (.aload_n 0, 1) := by decide +kernel
theorem dX4_remove_91 : decode cX4_remove 91 = .ok (.getfield 19, 3) := by decide +kernel
theorem dX4_remove_94 : decode cX4_remove 94 = .ok (.invokevirtual 100, 3) := by decide +kernel
theorem dX4_remove_97 : decode cX4_remove 97 = .ok (.iload 4, 2) := by decide +kernel
theorem dX4_remove_99 : decode cX4_remove 99 = .ok (.ireturn, 1) := by decide +kernel
theorem dX4_seek_0 : decode cX4_seek 0 = .ok (.aload_n 0, 1) := by decide +kernel
theorem dX4_seek_1 : decode cX4_seek 1 = .ok (.getfield 26, 3) := by decide +kernel
theorem dX4_seek_4 : decode cX4_seek 4 = .ok (.aload_n 0, 1) := by decide +kernel
theorem dX4_seek_5 : decode cX4_seek 5 = .ok (.getfield 12, 3) := by decide +kernel
theorem dX4_seek_8 : decode cX4_seek 8 = .ok (.aload_n 0, 1) := by decide +kernel
theorem dX4_seek_9 : decode cX4_seek 9 = .ok (.getfield 37, 3) := by decide +kernel
theorem dX4_seek_12 : decode cX4_seek 12 = .ok (.iload_n 1, 1) := by decide +kernel
theorem dX4_seek_13 : decode cX4_seek 13 = .ok (.invokevirtual 51, 3) := by decide +kernel
theorem dX4_seek_16 : decode cX4_seek 16 = .ok (.aload_n 0, 1) := by decide +kernel
theorem dX4_seek_17 : decode cX4_seek 17 = .ok (.invokevirtual 83, 3) := by decide +kernel
theorem dX4_seek_20 : decode cX4_seek 20 = .ok (.aload_n 0, 1) := by decide +kernel
theorem dX4_seek_21 : decode cX4_seek 21 = .ok (.aload_n 0, 1) := by decide +kernel
theorem dX4_seek_22 : decode cX4_seek 22 = .ok (.getfield 26, 3) := by decide +kernel
theorem dX4_seek_25 : decode cX4_seek 25 = .ok (.invokevirtual 55, 3) := by decide +kernel
theorem dX4_seek_28 : decode cX4_seek 28 = .ok (.aload_n 0, 1) := by decide +kernel
theorem dX4_seek_29 : decode cX4_seek 29 = .ok (.getfield 12, 3) := by decide +kernel
theorem dX4_seek_32 : decode cX4_seek 32 = .ok (.aload_n 0, 1) := by decide +kernel
theorem dX4_seek_33 : decode cX4_seek 33 = .ok (.getfield 26, 3) := by decide +kernel
theorem dX4_seek_36 : decode cX4_seek 36 = .ok (.invokevirtual 55, 3) := by decide +kernel
theorem dX4_seek_39 : decode cX4_seek 39 = .ok (.iload_n 1, 1) := by decide +kernel
theorem dX4_seek_40 : decode cX4_seek 40 = .ok (.invokevirtual 59, 3) := by decide +kernel
theorem dX4_seek_43 : decode cX4_seek 43 = .ok (.invokevirtual 117, 3) := by decide +kernel
theorem dX4_seek_46 : decode cX4_seek 46 = .ok (.istore_n 2, 1) := by decide +kernel
theorem dX4_seek_47 : decode cX4_seek 47 = .ok (.aload_n 0, 1) := by decide +kernel
theorem dX4_seek_48 : decode cX4_seek 48 = .ok (.getfield 19, 3) := by decide +kernel
theorem dX4_seek_51 : decode cX4_seek 51 = .ok (.invokevirtual 100, 3) := by decide +kernel
theorem dX4_seek_54 : decode cX4_seek 54 = .ok (.iload_n 2, 1) := by decide +kernel
theorem dX4_seek_55 : decode cX4_seek 55 = .ok (.ireturn, 1) := by decide +kernel
theorem dX4_next_0 : decode cX4_next 0 = .ok (.aload_n 0, 1) := by decide +kernel
theorem dX4_next_1 : decode cX4_next 1 = .ok (.getfield 44, 3) := by decide +kernel
theorem dX4_next_4 : decode cX4_next 4 = .ok (.iconst (-1), 1) := by decide +kernel
theorem dX4_next_5 : decode cX4_next 5 = .ok (.if_icmp .ne 13, 3) := by decide +kernel
theorem dX4_next_8 : decode cX4_next 8 = .ok (.new 103, 3) := by decide +kernel
theorem dX4_next_11 : decode cX4_next 11 = .ok (.dup, 1) := by decide +kernel
theorem dX4_next_12 : decode cX4_next 12 = .ok (.ldc 121, 2) := by decide +kernel
theorem dX4_next_14 : decode cX4_next 14 = .ok (.invokespecial 107, 3) := by decide +kernel
theorem dX4_next_17 : decode cX4_next 17 = .ok (.athrow, 1) := by decide +kernel
theorem dX4_next_18 : decode cX4_next 18 = .ok (.aload_n 0, 1) := by decide +kernel
theorem dX4_next_19 : decode cX4_next 19 = .ok (.getfield 19, 3) := by decide +kernel
theorem dX4_next_22 : decode cX4_next 22 = .ok (.aload_n 0, 1) := by decide +kernel
theorem dX4_next_23 : decode cX4_next 23 = .ok (.getfield 44, 3) := by decide +kernel
theorem dX4_next_26 : decode cX4_next 26 = .ok (.iconst 0, 1) := by decide +kernel
theorem dX4_next_27 : decode cX4_next 27 = .ok (.invokevirtual 123, 3) := by decide +kernel
theorem dX4_next_30 : decode cX4_next 30 = .ok (.aload_n 0, 1) := by decide +kernel
theorem dX4_next_31 : decode cX4_next 31 = .ok (.aload_n 0, 1) := by decide +kernel
theorem dX4_next_32 : decode cX4_next 32 = .ok (.getfield 44, 3) := by decide +kernel
theorem dX4_next_35 : decode cX4_next 35 = .ok (.aload_n 0, 1) := by decide +kernel
theorem dX4_next_36 : decode cX4_next 36 = .ok (.getfield 127, 3) := by decide +kernel
theorem dX4_next_39 : decode cX4_next 39 = .ok (.iconst 1, 1) := by decide +kernel
theorem dX4_next_40 : decode cX4_next 40 = .ok (.iadd, 1) := by decide +kernel
theorem dX4_next_41 : decode cX4_next 41 = .ok (.invokevirtual 117, 3) := by decide +kernel
theorem dX4_next_44 : decode cX4_next 44 = .ok (.istore_n 1, 1) := by decide +kernel
theorem dX4_next_45 : decode cX4_next 45 = .ok (.aload_n 0, 1) := by decide +kernel
theorem dX4_next_46 : decode cX4_next 46 = .ok (.getfield 19, 3) := by decide +kernel
theorem dX4_next_49 : decode cX4_next 49 = .ok (.invokevirtual 100, 3) := by decide +kernel
theorem dX4_next_52 : decode cX4_next 52 = .ok (.iload_n 1, 1) := by decide +kernel
theorem dX4_next_53 : decode cX4_next 53 = .ok (.ireturn, 1) := by decide +kernel
theorem dX4_cursor_0 : decode cX4_cursor 0 = .ok (.aload_n 0, 1) := by decide +kernel
theorem dX4_cursor_1 : decode cX4_cursor 1 = .ok (.getfield 44, 3) := by decide +kernel
theorem dX4_cursor_4 : decode cX4_cursor 4 = .ok (.iconst (-1), 1) := by decide +kernel
theorem dX4_cursor_5 : decode cX4_cursor 5 = .ok (.if_icmp .ne 13, 3) := by decide +kernel
theorem dX4_cursor_8 : decode cX4_cursor 8 = .ok (.new 103, 3) := by decide +kernel
theorem dX4_cursor_11 : decode cX4_cursor 11 = .ok (.dup, 1) := by decide +kernel
theorem dX4_cursor_12 : decode cX4_cursor 12 = .ok (.ldc 121, 2) := by decide +kernel
theorem dX4_cursor_14 : decode cX4_cursor 14 = .ok (.invokespecial 107, 3) := by decide +kernel
theorem dX4_cursor_17 : decode cX4_cursor 17 = .ok (.athrow, 1) := by decide +kernel
theorem dX4_cursor_18 : decode cX4_cursor 18 = .ok (.iload_n 1, 1) := by decide +kernel
theorem dX4_cursor_19 : decode cX4_cursor 19 = .ok (.ifCond .eq 10, 3) := by decide +kernel
theorem dX4_cursor_22 : decode cX4_cursor 22 = .ok (.aload_n 0, 1) := by decide +kernel
theorem dX4_cursor_23 : decode cX4_cursor 23 = .ok (.getfield 130, 3) := by decide +kernel
theorem dX4_cursor_26 : decode cX4_cursor 26 = .ok (.goto 7, 3) := by decide +kernel
theorem dX4_cursor_29 : decode cX4_cursor 29 = .ok (.aload_n 0, 1) := by decide +kernel
theorem dX4_cursor_30 : decode cX4_cursor 30 = .ok (.getfield 133, 3) := by decide +kernel
theorem dX4_cursor_33 : decode cX4_cursor 33 = .ok (.ireturn, 1) := by decide +kernel
theorem dX4_flush_0 : decode cX4_flush 0 = .ok (.aload_n 0, 1) := by decide +kernel
theorem dX4_flush_1 : decode cX4_flush 1 = .ok (.getfield 19, 3) := by decide +kernel
theorem dX4_flush_4 : decode cX4_flush 4 = .ok (.invokevirtual 136, 3) := by decide +kernel
theorem dX4_flush_7 : decode cX4_flush 7 = .ok (.ireturn, 1) := by decide +kernel
theorem dX4_drop_0 : decode cX4_drop 0 = .ok (.aload_n 0, 1) := by decide +kernel
theorem dX4_drop_1 : decode cX4_drop 1 = .ok (.getfield 19, 3) := by decide +kernel
theorem dX4_drop_4 : decode cX4_drop 4 = .ok (.invokevirtual 139, 3) := by decide +kernel
theorem dX4_drop_7 : decode cX4_drop 7 = .ok (.ifCond .le 13, 3) := by decide +kernel
theorem dX4_drop_10 : decode cX4_drop 10 = .ok (.new 142, 3) := by decide +kernel
theorem dX4_drop_13 : decode cX4_drop 13 = .ok (.dup, 1) := by decide +kernel
theorem dX4_drop_14 : decode cX4_drop 14 = .ok (.ldc 144, 2) := by decide +kernel
theorem dX4_drop_16 : decode cX4_drop 16 = .ok (.invokespecial 146, 3) := by decide +kernel
theorem dX4_drop_19 : decode cX4_drop 19 = .ok (.athrow, 1) := by decide +kernel
theorem dX4_drop_20 : decode cX4_drop 20 = .ok (.aload_n 0, 1) := by decide +kernel
theorem dX4_drop_21 : decode cX4_drop 21 = .ok (.invokevirtual 80, 3) := by decide +kernel
theorem dX4_drop_24 : decode cX4_drop 24 = .ok (.aload_n 0, 1) := by decide +kernel
theorem dX4_drop_25 : decode cX4_drop 25 = .ok (.getfield 19, 3) := by decide +kernel
theorem dX4_drop_28 : decode cX4_drop 28 = .ok (.invokevirtual 147, 3) := by decide +kernel
theorem dX4_drop_31 : decode cX4_drop 31 = .ok (.ireturn, 1) := by decide +kernel
theorem dX4_page_0 : decode cX4_page 0 = .ok (.aload_n 0, 1) := by decide +kernel
theorem dX4_page_1 : decode cX4_page 1 = .ok (.getfield 12, 3) := by decide +kernel
theorem dX4_page_4 : decode cX4_page 4 = .ok (.iload_n 1, 1) := by decide +kernel
theorem dX4_page_5 : decode cX4_page 5 = .ok (.invokevirtual 150, 3) := by decide +kernel
theorem dX4_page_8 : decode cX4_page 8 = .ok (.ifCond .ne 13, 3) := by decide +kernel
theorem dX4_page_11 : decode cX4_page 11 = .ok (.new 154, 3) := by decide +kernel
theorem dX4_page_14 : decode cX4_page 14 = .ok (.dup, 1) := by decide +kernel
theorem dX4_page_15 : decode cX4_page 15 = .ok (.ldc 156, 2) := by decide +kernel
theorem dX4_page_17 : decode cX4_page 17 = .ok (.invokespecial 158, 3) := by decide +kernel
theorem dX4_page_20 : decode cX4_page 20 = .ok (.athrow, 1) := by decide +kernel
theorem dX4_page_21 : decode cX4_page 21 = .ok (.iload_n 2, 1) := by decide +kernel
theorem dX4_page_22 : decode cX4_page 22 = .ok (.tableswitch 53 0 2 #[26, 35, 44], 26) := by decide +kernel
theorem dX4_page_48 : decode cX4_page 48 = .ok (.aload_n 0, 1) := by decide +kernel
theorem dX4_page_49 : decode cX4_page 49 = .ok (.getfield 12, 3) := by decide +kernel
theorem dX4_page_52 : decode cX4_page 52 = .ok (.iload_n 1, 1) := by decide +kernel
theorem dX4_page_53 : decode cX4_page 53 = .ok (.invokevirtual 159, 3) := by decide +kernel
theorem dX4_page_56 : decode cX4_page 56 = .ok (.ireturn, 1) := by decide +kernel
theorem dX4_page_57 : decode cX4_page 57 = .ok (.aload_n 0, 1) := by decide +kernel
theorem dX4_page_58 : decode cX4_page 58 = .ok (.getfield 12, 3) := by decide +kernel
theorem dX4_page_61 : decode cX4_page 61 = .ok (.iload_n 1, 1) := by decide +kernel
theorem dX4_page_62 : decode cX4_page 62 = .ok (.invokevirtual 163, 3) := by decide +kernel
theorem dX4_page_65 : decode cX4_page 65 = .ok (.ireturn, 1) := by decide +kernel
theorem dX4_page_66 : decode cX4_page 66 = .ok (.aload_n 0, 1) := by decide +kernel
theorem dX4_page_67 : decode cX4_page 67 = .ok (.getfield 12, 3) := by decide +kernel
theorem dX4_page_70 : decode cX4_page 70 = .ok (.iload_n 1, 1) := by decide +kernel
theorem dX4_page_71 : decode cX4_page 71 = .ok (.invokevirtual 166, 3) := by decide +kernel
theorem dX4_page_74 : decode cX4_page 74 = .ok (.ireturn, 1) := by decide +kernel
theorem dX4_page_75 : decode cX4_page 75 = .ok (.new 169, 3) := by decide +kernel
theorem dX4_page_78 : decode cX4_page 78 = .ok (.dup, 1) := by decide +kernel
theorem dX4_page_79 : decode cX4_page 79 = .ok (.ldc 171, 2) := by decide +kernel
theorem dX4_page_81 : decode cX4_page 81 = .ok (.invokespecial 173, 3) := by decide +kernel
theorem dX4_page_84 : decode cX4_page 84 = .ok (.athrow, 1) := by decide +kernel
theorem dX4_item_0 : decode cX4_item 0 = .ok (.aload_n 0, 1) := by decide +kernel
theorem dX4_item_1 : decode cX4_item 1 = .ok (.getfield 12, 3) := by decide +kernel
theorem dX4_item_4 : decode cX4_item 4 = .ok (.iload_n 1, 1) := by decide +kernel
theorem dX4_item_5 : decode cX4_item 5 = .ok (.invokevirtual 150, 3) := by decide +kernel
theorem dX4_item_8 : decode cX4_item 8 = .ok (.ifCond .ne 13, 3) := by decide +kernel
theorem dX4_item_11 : decode cX4_item 11 = .ok (.new 154, 3) := by decide +kernel
theorem dX4_item_14 : decode cX4_item 14 = .ok (.dup, 1) := by decide +kernel
theorem dX4_item_15 : decode cX4_item 15 = .ok (.ldc 156, 2) := by decide +kernel
theorem dX4_item_17 : decode cX4_item 17 = .ok (.invokespecial 158, 3) := by decide +kernel
theorem dX4_item_20 : decode cX4_item 20 = .ok (.athrow, 1) := by decide +kernel
theorem dX4_item_21 : decode cX4_item 21 = .ok (.iload_n 2, 1) := by decide +kernel
theorem dX4_item_22 : decode cX4_item 22 = .ok (.ifCond .lt 15, 3) := by decide +kernel
theorem dX4_item_25 : decode cX4_item 25 = .ok (.iload_n 2, 1) := by decide +kernel
theorem dX4_item_26 : decode cX4_item 26 = .ok (.aload_n 0, 1) := by decide +kernel
theorem dX4_item_27 : decode cX4_item 27 = .ok (.getfield 12, 3) := by decide +kernel
theorem dX4_item_30 : decode cX4_item 30 = .ok (.iload_n 1, 1) := by decide +kernel
theorem dX4_item_31 : decode cX4_item 31 = .ok (.invokevirtual 163, 3) := by decide +kernel
theorem dX4_item_34 : decode cX4_item 34 = .ok (.if_icmp .lt 13, 3) := by decide +kernel
theorem dX4_item_37 : decode cX4_item 37 = .ok (.new 154, 3) := by decide +kernel
theorem dX4_item_40 : decode cX4_item 40 = .ok (.dup, 1) := by decide +kernel
theorem dX4_item_41 : decode cX4_item 41 = .ok (.ldc 174, 2) := by decide +kernel
theorem dX4_item_43 : decode cX4_item 43 = .ok (.invokespecial 158, 3) := by decide +kernel
theorem dX4_item_46 : decode cX4_item 46 = .ok (.athrow, 1) := by decide +kernel
theorem dX4_item_47 : decode cX4_item 47 = .ok (.iload_n 3, 1) := by decide +kernel
theorem dX4_item_48 : decode cX4_item 48 = .ok (.ifCond .eq 15, 3) := by decide +kernel
theorem dX4_item_51 : decode cX4_item 51 = .ok (.aload_n 0, 1) := by decide +kernel
theorem dX4_item_52 : decode cX4_item 52 = .ok (.getfield 12, 3) := by decide +kernel
theorem dX4_item_55 : decode cX4_item 55 = .ok (.iload_n 1, 1) := by decide +kernel
theorem dX4_item_56 : decode cX4_item 56 = .ok (.iload_n 2, 1) := by decide +kernel
theorem dX4_item_57 : decode cX4_item 57 = .ok (.invokevirtual 108, 3) := by decide +kernel
theorem dX4_item_60 : decode cX4_item 60 = .ok (.goto 12, 3) := by decide +kernel
theorem dX4_item_63 : decode cX4_item 63 = .ok (.aload_n 0, 1) := by decide +kernel
theorem dX4_item_64 : decode cX4_item 64 = .ok (.getfield 12, 3) := by decide +kernel
theorem dX4_item_67 : decode cX4_item 67 = .ok (.iload_n 1, 1) := by decide +kernel
theorem dX4_item_68 : decode cX4_item 68 = .ok (.iload_n 2, 1) := by decide +kernel
theorem dX4_item_69 : decode cX4_item 69 = .ok (.invokevirtual 176, 3) := by decide +kernel
theorem dX4_item_72 : decode cX4_item 72 = .ok (.ireturn, 1) := by decide +kernel
theorem dX4_frame_0 : decode cX4_frame 0 = .ok (.aload_n 0, 1) := by decide +kernel
theorem dX4_frame_1 : decode cX4_frame 1 = .ok (.getfield 19, 3) := by decide +kernel
theorem dX4_frame_4 : decode cX4_frame 4 = .ok (.iload_n 1, 1) := by decide +kernel
theorem dX4_frame_5 : decode cX4_frame 5 = .ok (.invokevirtual 179, 3) := by decide +kernel
theorem dX4_frame_8 : decode cX4_frame 8 = .ok (.ifCond .ne 13, 3) := by decide +kernel
theorem dX4_frame_11 : decode cX4_frame 11 = .ok (.new 154, 3) := by decide +kernel
theorem dX4_frame_14 : decode cX4_frame 14 = .ok (.dup, 1) := by decide +kernel
theorem dX4_frame_15 : decode cX4_frame 15 = .ok (.ldc 182, 2) := by decide +kernel
theorem dX4_frame_17 : decode cX4_frame 17 = .ok (.invokespecial 158, 3) := by decide +kernel
theorem dX4_frame_20 : decode cX4_frame 20 = .ok (.athrow, 1) := by decide +kernel
theorem dX4_frame_21 : decode cX4_frame 21 = .ok (.iload_n 2, 1) := by decide +kernel
theorem dX4_frame_22 : decode cX4_frame 22 = .ok (.tableswitch 69 0 2 #[26, 35, 52], 26) := by decide +kernel
theorem dX4_frame_48 : decode cX4_frame 48 = .ok (.aload_n 0, 1) := by decide +kernel
theorem dX4_frame_49 : decode cX4_frame 49 = .ok (.getfield 19, 3) := by decide +kernel
theorem dX4_frame_52 : decode cX4_frame 52 = .ok (.iload_n 1, 1) := by decide +kernel
theorem dX4_frame_53 : decode cX4_frame 53 = .ok (.invokevirtual 184, 3) := by decide +kernel
theorem dX4_frame_56 : decode cX4_frame 56 = .ok (.ireturn, 1) := by decide +kernel
theorem dX4_frame_57 : decode cX4_frame 57 = .ok (.aload_n 0, 1) := by decide +kernel
theorem dX4_frame_58 : decode cX4_frame 58 = .ok (.getfield 19, 3) := by decide +kernel
theorem dX4_frame_61 : decode cX4_frame 61 = .ok (.iload_n 1, 1) := by decide +kernel
theorem dX4_frame_62 : decode cX4_frame 62 = .ok (.invokevirtual 187, 3) := by decide +kernel
theorem dX4_frame_65 : decode cX4_frame 65 = .ok (.ifCond .eq 7, 3) := by decide +kernel
theorem dX4_frame_68 : decode cX4_frame 68 = .ok (.iconst 1, 1) := by decide +kernel
theorem dX4_frame_69 : decode cX4_frame 69 = .ok (.goto 4, 3) := by decide +kernel
theorem dX4_frame_72 : decode cX4_frame 72 = .ok (.iconst 0, 1) := by decide +kernel
theorem dX4_frame_73 : decode cX4_frame 73 = .ok (.ireturn, 1) := by decide +kernel
theorem dX4_frame_74 : decode cX4_frame 74 = .ok (.aload_n 0, 1) := by decide +kernel
theorem dX4_frame_75 : decode cX4_frame 75 = .ok (.getfield 19, 3) := by decide +kernel
theorem dX4_frame_78 : decode cX4_frame 78 = .ok (.iload_n 1, 1) := by decide +kernel
theorem dX4_frame_79 : decode cX4_frame 79 = .ok (.invokevirtual 190, 3) := by decide +kernel
theorem dX4_frame_82 : decode cX4_frame 82 = .ok (.ifCond .eq 7, 3) := by decide +kernel
theorem dX4_frame_85 : decode cX4_frame 85 = .ok (.iconst 1, 1) := by decide +kernel
theorem dX4_frame_86 : decode cX4_frame 86 = .ok (.goto 4, 3) := by decide +kernel
theorem dX4_frame_89 : decode cX4_frame 89 = .ok (.iconst 0, 1) := by decide +kernel
theorem dX4_frame_90 : decode cX4_frame 90 = .ok (.ireturn, 1) := by decide +kernel
theorem dX4_frame_91 : decode cX4_frame 91 = .ok (.new 169, 3) := by decide +kernel
theorem dX4_frame_94 : decode cX4_frame 94 = .ok (.dup, 1) := by decide +kernel
theorem dX4_frame_95 : decode cX4_frame 95 = .ok (.ldc 193, 2) := by decide +kernel
theorem dX4_frame_97 : decode cX4_frame 97 = .ok (.invokespecial 173, 3) := by decide +kernel
theorem dX4_frame_100 : decode cX4_frame 100 = .ok (.athrow, 1) := by decide +kernel
theorem dX4_told_0 : decode cX4_told 0 = .ok (.iload_n 1, 1) := by decide +kernel
theorem dX4_told_1 : decode cX4_told 1 = .ok (.tableswitch 112 0 7 #[47, 52, 57, 69, 80, 88, 96, 104], 47) := by decide +kernel
theorem dX4_told_48 : decode cX4_told 48 = .ok (.aload_n 0, 1) := by decide +kernel
theorem dX4_told_49 : decode cX4_told 49 = .ok (.getfield 41, 3) := by decide +kernel
theorem dX4_told_52 : decode cX4_told 52 = .ok (.ireturn, 1) := by decide +kernel
theorem dX4_told_53 : decode cX4_told 53 = .ok (.aload_n 0, 1) := by decide +kernel
theorem dX4_told_54 : decode cX4_told 54 = .ok (.getfield 37, 3) := by decide +kernel
theorem dX4_told_57 : decode cX4_told 57 = .ok (.ireturn, 1) := by decide +kernel
theorem dX4_told_58 : decode cX4_told 58 = .ok (.aload_n 0, 1) := by decide +kernel
theorem dX4_told_59 : decode cX4_told 59 = .ok (.getfield 12, 3) := by decide +kernel
theorem dX4_told_62 : decode cX4_told 62 = .ok (.aload_n 0, 1) := by decide +kernel
theorem dX4_told_63 : decode cX4_told 63 = .ok (.getfield 37, 3) := by decide +kernel
theorem dX4_told_66 : decode cX4_told 66 = .ok (.invokevirtual 195, 3) := by decide +kernel
theorem dX4_told_69 : decode cX4_told 69 = .ok (.ireturn, 1) := by decide +kernel
theorem dX4_told_70 : decode cX4_told 70 = .ok (.bipush 40, 2) := by decide +kernel
theorem dX4_told_72 : decode cX4_told 72 = .ok (.aload_n 0, 1) := by decide +kernel
theorem dX4_told_73 : decode cX4_told 73 = .ok (.getfield 12, 3) := by decide +kernel
theorem dX4_told_76 : decode cX4_told 76 = .ok (.invokevirtual 70, 3) := by decide +kernel
theorem dX4_told_79 : decode cX4_told 79 = .ok (.isub, 1) := by decide +kernel
theorem dX4_told_80 : decode cX4_told 80 = .ok (.ireturn, 1) := by decide +kernel
theorem dX4_told_81 : decode cX4_told 81 = .ok (.aload_n 0, 1) := by decide +kernel
theorem dX4_told_82 : decode cX4_told 82 = .ok (.getfield 19, 3) := by decide +kernel
theorem dX4_told_85 : decode cX4_told 85 = .ok (.invokevirtual 198, 3) := by decide +kernel
theorem dX4_told_88 : decode cX4_told 88 = .ok (.ireturn, 1) := by decide +kernel
theorem dX4_told_89 : decode cX4_told 89 = .ok (.aload_n 0, 1) := by decide +kernel
theorem dX4_told_90 : decode cX4_told 90 = .ok (.getfield 19, 3) := by decide +kernel
theorem dX4_told_93 : decode cX4_told 93 = .ok (.invokevirtual 201, 3) := by decide +kernel
theorem dX4_told_96 : decode cX4_told 96 = .ok (.ireturn, 1) := by decide +kernel
theorem dX4_told_97 : decode cX4_told 97 = .ok (.aload_n 0, 1) := by decide +kernel
theorem dX4_told_98 : decode cX4_told 98 = .ok (.getfield 19, 3) := by decide +kernel
theorem dX4_told_101 : decode cX4_told 101 = .ok (.invokevirtual 204, 3) := by decide +kernel
theorem dX4_told_104 : decode cX4_told 104 = .ok (.ireturn, 1) := by decide +kernel
theorem dX4_told_105 : decode cX4_told 105 = .ok (.aload_n 0, 1) := by decide +kernel
theorem dX4_told_106 : decode cX4_told 106 = .ok (.getfield 19, 3) := by decide +kernel
theorem dX4_told_109 : decode cX4_told 109 = .ok (.invokevirtual 207, 3) := by decide +kernel
theorem dX4_told_112 : decode cX4_told 112 = .ok (.ireturn, 1) := by decide +kernel
theorem dX4_told_113 : decode cX4_told 113 = .ok (.iconst (-1), 1) := by decide +kernel
theorem dX4_told_114 : decode cX4_told 114 = .ok (.ireturn, 1) := by decide +kernel
theorem dX4_astray_0 : decode cX4_astray 0 = .ok (.aload_n 0, 1) := by decide +kernel
theorem dX4_astray_1 : decode cX4_astray 1 = .ok (.getfield 33, 3) := by decide +kernel
theorem dX4_astray_4 : decode cX4_astray 4 = .ok (.aload_n 0, 1) := by decide +kernel
theorem dX4_astray_5 : decode cX4_astray 5 = .ok (.getfield 12, 3) := by decide +kernel
theorem dX4_astray_8 : decode cX4_astray 8 = .ok (.aload_n 0, 1) := by decide +kernel
theorem dX4_astray_9 : decode cX4_astray 9 = .ok (.getfield 19, 3) := by decide +kernel
theorem dX4_astray_12 : decode cX4_astray 12 = .ok (.aload_n 0, 1) := by decide +kernel
theorem dX4_astray_13 : decode cX4_astray 13 = .ok (.getfield 37, 3) := by decide +kernel
theorem dX4_astray_16 : decode cX4_astray 16 = .ok (.invokevirtual 210, 3) := by decide +kernel
theorem dX4_astray_19 : decode cX4_astray 19 = .ok (.ireturn, 1) := by decide +kernel
theorem dX4_touchWay_0 : decode cX4_touchWay 0 = .ok (.iconst 0, 1) := by decide +kernel
theorem dX4_touchWay_1 : decode cX4_touchWay 1 = .ok (.istore_n 1, 1) := by decide +kernel
theorem dX4_touchWay_2 : decode cX4_touchWay 2 = .ok (.iload_n 1, 1) := by decide +kernel
theorem dX4_touchWay_3 : decode cX4_touchWay 3 = .ok (.aload_n 0, 1) := by decide +kernel
theorem dX4_touchWay_4 : decode cX4_touchWay 4 = .ok (.getfield 26, 3) := by decide +kernel
theorem dX4_touchWay_7 : decode cX4_touchWay 7 = .ok (.invokevirtual 214, 3) := by decide +kernel
theorem dX4_touchWay_10 : decode cX4_touchWay 10 = .ok (.if_icmp .ge 25, 3) := by decide +kernel
theorem dX4_touchWay_13 : decode cX4_touchWay 13 = .ok (.aload_n 0, 1) := by decide +kernel
theorem dX4_touchWay_14 : decode cX4_touchWay 14 = .ok (.getfield 19, 3) := by decide +kernel
theorem dX4_touchWay_17 : decode cX4_touchWay 17 = .ok (.aload_n 0, 1) := by decide +kernel
theorem dX4_touchWay_18 : decode cX4_touchWay 18 = .ok (.getfield 26, 3) := by decide +kernel
theorem dX4_touchWay_21 : decode cX4_touchWay 21 = .ok (.iload_n 1, 1) := by decide +kernel
theorem dX4_touchWay_22 : decode cX4_touchWay 22 = .ok (.invokevirtual 217, 3) := by decide +kernel
theorem dX4_touchWay_25 : decode cX4_touchWay 25 = .ok (.iconst 0, 1) := by decide +kernel
theorem dX4_touchWay_26 : decode cX4_touchWay 26 = .ok (.invokevirtual 123, 3) := by decide +kernel
theorem dX4_touchWay_29 : decode cX4_touchWay 29 = .ok (.iinc 1 1, 3) := by decide +kernel
theorem dX4_touchWay_32 : decode cX4_touchWay 32 = .ok (.goto (-30), 3) := by decide +kernel
theorem dX4_touchWay_35 : decode cX4_touchWay 35 = .ok (.return_, 1) := by decide +kernel
theorem dX4_endCursor_0 : decode cX4_endCursor 0 = .ok (.aload_n 0, 1) := by decide +kernel
theorem dX4_endCursor_1 : decode cX4_endCursor 1 = .ok (.iconst (-1), 1) := by decide +kernel
theorem dX4_endCursor_2 : decode cX4_endCursor 2 = .ok (.putfield 44, 3) := by decide +kernel
theorem dX4_endCursor_5 : decode cX4_endCursor 5 = .ok (.return_, 1) := by decide +kernel
theorem dX4_moveCursor_0 : decode cX4_moveCursor 0 = .ok (.iload_n 1, 1) := by decide +kernel
theorem dX4_moveCursor_1 : decode cX4_moveCursor 1 = .ok (.istore_n 3, 1) := by decide +kernel
theorem dX4_moveCursor_2 : decode cX4_moveCursor 2 = .ok (.iload_n 2, 1) := by decide +kernel
theorem dX4_moveCursor_3 : decode cX4_moveCursor 3 = .ok (.istore 4, 2) := by decide +kernel
theorem dX4_moveCursor_5 : decode cX4_moveCursor 5 = .ok (.iload_n 2, 1) := by decide +kernel
theorem dX4_moveCursor_6 : decode cX4_moveCursor 6 = .ok (.aload_n 0, 1) := by decide +kernel
theorem dX4_moveCursor_7 : decode cX4_moveCursor 7 = .ok (.getfield 12, 3) := by decide +kernel
theorem dX4_moveCursor_10 : decode cX4_moveCursor 10 = .ok (.iload_n 1, 1) := by decide +kernel
theorem dX4_moveCursor_11 : decode cX4_moveCursor 11 = .ok (.invokevirtual 163, 3) := by decide +kernel
theorem dX4_moveCursor_14 : decode cX4_moveCursor 14 = .ok (.if_icmp .lt 29, 3) := by decide +kernel
theorem dX4_moveCursor_17 : decode cX4_moveCursor 17 = .ok (.aload_n 0, 1) := by decide +kernel
theorem dX4_moveCursor_18 : decode cX4_moveCursor 18 = .ok (.getfield 12, 3) := by decide +kernel
theorem dX4_moveCursor_21 : decode cX4_moveCursor 21 = .ok (.iload_n 1, 1) := by decide +kernel
theorem dX4_moveCursor_22 : decode cX4_moveCursor 22 = .ok (.invokevirtual 166, 3) := by decide +kernel
theorem dX4_moveCursor_25 : decode cX4_moveCursor 25 = .ok (.istore_n 3, 1) := by decide +kernel
theorem dX4_moveCursor_26 : decode cX4_moveCursor 26 = .ok (.iconst 0, 1) := by decide +kernel
theorem dX4_moveCursor_27 : decode cX4_moveCursor 27 = .ok (.istore 4, 2) := by decide +kernel
theorem dX4_moveCursor_29 : decode cX4_moveCursor 29 = .ok (.iload_n 3, 1) := by decide +kernel
theorem dX4_moveCursor_30 : decode cX4_moveCursor 30 = .ok (.iconst (-1), 1) := by decide +kernel
theorem dX4_moveCursor_31 : decode cX4_moveCursor 31 = .ok (.if_icmp .eq 12, 3) := by decide +kernel
theorem dX4_moveCursor_34 : decode cX4_moveCursor 34 = .ok (.aload_n 0, 1) := by decide +kernel
theorem dX4_moveCursor_35 : decode cX4_moveCursor 35 = .ok (.getfield 19, 3) := by decide +kernel
theorem dX4_moveCursor_38 : decode cX4_moveCursor 38 = .ok (.iload_n 3, 1) := by decide +kernel
theorem dX4_moveCursor_39 : decode cX4_moveCursor 39 = .ok (.iconst 0, 1) := by decide +kernel
theorem dX4_moveCursor_40 : decode cX4_moveCursor 40 = .ok (.invokevirtual 123, 3) := by decide +kernel
theorem dX4_moveCursor_43 : decode cX4_moveCursor 43 = .ok (.iload_n 3, 1) := by decide +kernel
theorem dX4_moveCursor_44 : decode cX4_moveCursor 44 = .ok (.iconst (-1), 1) := by decide +kernel
theorem dX4_moveCursor_45 : decode cX4_moveCursor 45 = .ok (.if_icmp .eq 16, 3) := by decide +kernel
theorem dX4_moveCursor_48 : decode cX4_moveCursor 48 = .ok (.iload 4, 2) := by decide +kernel
theorem dX4_moveCursor_50 : decode cX4_moveCursor 50 = .ok (.aload_n 0, 1) := by decide +kernel
theorem dX4_moveCursor_51 : decode cX4_moveCursor 51 = .ok (.getfield 12, 3) := by decide +kernel
theorem dX4_moveCursor_54 : decode cX4_moveCursor 54 = .ok (.iload_n 3, 1) := by decide +kernel
theorem dX4_moveCursor_55 : decode cX4_moveCursor 55 = .ok (.invokevirtual 163, 3) := by decide +kernel
theorem dX4_moveCursor_58 : decode cX4_moveCursor 58 = .ok (.if_icmp .lt 9, 3) := by decide +kernel
theorem dX4_moveCursor_61 : decode cX4_moveCursor 61 = .ok (.aload_n 0, 1) := by decide +kernel
theorem dX4_moveCursor_62 : decode cX4_moveCursor 62 = .ok (.invokevirtual 80, 3) := by decide +kernel
theorem dX4_moveCursor_65 : decode cX4_moveCursor 65 = .ok (.iconst 0, 1) := by decide +kernel
theorem dX4_moveCursor_66 : decode cX4_moveCursor 66 = .ok (.ireturn, 1) := by decide +kernel
theorem dX4_moveCursor_67 : decode cX4_moveCursor 67 = .ok (.aload_n 0, 1) := by decide +kernel
theorem dX4_moveCursor_68 : decode cX4_moveCursor 68 = .ok (.iload_n 3, 1) := by decide +kernel
theorem dX4_moveCursor_69 : decode cX4_moveCursor 69 = .ok (.putfield 44, 3) := by decide +kernel
theorem dX4_moveCursor_72 : decode cX4_moveCursor 72 = .ok (.aload_n 0, 1) := by decide +kernel
theorem dX4_moveCursor_73 : decode cX4_moveCursor 73 = .ok (.iload 4, 2) := by decide +kernel
theorem dX4_moveCursor_75 : decode cX4_moveCursor 75 = .ok (.putfield 127, 3) := by decide +kernel
theorem dX4_moveCursor_78 : decode cX4_moveCursor 78 = .ok (.aload_n 0, 1) := by decide +kernel
theorem dX4_moveCursor_79 : decode cX4_moveCursor 79 = .ok (.aload_n 0, 1) := by decide +kernel
theorem dX4_moveCursor_80 : decode cX4_moveCursor 80 = .ok (.getfield 12, 3) := by decide +kernel
theorem dX4_moveCursor_83 : decode cX4_moveCursor 83 = .ok (.iload_n 3, 1) := by decide +kernel
theorem dX4_moveCursor_84 : decode cX4_moveCursor 84 = .ok (.iload 4, 2) := by decide +kernel
theorem dX4_moveCursor_86 : decode cX4_moveCursor 86 = .ok (.invokevirtual 176, 3) := by decide +kernel
theorem dX4_moveCursor_89 : decode cX4_moveCursor 89 = .ok (.putfield 133, 3) := by decide +kernel
theorem dX4_moveCursor_92 : decode cX4_moveCursor 92 = .ok (.aload_n 0, 1) := by decide +kernel
theorem dX4_moveCursor_93 : decode cX4_moveCursor 93 = .ok (.aload_n 0, 1) := by decide +kernel
theorem dX4_moveCursor_94 : decode cX4_moveCursor 94 = .ok (.getfield 12, 3) := by decide +kernel
theorem dX4_moveCursor_97 : decode cX4_moveCursor 97 = .ok (.iload_n 3, 1) := by decide +kernel
theorem dX4_moveCursor_98 : decode cX4_moveCursor 98 = .ok (.iload 4, 2) := by decide +kernel
theorem dX4_moveCursor_100 : decode cX4_moveCursor 100 = .ok (.invokevirtual 108, 3) := by decide +kernel
theorem dX4_moveCursor_103 : decode cX4_moveCursor 103 = .ok (.putfield 130, 3) := by decide +kernel
theorem dX4_moveCursor_106 : decode cX4_moveCursor 106 = .ok (.iconst 1, 1) := by decide +kernel
theorem dX4_moveCursor_107 : decode cX4_moveCursor 107 = .ok (.ireturn, 1) := by decide +kernel
theorem dX4_newPagesForEntry_0 : decode cX4_newPagesForEntry 0 = .ok (.iconst 0, 1) := by decide +kernel
theorem dX4_newPagesForEntry_1 : decode cX4_newPagesForEntry 1 = .ok (.istore_n 1, 1) := by decide +kernel
theorem dX4_newPagesForEntry_2 : decode cX4_newPagesForEntry 2 = .ok (.aload_n 0, 1) := by decide +kernel
theorem dX4_newPagesForEntry_3 : decode cX4_newPagesForEntry 3 = .ok (.getfield 26, 3) := by decide +kernel
theorem dX4_newPagesForEntry_6 : decode cX4_newPagesForEntry 6 = .ok (.invokevirtual 214, 3) := by decide +kernel
theorem dX4_newPagesForEntry_9 : decode cX4_newPagesForEntry 9 = .ok (.iconst 1, 1) := by decide +kernel
theorem dX4_newPagesForEntry_10 : decode cX4_newPagesForEntry 10 = .ok (.isub, 1) := by decide +kernel
theorem dX4_newPagesForEntry_11 : decode cX4_newPagesForEntry 11 = .ok (.istore_n 2, 1) := by decide +kernel
theorem dX4_newPagesForEntry_12 : decode cX4_newPagesForEntry 12 = .ok (.iload_n 2, 1) := by decide +kernel
theorem dX4_newPagesForEntry_13 : decode cX4_newPagesForEntry 13 = .ok (.ifCond .lt 33, 3) := by decide +kernel
theorem dX4_newPagesForEntry_16 : decode cX4_newPagesForEntry 16 = .ok (.aload_n 0, 1) := by decide +kernel
theorem dX4_newPagesForEntry_17 : decode cX4_newPagesForEntry 17 = .ok (.getfield 12, 3) := by decide +kernel
theorem dX4_newPagesForEntry_20 : decode cX4_newPagesForEntry 20 = .ok (.aload_n 0, 1) := by decide +kernel
theorem dX4_newPagesForEntry_21 : decode cX4_newPagesForEntry 21 = .ok (.getfield 26, 3) := by decide +kernel
theorem dX4_newPagesForEntry_24 : decode cX4_newPagesForEntry 24 = .ok (.iload_n 2, 1) := by decide +kernel
theorem dX4_newPagesForEntry_25 : decode cX4_newPagesForEntry 25 = .ok (.invokevirtual 217, 3) := by decide +kernel
theorem dX4_newPagesForEntry_28 : decode cX4_newPagesForEntry 28 = .ok (.invokevirtual 163, 3) := by decide +kernel
theorem dX4_newPagesForEntry_31 : decode cX4_newPagesForEntry 31 = .ok (.iconst 4, 1) := by decide +kernel
theorem dX4_newPagesForEntry_32 : decode cX4_newPagesForEntry 32 = .ok (.if_icmp .ge 5, 3) := by decide +kernel
theorem dX4_newPagesForEntry_35 : decode cX4_newPagesForEntry 35 = .ok (.iload_n 1, 1) := by decide +kernel
theorem dX4_newPagesForEntry_36 : decode cX4_newPagesForEntry 36 = .ok (.ireturn, 1) := by decide +kernel
theorem dX4_newPagesForEntry_37 : decode cX4_newPagesForEntry 37 = .ok (.iinc 1 1, 3) := by decide +kernel
theorem dX4_newPagesForEntry_40 : decode cX4_newPagesForEntry 40 = .ok (.iinc 2 (-1), 3) := by decide +kernel
theorem dX4_newPagesForEntry_43 : decode cX4_newPagesForEntry 43 = .ok (.goto (-31), 3) := by decide +kernel
theorem dX4_newPagesForEntry_46 : decode cX4_newPagesForEntry 46 = .ok (.iload_n 1, 1) := by decide +kernel
theorem dX4_newPagesForEntry_47 : decode cX4_newPagesForEntry 47 = .ok (.iconst 1, 1) := by decide +kernel
theorem dX4_newPagesForEntry_48 : decode cX4_newPagesForEntry 48 = .ok (.iadd, 1) := by decide +kernel
theorem dX4_newPagesForEntry_49 : decode cX4_newPagesForEntry 49 = .ok (.ireturn, 1) := by decide +kernel
theorem dX4_splitUpwards_0 : decode cX4_splitUpwards 0 = .ok (.aload_n 0, 1) := by decide +kernel
theorem dX4_splitUpwards_1 : decode cX4_splitUpwards 1 = .ok (.getfield 26, 3) := by decide +kernel
theorem dX4_splitUpwards_4 : decode cX4_splitUpwards 4 = .ok (.invokevirtual 214, 3) := by decide +kernel
theorem dX4_splitUpwards_7 : decode cX4_splitUpwards 7 = .ok (.iconst 1, 1) := by decide +kernel
theorem dX4_splitUpwards_8 : decode cX4_splitUpwards 8 = .ok (.isub, 1) := by decide +kernel
theorem dX4_splitUpwards_9 : decode cX4_splitUpwards 9 = .ok (.istore_n 1, 1) := by decide +kernel
theorem dX4_splitUpwards_10 : decode cX4_splitUpwards 10 = .ok (.iload_n 1, 1) := by decide +kernel
theorem dX4_splitUpwards_11 : decode cX4_splitUpwards 11 = .ok (.ifCond .lt 34, 3) := by decide +kernel
theorem dX4_splitUpwards_14 : decode cX4_splitUpwards 14 = .ok (.aload_n 0, 1) := by decide +kernel
theorem dX4_splitUpwards_15 : decode cX4_splitUpwards 15 = .ok (.getfield 12, 3) := by decide +kernel
theorem dX4_splitUpwards_18 : decode cX4_splitUpwards 18 = .ok (.aload_n 0, 1) := by decide +kernel
theorem dX4_splitUpwards_19 : decode cX4_splitUpwards 19 = .ok (.getfield 26, 3) := by decide +kernel
theorem dX4_splitUpwards_22 : decode cX4_splitUpwards 22 = .ok (.iload_n 1, 1) := by decide +kernel
theorem dX4_splitUpwards_23 : decode cX4_splitUpwards 23 = .ok (.invokevirtual 217, 3) := by decide +kernel
theorem dX4_splitUpwards_26 : decode cX4_splitUpwards 26 = .ok (.invokevirtual 163, 3) := by decide +kernel
theorem dX4_splitUpwards_29 : decode cX4_splitUpwards 29 = .ok (.iconst 4, 1) := by decide +kernel
theorem dX4_splitUpwards_30 : decode cX4_splitUpwards 30 = .ok (.if_icmp .gt 4, 3) := by decide +kernel
theorem dX4_splitUpwards_33 : decode cX4_splitUpwards 33 = .ok (.return_, 1) := by decide +kernel
theorem dX4_splitUpwards_34 : decode cX4_splitUpwards 34 = .ok (.aload_n 0, 1) := by decide +kernel
theorem dX4_splitUpwards_35 : decode cX4_splitUpwards 35 = .ok (.iload_n 1, 1) := by decide +kernel
theorem dX4_splitUpwards_36 : decode cX4_splitUpwards 36 = .ok (.invokevirtual 220, 3) := by decide +kernel
theorem dX4_splitUpwards_39 : decode cX4_splitUpwards 39 = .ok (.iinc 1 (-1), 3) := by decide +kernel
theorem dX4_splitUpwards_42 : decode cX4_splitUpwards 42 = .ok (.goto (-32), 3) := by decide +kernel
theorem dX4_splitUpwards_45 : decode cX4_splitUpwards 45 = .ok (.return_, 1) := by decide +kernel
theorem dX4_split_0 : decode cX4_split 0 = .ok (.aload_n 0, 1) := by decide +kernel
theorem dX4_split_1 : decode cX4_split 1 = .ok (.getfield 26, 3) := by decide +kernel
theorem dX4_split_4 : decode cX4_split 4 = .ok (.iload_n 1, 1) := by decide +kernel
theorem dX4_split_5 : decode cX4_split 5 = .ok (.invokevirtual 217, 3) := by decide +kernel
theorem dX4_split_8 : decode cX4_split 8 = .ok (.istore_n 2, 1) := by decide +kernel
theorem dX4_split_9 : decode cX4_split 9 = .ok (.aload_n 0, 1) := by decide +kernel
theorem dX4_split_10 : decode cX4_split 10 = .ok (.aload_n 0, 1) := by decide +kernel
theorem dX4_split_11 : decode cX4_split 11 = .ok (.getfield 12, 3) := by decide +kernel
theorem dX4_split_14 : decode cX4_split 14 = .ok (.iload_n 2, 1) := by decide +kernel
theorem dX4_split_15 : decode cX4_split 15 = .ok (.invokevirtual 159, 3) := by decide +kernel
theorem dX4_split_18 : decode cX4_split 18 = .ok (.invokevirtual 223, 3) := by decide +kernel
theorem dX4_split_21 : decode cX4_split 21 = .ok (.istore_n 3, 1) := by decide +kernel
theorem dX4_split_22 : decode cX4_split 22 = .ok (.aload_n 0, 1) := by decide +kernel
theorem dX4_split_23 : decode cX4_split 23 = .ok (.getfield 12, 3) := by decide +kernel
theorem dX4_split_26 : decode cX4_split 26 = .ok (.iload_n 2, 1) := by decide +kernel
theorem dX4_split_27 : decode cX4_split 27 = .ok (.iconst 2, 1) := by decide +kernel
theorem dX4_split_28 : decode cX4_split 28 = .ok (.invokevirtual 176, 3) := by decide +kernel
theorem dX4_split_31 : decode cX4_split 31 = .ok (.istore 4, 2) := by decide +kernel
theorem dX4_split_33 : decode cX4_split 33 = .ok (.aload_n 0, 1) := by decide +kernel
theorem dX4_split_34 : decode cX4_split 34 = .ok (.getfield 12, 3) := by decide +kernel
theorem dX4_split_37 : decode cX4_split 37 = .ok (.iload_n 2, 1) := by decide +kernel
theorem dX4_split_38 : decode cX4_split 38 = .ok (.iconst 2, 1) := by decide +kernel
theorem dX4_split_39 : decode cX4_split 39 = .ok (.iload_n 3, 1) := by decide +kernel
theorem dX4_split_40 : decode cX4_split 40 = .ok (.invokevirtual 226, 3) := by decide +kernel
theorem dX4_split_43 : decode cX4_split 43 = .ok (.aload_n 0, 1) := by decide +kernel
theorem dX4_split_44 : decode cX4_split 44 = .ok (.getfield 12, 3) := by decide +kernel
theorem dX4_split_47 : decode cX4_split 47 = .ok (.iload_n 2, 1) := by decide +kernel
theorem dX4_split_48 : decode cX4_split 48 = .ok (.invokevirtual 159, 3) := by decide +kernel
theorem dX4_split_51 : decode cX4_split 51 = .ok (.iconst 1, 1) := by decide +kernel
theorem dX4_split_52 : decode cX4_split 52 = .ok (.if_icmp .ne 31, 3) := by decide +kernel
theorem dX4_split_55 : decode cX4_split 55 = .ok (.aload_n 0, 1) := by decide +kernel
theorem dX4_split_56 : decode cX4_split 56 = .ok (.getfield 12, 3) := by decide +kernel
theorem dX4_split_59 : decode cX4_split 59 = .ok (.iload_n 3, 1) := by decide +kernel
theorem dX4_split_60 : decode cX4_split 60 = .ok (.aload_n 0, 1) := by decide +kernel
theorem dX4_split_61 : decode cX4_split 61 = .ok (.getfield 12, 3) := by decide +kernel
theorem dX4_split_64 : decode cX4_split 64 = .ok (.iload_n 2, 1) := by decide +kernel
theorem dX4_split_65 : decode cX4_split 65 = .ok (.invokevirtual 166, 3) := by decide +kernel
theorem dX4_split_68 : decode cX4_split 68 = .ok (.invokevirtual 230, 3) := by decide +kernel
theorem dX4_split_71 : decode cX4_split 71 = .ok (.aload_n 0, 1) := by decide +kernel
theorem dX4_split_72 : decode cX4_split 72 = .ok (.getfield 12, 3) := by decide +kernel
theorem dX4_split_75 : decode cX4_split 75 = .ok (.iload_n 2, 1) := by decide +kernel
theorem dX4_split_76 : decode cX4_split 76 = .ok (.iload_n 3, 1) := by decide +kernel
theorem dX4_split_77 : decode cX4_split 77 = .ok (.invokevirtual 230, 3) := by decide +kernel
theorem dX4_split_80 : decode cX4_split 80 = .ok (.goto 13, 3) := by decide +kernel
theorem dX4_split_83 : decode cX4_split 83 = .ok (.aload_n 0, 1) := by decide +kernel
theorem dX4_split_84 : decode cX4_split 84 = .ok (.getfield 12, 3) := by decide +kernel
theorem dX4_split_87 : decode cX4_split 87 = .ok (.iload_n 3, 1) := by decide +kernel
theorem dX4_split_88 : decode cX4_split 88 = .ok (.iconst 0, 1) := by decide +kernel
theorem dX4_split_89 : decode cX4_split 89 = .ok (.iconst 0, 1) := by decide +kernel
theorem dX4_split_90 : decode cX4_split 90 = .ok (.invokevirtual 233, 3) := by decide +kernel
theorem dX4_split_93 : decode cX4_split 93 = .ok (.aload_n 0, 1) := by decide +kernel
theorem dX4_split_94 : decode cX4_split 94 = .ok (.getfield 26, 3) := by decide +kernel
theorem dX4_split_97 : decode cX4_split 97 = .ok (.iload_n 1, 1) := by decide +kernel
theorem dX4_split_98 : decode cX4_split 98 = .ok (.iconst 1, 1) := by decide +kernel
theorem dX4_split_99 : decode cX4_split 99 = .ok (.isub, 1) := by decide +kernel
theorem dX4_split_100 : decode cX4_split 100 = .ok (.invokevirtual 217, 3) := by decide +kernel
theorem dX4_split_103 : decode cX4_split 103 = .ok (.istore 5, 2) := by decide +kernel
theorem dX4_split_105 : decode cX4_split 105 = .ok (.iload_n 1, 1) := by decide +kernel
theorem dX4_split_106 : decode cX4_split 106 = .ok (.ifCond .ne 16, 3) := by decide +kernel
theorem dX4_split_109 : decode cX4_split 109 = .ok (.aload_n 0, 1) := by decide +kernel
theorem dX4_split_110 : decode cX4_split 110 = .ok (.iconst 2, 1) := by decide +kernel
theorem dX4_split_111 : decode cX4_split 111 = .ok (.invokevirtual 223, 3) := by decide +kernel
theorem dX4_split_114 : decode cX4_split 114 = .ok (.istore 5, 2) := by decide +kernel
theorem dX4_split_116 : decode cX4_split 116 = .ok (.aload_n 0, 1) := by decide +kernel
theorem dX4_split_117 : decode cX4_split 117 = .ok (.iload 5, 2) := by decide +kernel
theorem dX4_split_119 : decode cX4_split 119 = .ok (.invokevirtual 236, 3) := by decide +kernel
theorem dX4_split_122 : decode cX4_split 122 = .ok (.aload_n 0, 1) := by decide +kernel
theorem dX4_split_123 : decode cX4_split 123 = .ok (.getfield 12, 3) := by decide +kernel
theorem dX4_split_126 : decode cX4_split 126 = .ok (.iload 5, 2) := by decide +kernel
theorem dX4_split_128 : decode cX4_split 128 = .ok (.aload_n 0, 1) := by decide +kernel
theorem dX4_split_129 : decode cX4_split 129 = .ok (.getfield 26, 3) := by decide +kernel
theorem dX4_split_132 : decode cX4_split 132 = .ok (.iload_n 1, 1) := by decide +kernel
theorem dX4_split_133 : decode cX4_split 133 = .ok (.invokevirtual 239, 3) := by decide +kernel
theorem dX4_split_136 : decode cX4_split 136 = .ok (.iconst 1, 1) := by decide +kernel
theorem dX4_split_137 : decode cX4_split 137 = .ok (.iadd, 1) := by decide +kernel
theorem dX4_split_138 : decode cX4_split 138 = .ok (.iload 4, 2) := by decide +kernel
theorem dX4_split_140 : decode cX4_split 140 = .ok (.iload_n 3, 1) := by decide +kernel
theorem dX4_split_141 : decode cX4_split 141 = .ok (.invokevirtual 94, 3) := by decide +kernel
theorem dX4_split_144 : decode cX4_split 144 = .ok (.aload_n 0, 1) := by decide +kernel
theorem dX4_split_145 : decode cX4_split 145 = .ok (.iload_n 2, 1) := by decide +kernel
theorem dX4_split_146 : decode cX4_split 146 = .ok (.iload_n 3, 1) := by decide +kernel
theorem dX4_split_147 : decode cX4_split 147 = .ok (.iload 5, 2) := by decide +kernel
theorem dX4_split_149 : decode cX4_split 149 = .ok (.invokevirtual 242, 3) := by decide +kernel
theorem dX4_split_152 : decode cX4_split 152 = .ok (.return_, 1) := by decide +kernel
theorem dX4_raiseRoot_0 : decode cX4_raiseRoot 0 = .ok (.aload_n 0, 1) := by decide +kernel
theorem dX4_raiseRoot_1 : decode cX4_raiseRoot 1 = .ok (.getfield 12, 3) := by decide +kernel
theorem dX4_raiseRoot_4 : decode cX4_raiseRoot 4 = .ok (.iload_n 1, 1) := by decide +kernel
theorem dX4_raiseRoot_5 : decode cX4_raiseRoot 5 = .ok (.iconst 0, 1) := by decide +kernel
theorem dX4_raiseRoot_6 : decode cX4_raiseRoot 6 = .ok (.iconst 0, 1) := by decide +kernel
theorem dX4_raiseRoot_7 : decode cX4_raiseRoot 7 = .ok (.aload_n 0, 1) := by decide +kernel
theorem dX4_raiseRoot_8 : decode cX4_raiseRoot 8 = .ok (.getfield 37, 3) := by decide +kernel
theorem dX4_raiseRoot_11 : decode cX4_raiseRoot 11 = .ok (.invokevirtual 94, 3) := by decide +kernel
theorem dX4_raiseRoot_14 : decode cX4_raiseRoot 14 = .ok (.aload_n 0, 1) := by decide +kernel
theorem dX4_raiseRoot_15 : decode cX4_raiseRoot 15 = .ok (.iload_n 1, 1) := by decide +kernel
theorem dX4_raiseRoot_16 : decode cX4_raiseRoot 16 = .ok (.putfield 37, 3) := by decide +kernel
theorem dX4_raiseRoot_19 : decode cX4_raiseRoot 19 = .ok (.return_, 1) := by decide +kernel
theorem dX4_takePage_0 : decode cX4_takePage 0 = .ok (.aload_n 0, 1) := by decide +kernel
theorem dX4_takePage_1 : decode cX4_takePage 1 = .ok (.getfield 12, 3) := by decide +kernel
theorem dX4_takePage_4 : decode cX4_takePage 4 = .ok (.invokevirtual 245, 3) := by decide +kernel
theorem dX4_takePage_7 : decode cX4_takePage 7 = .ok (.istore_n 2, 1) := by decide +kernel
theorem dX4_takePage_8 : decode cX4_takePage 8 = .ok (.aload_n 0, 1) := by decide +kernel
theorem dX4_takePage_9 : decode cX4_takePage 9 = .ok (.getfield 12, 3) := by decide +kernel
theorem dX4_takePage_12 : decode cX4_takePage 12 = .ok (.iload_n 2, 1) := by decide +kernel
theorem dX4_takePage_13 : decode cX4_takePage 13 = .ok (.iload_n 1, 1) := by decide +kernel
theorem dX4_takePage_14 : decode cX4_takePage 14 = .ok (.invokevirtual 47, 3) := by decide +kernel
theorem dX4_takePage_17 : decode cX4_takePage 17 = .ok (.aload_n 0, 1) := by decide +kernel
theorem dX4_takePage_18 : decode cX4_takePage 18 = .ok (.getfield 19, 3) := by decide +kernel
theorem dX4_takePage_21 : decode cX4_takePage 21 = .ok (.iload_n 2, 1) := by decide +kernel
theorem dX4_takePage_22 : decode cX4_takePage 22 = .ok (.iconst 1, 1) := by decide +kernel
theorem dX4_takePage_23 : decode cX4_takePage 23 = .ok (.invokevirtual 123, 3) := by decide +kernel
theorem dX4_takePage_26 : decode cX4_takePage 26 = .ok (.iload_n 2, 1) := by decide +kernel
theorem dX4_takePage_27 : decode cX4_takePage 27 = .ok (.ireturn, 1) := by decide +kernel
theorem dX4_mendUpwards_0 : decode cX4_mendUpwards 0 = .ok (.aload_n 0, 1) := by decide +kernel
theorem dX4_mendUpwards_1 : decode cX4_mendUpwards 1 = .ok (.getfield 26, 3) := by decide +kernel
theorem dX4_mendUpwards_4 : decode cX4_mendUpwards 4 = .ok (.invokevirtual 214, 3) := by decide +kernel
theorem dX4_mendUpwards_7 : decode cX4_mendUpwards 7 = .ok (.iconst 1, 1) := by decide +kernel
theorem dX4_mendUpwards_8 : decode cX4_mendUpwards 8 = .ok (.isub, 1) := by decide +kernel
theorem dX4_mendUpwards_9 : decode cX4_mendUpwards 9 = .ok (.istore_n 1, 1) := by decide +kernel
theorem dX4_mendUpwards_10 : decode cX4_mendUpwards 10 = .ok (.iload_n 1, 1) := by decide +kernel
theorem dX4_mendUpwards_11 : decode cX4_mendUpwards 11 = .ok (.ifCond .le 34, 3) := by decide +kernel
theorem dX4_mendUpwards_14 : decode cX4_mendUpwards 14 = .ok (.aload_n 0, 1) := by decide +kernel
theorem dX4_mendUpwards_15 : decode cX4_mendUpwards 15 = .ok (.getfield 12, 3) := by decide +kernel
theorem dX4_mendUpwards_18 : decode cX4_mendUpwards 18 = .ok (.aload_n 0, 1) := by decide +kernel
theorem dX4_mendUpwards_19 : decode cX4_mendUpwards 19 = .ok (.getfield 26, 3) := by decide +kernel
theorem dX4_mendUpwards_22 : decode cX4_mendUpwards 22 = .ok (.iload_n 1, 1) := by decide +kernel
theorem dX4_mendUpwards_23 : decode cX4_mendUpwards 23 = .ok (.invokevirtual 217, 3) := by decide +kernel
theorem dX4_mendUpwards_26 : decode cX4_mendUpwards 26 = .ok (.invokevirtual 163, 3) := by decide +kernel
theorem dX4_mendUpwards_29 : decode cX4_mendUpwards 29 = .ok (.iconst 2, 1) := by decide +kernel
theorem dX4_mendUpwards_30 : decode cX4_mendUpwards 30 = .ok (.if_icmp .lt 4, 3) := by decide +kernel
theorem dX4_mendUpwards_33 : decode cX4_mendUpwards 33 = .ok (.return_, 1) := by decide +kernel
theorem dX4_mendUpwards_34 : decode cX4_mendUpwards 34 = .ok (.aload_n 0, 1) := by decide +kernel
theorem dX4_mendUpwards_35 : decode cX4_mendUpwards 35 = .ok (.iload_n 1, 1) := by decide +kernel
theorem dX4_mendUpwards_36 : decode cX4_mendUpwards 36 = .ok (.invokevirtual 248, 3) := by decide +kernel
theorem dX4_mendUpwards_39 : decode cX4_mendUpwards 39 = .ok (.iinc 1 (-1), 3) := by decide +kernel
theorem dX4_mendUpwards_42 : decode cX4_mendUpwards 42 = .ok (.goto (-32), 3) := by decide +kernel
theorem dX4_mendUpwards_45 : decode cX4_mendUpwards 45 = .ok (.aload_n 0, 1) := by decide +kernel
theorem dX4_mendUpwards_46 : decode cX4_mendUpwards 46 = .ok (.invokevirtual 251, 3) := by decide +kernel
theorem dX4_mendUpwards_49 : decode cX4_mendUpwards 49 = .ok (.return_, 1) := by decide +kernel
theorem dX4_lowerRoot_0 : decode cX4_lowerRoot 0 = .ok (.aload_n 0, 1) := by decide +kernel
theorem dX4_lowerRoot_1 : decode cX4_lowerRoot 1 = .ok (.getfield 12, 3) := by decide +kernel
theorem dX4_lowerRoot_4 : decode cX4_lowerRoot 4 = .ok (.aload_n 0, 1) := by decide +kernel
theorem dX4_lowerRoot_5 : decode cX4_lowerRoot 5 = .ok (.getfield 37, 3) := by decide +kernel
theorem dX4_lowerRoot_8 : decode cX4_lowerRoot 8 = .ok (.invokevirtual 159, 3) := by decide +kernel
theorem dX4_lowerRoot_11 : decode cX4_lowerRoot 11 = .ok (.iconst 2, 1) := by decide +kernel
theorem dX4_lowerRoot_12 : decode cX4_lowerRoot 12 = .ok (.if_icmp .ne 44, 3) := by decide +kernel
theorem dX4_lowerRoot_15 : decode cX4_lowerRoot 15 = .ok (.aload_n 0, 1) := by decide +kernel
theorem dX4_lowerRoot_16 : decode cX4_lowerRoot 16 = .ok (.getfield 12, 3) := by decide +kernel
theorem dX4_lowerRoot_19 : decode cX4_lowerRoot 19 = .ok (.aload_n 0, 1) := by decide +kernel
theorem dX4_lowerRoot_20 : decode cX4_lowerRoot 20 = .ok (.getfield 37, 3) := by decide +kernel
theorem dX4_lowerRoot_23 : decode cX4_lowerRoot 23 = .ok (.invokevirtual 163, 3) := by decide +kernel
theorem dX4_lowerRoot_26 : decode cX4_lowerRoot 26 = .ok (.iconst 1, 1) := by decide +kernel
theorem dX4_lowerRoot_27 : decode cX4_lowerRoot 27 = .ok (.if_icmp .ne 29, 3) := by decide +kernel
theorem dX4_lowerRoot_30 : decode cX4_lowerRoot 30 = .ok (.aload_n 0, 1) := by decide +kernel
theorem dX4_lowerRoot_31 : decode cX4_lowerRoot 31 = .ok (.getfield 12, 3) := by decide +kernel
theorem dX4_lowerRoot_34 : decode cX4_lowerRoot 34 = .ok (.aload_n 0, 1) := by decide +kernel
theorem dX4_lowerRoot_35 : decode cX4_lowerRoot 35 = .ok (.getfield 37, 3) := by decide +kernel
theorem dX4_lowerRoot_38 : decode cX4_lowerRoot 38 = .ok (.iconst 0, 1) := by decide +kernel
theorem dX4_lowerRoot_39 : decode cX4_lowerRoot 39 = .ok (.invokevirtual 108, 3) := by decide +kernel
theorem dX4_lowerRoot_42 : decode cX4_lowerRoot 42 = .ok (.istore_n 1, 1) := by decide +kernel
theorem dX4_lowerRoot_43 : decode cX4_lowerRoot 43 = .ok (.aload_n 0, 1) := by decide +kernel
theorem dX4_lowerRoot_44 : decode cX4_lowerRoot 44 = .ok (.aload_n 0, 1) := by decide +kernel
theorem dX4_lowerRoot_45 : decode cX4_lowerRoot 45 = .ok (.getfield 37, 3) := by decide +kernel
theorem dX4_lowerRoot_48 : decode cX4_lowerRoot 48 = .ok (.invokevirtual 254, 3) := by decide +kernel
theorem dX4_lowerRoot_51 : decode cX4_lowerRoot 51 = .ok (.aload_n 0, 1) := by decide +kernel
theorem dX4_lowerRoot_52 : decode cX4_lowerRoot 52 = .ok (.iload_n 1, 1) := by decide +kernel
theorem dX4_lowerRoot_53 : decode cX4_lowerRoot 53 = .ok (.putfield 37, 3) := by decide +kernel
theorem dX4_lowerRoot_56 : decode cX4_lowerRoot 56 = .ok (.return_, 1) := by decide +kernel
theorem dX4_mend_0 : decode cX4_mend 0 = .ok (.aload_n 0, 1) := by decide +kernel
theorem dX4_mend_1 : decode cX4_mend 1 = .ok (.getfield 26, 3) := by decide +kernel
theorem dX4_mend_4 : decode cX4_mend 4 = .ok (.iload_n 1, 1) := by decide +kernel
theorem dX4_mend_5 : decode cX4_mend 5 = .ok (.invokevirtual 217, 3) := by decide +kernel
theorem dX4_mend_8 : decode cX4_mend 8 = .ok (.istore_n 2, 1) := by decide +kernel
theorem dX4_mend_9 : decode cX4_mend 9 = .ok (.aload_n 0, 1) := by decide +kernel
theorem dX4_mend_10 : decode cX4_mend 10 = .ok (.getfield 26, 3) := by decide +kernel
theorem dX4_mend_13 : decode cX4_mend 13 = .ok (.iload_n 1, 1) := by decide +kernel
theorem dX4_mend_14 : decode cX4_mend 14 = .ok (.iconst 1, 1) := by decide +kernel
theorem dX4_mend_15 : decode cX4_mend 15 = .ok (.isub, 1) := by decide +kernel
theorem dX4_mend_16 : decode cX4_mend 16 = .ok (.invokevirtual 217, 3) := by decide +kernel
theorem dX4_mend_19 : decode cX4_mend 19 = .ok (.istore_n 3, 1) := by decide +kernel
theorem dX4_mend_20 : decode cX4_mend 20 = .ok (.aload_n 0, 1) := by decide +kernel
theorem dX4_mend_21 : decode cX4_mend 21 = .ok (.getfield 26, 3) := by decide +kernel
theorem dX4_mend_24 : decode cX4_mend 24 = .ok (.iload_n 1, 1) := by decide +kernel
theorem dX4_mend_25 : decode cX4_mend 25 = .ok (.invokevirtual 239, 3) := by decide +kernel
theorem dX4_mend_28 : decode cX4_mend 28 = .ok (.istore 4, 2) := by decide +kernel
theorem dX4_mend_30 : decode cX4_mend 30 = .ok (.iload 4, 2) := by decide +kernel
theorem dX4_mend_32 : decode cX4_mend 32 = .ok (.ifCond .le 18, 3) := by decide +kernel
theorem dX4_mend_35 : decode cX4_mend 35 = .ok (.aload_n 0, 1) := by decide +kernel
theorem dX4_mend_36 : decode cX4_mend 36 = .ok (.getfield 12, 3) := by decide +kernel
theorem dX4_mend_39 : decode cX4_mend 39 = .ok (.iload_n 3, 1) := by decide +kernel
theorem dX4_mend_40 : decode cX4_mend 40 = .ok (.iload 4, 2) := by decide +kernel
theorem dX4_mend_42 : decode cX4_mend 42 = .ok (.iconst 1, 1) := by decide +kernel
theorem dX4_mend_43 : decode cX4_mend 43 = .ok (.isub, 1) := by decide +kernel
theorem dX4_mend_44 : decode cX4_mend 44 = .ok (.invokevirtual 108, 3) := by decide +kernel
theorem dX4_mend_47 : decode cX4_mend 47 = .ok (.goto 4, 3) := by decide +kernel
theorem dX4_mend_50 : decode cX4_mend 50 = .ok (.iconst (-1), 1) := by decide +kernel
theorem dX4_mend_51 : decode cX4_mend 51 = .ok (.istore 5, 2) := by decide +kernel
theorem dX4_mend_53 : decode cX4_mend 53 = .ok (.iload 4, 2) := by decide +kernel
theorem dX4_mend_55 : decode cX4_mend 55 = .ok (.iconst 1, 1) := by decide +kernel
theorem dX4_mend_56 : decode cX4_mend 56 = .ok (.iadd, 1) := by decide +kernel
theorem dX4_mend_57 : decode cX4_mend 57 = .ok (.aload_n 0, 1) := by decide +kernel
theorem dX4_mend_58 : decode cX4_mend 58 = .ok (.getfield 12, 3) := by decide +kernel
theorem dX4_mend_61 : decode cX4_mend 61 = .ok (.iload_n 3, 1) := by decide +kernel
theorem dX4_mend_62 : decode cX4_mend 62 = .ok (.invokevirtual 163, 3) := by decide +kernel
theorem dX4_mend_65 : decode cX4_mend 65 = .ok (.if_icmp .ge 18, 3) := by decide +kernel
theorem dX4_mend_68 : decode cX4_mend 68 = .ok (.aload_n 0, 1) := by decide +kernel
theorem dX4_mend_69 : decode cX4_mend 69 = .ok (.getfield 12, 3) := by decide +kernel
theorem dX4_mend_72 : decode cX4_mend 72 = .ok (.iload_n 3, 1) := by decide +kernel
theorem dX4_mend_73 : decode cX4_mend 73 = .ok (.iload 4, 2) := by decide +kernel
theorem dX4_mend_75 : decode cX4_mend 75 = .ok (.iconst 1, 1) := by decide +kernel
theorem dX4_mend_76 : decode cX4_mend 76 = .ok (.iadd, 1) := by decide +kernel
theorem dX4_mend_77 : decode cX4_mend 77 = .ok (.invokevirtual 108, 3) := by decide +kernel
theorem dX4_mend_80 : decode cX4_mend 80 = .ok (.goto 4, 3) := by decide +kernel
theorem dX4_mend_83 : decode cX4_mend 83 = .ok (.iconst (-1), 1) := by decide +kernel
theorem dX4_mend_84 : decode cX4_mend 84 = .ok (.istore 6, 2) := by decide +kernel
theorem dX4_mend_86 : decode cX4_mend 86 = .ok (.iload 5, 2) := by decide +kernel
theorem dX4_mend_88 : decode cX4_mend 88 = .ok (.iconst (-1), 1) := by decide +kernel
theorem dX4_mend_89 : decode cX4_mend 89 = .ok (.if_icmp .eq 37, 3) := by decide +kernel
theorem dX4_mend_92 : decode cX4_mend 92 = .ok (.aload_n 0, 1) := by decide +kernel
theorem dX4_mend_93 : decode cX4_mend 93 = .ok (.getfield 19, 3) := by decide +kernel
theorem dX4_mend_96 : decode cX4_mend 96 = .ok (.iload 5, 2) := by decide +kernel
theorem dX4_mend_98 : decode cX4_mend 98 = .ok (.iconst 0, 1) := by decide +kernel
theorem dX4_mend_99 : decode cX4_mend 99 = .ok (.invokevirtual 123, 3) := by decide +kernel
theorem dX4_mend_102 : decode cX4_mend 102 = .ok (.aload_n 0, 1) := by decide +kernel
theorem dX4_mend_103 : decode cX4_mend 103 = .ok (.getfield 12, 3) := by decide +kernel
theorem dX4_mend_106 : decode cX4_mend 106 = .ok (.iload 5, 2) := by decide +kernel
theorem dX4_mend_108 : decode cX4_mend 108 = .ok (.invokevirtual 163, 3) := by decide +kernel
theorem dX4_mend_111 : decode cX4_mend 111 = .ok (.iconst 2, 1) := by decide +kernel
theorem dX4_mend_112 : decode cX4_mend 112 = .ok (.if_icmp .le 14, 3) := by decide +kernel
theorem dX4_mend_115 : decode cX4_mend 115 = .ok (.aload_n 0, 1) := by decide +kernel
theorem dX4_mend_116 : decode cX4_mend 116 = .ok (.iload_n 3, 1) := by decide +kernel
theorem dX4_mend_117 : decode cX4_mend 117 = .ok (.iload 4, 2) := by decide +kernel
theorem dX4_mend_119 : decode cX4_mend 119 = .ok (.iload 5, 2) := by decide +kernel
theorem dX4_mend_121 : decode cX4_mend 121 = .ok (.iload_n 2, 1) := by decide +kernel
theorem dX4_mend_122 : decode cX4_mend 122 = .ok (.invokevirtual 257, 3) := by decide +kernel
theorem dX4_mend_125 : decode cX4_mend 125 = .ok (.return_, 1) := by decide +kernel
theorem dX4_mend_126 : decode cX4_mend 126 = .ok (.iload 6, 2) := by decide +kernel
theorem dX4_mend_128 : decode cX4_mend 128 = .ok (.iconst (-1), 1) := by decide +kernel
theorem dX4_mend_129 : decode cX4_mend 129 = .ok (.if_icmp .eq 39, 3) := by decide +kernel
theorem dX4_mend_132 : decode cX4_mend 132 = .ok (.aload_n 0, 1) := by decide +kernel
theorem dX4_mend_133 : decode cX4_mend 133 = .ok (.getfield 19, 3) := by decide +kernel
theorem dX4_mend_136 : decode cX4_mend 136 = .ok (.iload 6, 2) := by decide +kernel
theorem dX4_mend_138 : decode cX4_mend 138 = .ok (.iconst 0, 1) := by decide +kernel
theorem dX4_mend_139 : decode cX4_mend 139 = .ok (.invokevirtual 123, 3) := by decide +kernel
theorem dX4_mend_142 : decode cX4_mend 142 = .ok (.aload_n 0, 1) := by decide +kernel
theorem dX4_mend_143 : decode cX4_mend 143 = .ok (.getfield 12, 3) := by decide +kernel
theorem dX4_mend_146 : decode cX4_mend 146 = .ok (.iload 6, 2) := by decide +kernel
theorem dX4_mend_148 : decode cX4_mend 148 = .ok (.invokevirtual 163, 3) := by decide +kernel
theorem dX4_mend_151 : decode cX4_mend 151 = .ok (.iconst 2, 1) := by decide +kernel
theorem dX4_mend_152 : decode cX4_mend 152 = .ok (.if_icmp .le 16, 3) := by decide +kernel
theorem dX4_mend_155 : decode cX4_mend 155 = .ok (.aload_n 0, 1) := by decide +kernel
theorem dX4_mend_156 : decode cX4_mend 156 = .ok (.iload_n 3, 1) := by decide +kernel
theorem dX4_mend_157 : decode cX4_mend 157 = .ok (.iload 4, 2) := by decide +kernel
theorem dX4_mend_159 : decode cX4_mend 159 = .ok (.iconst 1, 1) := by decide +kernel
theorem dX4_mend_160 : decode cX4_mend 160 = .ok (.iadd, 1) := by decide +kernel
theorem dX4_mend_161 : decode cX4_mend 161 = .ok (.iload_n 2, 1) := by decide +kernel
theorem dX4_mend_162 : decode cX4_mend 162 = .ok (.iload 6, 2) := by decide +kernel
theorem dX4_mend_164 : decode cX4_mend 164 = .ok (.invokevirtual 260, 3) := by decide +kernel
theorem dX4_mend_167 : decode cX4_mend 167 = .ok (.return_, 1) := by decide +kernel
theorem dX4_mend_168 : decode cX4_mend 168 = .ok (.iload 5, 2) := by decide +kernel
theorem dX4_mend_170 : decode cX4_mend 170 = .ok (.iconst (-1), 1) := by decide +kernel
theorem dX4_mend_171 : decode cX4_mend 171 = .ok (.if_icmp .eq 16, 3) := by decide +kernel
theorem dX4_mend_174 : decode cX4_mend 174 = .ok (.aload_n 0, 1) := by decide +kernel
theorem dX4_mend_175 : decode cX4_mend 175 = .ok (.iload_n 3, 1) := by decide +kernel
theorem dX4_mend_176 : decode cX4_mend 176 = .ok (.iload 4, 2) := by decide +kernel
theorem dX4_mend_178 : decode cX4_mend 178 = .ok (.iload 5, 2) := by decide +kernel
theorem dX4_mend_180 : decode cX4_mend 180 = .ok (.iload_n 2, 1) := by decide +kernel
theorem dX4_mend_181 : decode cX4_mend 181 = .ok (.invokevirtual 263, 3) := by decide +kernel
theorem dX4_mend_184 : decode cX4_mend 184 = .ok (.goto 21, 3) := by decide +kernel
theorem dX4_mend_187 : decode cX4_mend 187 = .ok (.iload 6, 2) := by decide +kernel
theorem dX4_mend_189 : decode cX4_mend 189 = .ok (.iconst (-1), 1) := by decide +kernel
theorem dX4_mend_190 : decode cX4_mend 190 = .ok (.if_icmp .eq 15, 3) := by decide +kernel
theorem dX4_mend_193 : decode cX4_mend 193 = .ok (.aload_n 0, 1) := by decide +kernel
theorem dX4_mend_194 : decode cX4_mend 194 = .ok (.iload_n 3, 1) := by decide +kernel
theorem dX4_mend_195 : decode cX4_mend 195 = .ok (.iload 4, 2) := by decide +kernel
theorem dX4_mend_197 : decode cX4_mend 197 = .ok (.iconst 1, 1) := by decide +kernel
theorem dX4_mend_198 : decode cX4_mend 198 = .ok (.iadd, 1) := by decide +kernel
theorem dX4_mend_199 : decode cX4_mend 199 = .ok (.iload_n 2, 1) := by decide +kernel
theorem dX4_mend_200 : decode cX4_mend 200 = .ok (.iload 6, 2) := by decide +kernel
theorem dX4_mend_202 : decode cX4_mend 202 = .ok (.invokevirtual 263, 3) := by decide +kernel
theorem dX4_mend_205 : decode cX4_mend 205 = .ok (.return_, 1) := by decide +kernel
theorem dX4_giveFromLeft_0 : decode cX4_giveFromLeft 0 = .ok (.aload_n 0, 1) := by decide +kernel
theorem dX4_giveFromLeft_1 : decode cX4_giveFromLeft 1 = .ok (.getfield 12, 3) := by decide +kernel
theorem dX4_giveFromLeft_4 : decode cX4_giveFromLeft 4 = .ok (.iload_n 3, 1) := by decide +kernel
theorem dX4_giveFromLeft_5 : decode cX4_giveFromLeft 5 = .ok (.invokevirtual 163, 3) := by decide +kernel
theorem dX4_giveFromLeft_8 : decode cX4_giveFromLeft 8 = .ok (.iconst 1, 1) := by decide +kernel
theorem dX4_giveFromLeft_9 : decode cX4_giveFromLeft 9 = .ok (.isub, 1) := by decide +kernel
theorem dX4_giveFromLeft_10 : decode cX4_giveFromLeft 10 = .ok (.istore 5, 2) := by decide +kernel
theorem dX4_giveFromLeft_12 : decode cX4_giveFromLeft 12 = .ok (.aload_n 0, 1) := by decide +kernel
theorem dX4_giveFromLeft_13 : decode cX4_giveFromLeft 13 = .ok (.getfield 12, 3) := by decide +kernel
theorem dX4_giveFromLeft_16 : decode cX4_giveFromLeft 16 = .ok (.iload_n 3, 1) := by decide +kernel
theorem dX4_giveFromLeft_17 : decode cX4_giveFromLeft 17 = .ok (.iload 5, 2) := by decide +kernel
theorem dX4_giveFromLeft_19 : decode cX4_giveFromLeft 19 = .ok (.invokevirtual 176, 3) := by decide +kernel
theorem dX4_giveFromLeft_22 : decode cX4_giveFromLeft 22 = .ok (.istore 6, 2) := by decide +kernel
theorem dX4_giveFromLeft_24 : decode cX4_giveFromLeft 24 = .ok (.aload_n 0, 1) := by decide +kernel
theorem dX4_giveFromLeft_25 : decode cX4_giveFromLeft 25 = .ok (.getfield 12, 3) := by decide +kernel
theorem dX4_giveFromLeft_28 : decode cX4_giveFromLeft 28 = .ok (.iload_n 3, 1) := by decide +kernel
theorem dX4_giveFromLeft_29 : decode cX4_giveFromLeft 29 = .ok (.iload 5, 2) := by decide +kernel
theorem dX4_giveFromLeft_31 : decode cX4_giveFromLeft 31 = .ok (.invokevirtual 108, 3) := by decide +kernel
theorem dX4_giveFromLeft_34 : decode cX4_giveFromLeft 34 = .ok (.istore 7, 2) := by decide +kernel
theorem dX4_giveFromLeft_36 : decode cX4_giveFromLeft 36 = .ok (.aload_n 0, 1) := by decide +kernel
theorem dX4_giveFromLeft_37 : decode cX4_giveFromLeft 37 = .ok (.getfield 12, 3) := by decide +kernel
theorem dX4_giveFromLeft_40 : decode cX4_giveFromLeft 40 = .ok (.iload_n 3, 1) := by decide +kernel
theorem dX4_giveFromLeft_41 : decode cX4_giveFromLeft 41 = .ok (.iload 5, 2) := by decide +kernel
theorem dX4_giveFromLeft_43 : decode cX4_giveFromLeft 43 = .ok (.invokevirtual 111, 3) := by decide +kernel
theorem dX4_giveFromLeft_46 : decode cX4_giveFromLeft 46 = .ok (.aload_n 0, 1) := by decide +kernel
theorem dX4_giveFromLeft_47 : decode cX4_giveFromLeft 47 = .ok (.getfield 12, 3) := by decide +kernel
theorem dX4_giveFromLeft_50 : decode cX4_giveFromLeft 50 = .ok (.iload 4, 2) := by decide +kernel
theorem dX4_giveFromLeft_52 : decode cX4_giveFromLeft 52 = .ok (.invokevirtual 159, 3) := by decide +kernel
theorem dX4_giveFromLeft_55 : decode cX4_giveFromLeft 55 = .ok (.iconst 1, 1) := by decide +kernel
theorem dX4_giveFromLeft_56 : decode cX4_giveFromLeft 56 = .ok (.if_icmp .ne 20, 3) := by decide +kernel
theorem dX4_giveFromLeft_59 : decode cX4_giveFromLeft 59 = .ok (.aload_n 0, 1) := by decide +kernel
theorem dX4_giveFromLeft_60 : decode cX4_giveFromLeft 60 = .ok (.getfield 12, 3) := by decide +kernel
theorem dX4_giveFromLeft_63 : decode cX4_giveFromLeft 63 = .ok (.iload 4, 2) := by decide +kernel
theorem dX4_giveFromLeft_65 : decode cX4_giveFromLeft 65 = .ok (.iconst 0, 1) := by decide +kernel
theorem dX4_giveFromLeft_66 : decode cX4_giveFromLeft 66 = .ok (.iload 6, 2) := by decide +kernel
theorem dX4_giveFromLeft_68 : decode cX4_giveFromLeft 68 = .ok (.iload 7, 2) := by decide +kernel
theorem dX4_giveFromLeft_70 : decode cX4_giveFromLeft 70 = .ok (.invokevirtual 94, 3) := by decide +kernel
theorem dX4_giveFromLeft_73 : decode cX4_giveFromLeft 73 = .ok (.goto 35, 3) := by decide +kernel
theorem dX4_giveFromLeft_76 : decode cX4_giveFromLeft 76 = .ok (.aload_n 0, 1) := by decide +kernel
theorem dX4_giveFromLeft_77 : decode cX4_giveFromLeft 77 = .ok (.getfield 12, 3) := by decide +kernel
theorem dX4_giveFromLeft_80 : decode cX4_giveFromLeft 80 = .ok (.iload 4, 2) := by decide +kernel
theorem dX4_giveFromLeft_82 : decode cX4_giveFromLeft 82 = .ok (.iconst 0, 1) := by decide +kernel
theorem dX4_giveFromLeft_83 : decode cX4_giveFromLeft 83 = .ok (.aload_n 0, 1) := by decide +kernel
theorem dX4_giveFromLeft_84 : decode cX4_giveFromLeft 84 = .ok (.getfield 12, 3) := by decide +kernel
theorem dX4_giveFromLeft_87 : decode cX4_giveFromLeft 87 = .ok (.iload_n 1, 1) := by decide +kernel
theorem dX4_giveFromLeft_88 : decode cX4_giveFromLeft 88 = .ok (.iload_n 2, 1) := by decide +kernel
theorem dX4_giveFromLeft_89 : decode cX4_giveFromLeft 89 = .ok (.invokevirtual 176, 3) := by decide +kernel
theorem dX4_giveFromLeft_92 : decode cX4_giveFromLeft 92 = .ok (.invokevirtual 233, 3) := by decide +kernel
theorem dX4_giveFromLeft_95 : decode cX4_giveFromLeft 95 = .ok (.aload_n 0, 1) := by decide +kernel
theorem dX4_giveFromLeft_96 : decode cX4_giveFromLeft 96 = .ok (.getfield 12, 3) := by decide +kernel
theorem dX4_giveFromLeft_99 : decode cX4_giveFromLeft 99 = .ok (.iload 4, 2) := by decide +kernel
theorem dX4_giveFromLeft_101 : decode cX4_giveFromLeft 101 = .ok (.iconst 0, 1) := by decide +kernel
theorem dX4_giveFromLeft_102 : decode cX4_giveFromLeft 102 = .ok (.iconst 0, 1) := by decide +kernel
theorem dX4_giveFromLeft_103 : decode cX4_giveFromLeft 103 = .ok (.iload 7, 2) := by decide +kernel
theorem dX4_giveFromLeft_105 : decode cX4_giveFromLeft 105 = .ok (.invokevirtual 94, 3) := by decide +kernel
theorem dX4_giveFromLeft_108 : decode cX4_giveFromLeft 108 = .ok (.aload_n 0, 1) := by decide +kernel
theorem dX4_giveFromLeft_109 : decode cX4_giveFromLeft 109 = .ok (.getfield 12, 3) := by decide +kernel
theorem dX4_giveFromLeft_112 : decode cX4_giveFromLeft 112 = .ok (.iload_n 1, 1) := by decide +kernel
theorem dX4_giveFromLeft_113 : decode cX4_giveFromLeft 113 = .ok (.iload_n 2, 1) := by decide +kernel
theorem dX4_giveFromLeft_114 : decode cX4_giveFromLeft 114 = .ok (.iload 6, 2) := by decide +kernel
theorem dX4_giveFromLeft_116 : decode cX4_giveFromLeft 116 = .ok (.invokevirtual 233, 3) := by decide +kernel
theorem dX4_giveFromLeft_119 : decode cX4_giveFromLeft 119 = .ok (.aload_n 0, 1) := by decide +kernel
theorem dX4_giveFromLeft_120 : decode cX4_giveFromLeft 120 = .ok (.iload_n 3, 1) := by decide +kernel
theorem dX4_giveFromLeft_121 : decode cX4_giveFromLeft 121 = .ok (.iload 4, 2) := by decide +kernel
theorem dX4_giveFromLeft_123 : decode cX4_giveFromLeft 123 = .ok (.iload_n 1, 1) := by decide +kernel
theorem dX4_giveFromLeft_124 : decode cX4_giveFromLeft 124 = .ok (.invokevirtual 242, 3) := by decide +kernel
theorem dX4_giveFromLeft_127 : decode cX4_giveFromLeft 127 = .ok (.return_, 1) := by decide +kernel
theorem dX4_giveFromRight_0 : decode cX4_giveFromRight 0 = .ok (.aload_n 0, 1) := by decide +kernel
theorem dX4_giveFromRight_1 : decode cX4_giveFromRight 1 = .ok (.getfield 12, 3) := by decide +kernel
theorem dX4_giveFromRight_4 : decode cX4_giveFromRight 4 = .ok (.iload 4, 2) := by decide +kernel
theorem dX4_giveFromRight_6 : decode cX4_giveFromRight 6 = .ok (.iconst 0, 1) := by decide +kernel
theorem dX4_giveFromRight_7 : decode cX4_giveFromRight 7 = .ok (.invokevirtual 176, 3) := by decide +kernel
theorem dX4_giveFromRight_10 : decode cX4_giveFromRight 10 = .ok (.istore 5, 2) := by decide +kernel
theorem dX4_giveFromRight_12 : decode cX4_giveFromRight 12 = .ok (.aload_n 0, 1) := by decide +kernel
theorem dX4_giveFromRight_13 : decode cX4_giveFromRight 13 = .ok (.getfield 12, 3) := by decide +kernel
theorem dX4_giveFromRight_16 : decode cX4_giveFromRight 16 = .ok (.iload 4, 2) := by decide +kernel
theorem dX4_giveFromRight_18 : decode cX4_giveFromRight 18 = .ok (.iconst 0, 1) := by decide +kernel
theorem dX4_giveFromRight_19 : decode cX4_giveFromRight 19 = .ok (.invokevirtual 108, 3) := by decide +kernel
theorem dX4_giveFromRight_22 : decode cX4_giveFromRight 22 = .ok (.istore 6, 2) := by decide +kernel
theorem dX4_giveFromRight_24 : decode cX4_giveFromRight 24 = .ok (.aload_n 0, 1) := by decide +kernel
theorem dX4_giveFromRight_25 : decode cX4_giveFromRight 25 = .ok (.getfield 12, 3) := by decide +kernel
theorem dX4_giveFromRight_28 : decode cX4_giveFromRight 28 = .ok (.iload 4, 2) := by decide +kernel
theorem dX4_giveFromRight_30 : decode cX4_giveFromRight 30 = .ok (.invokevirtual 159, 3) := by decide +kernel
theorem dX4_giveFromRight_33 : decode cX4_giveFromRight 33 = .ok (.iconst 1, 1) := by decide +kernel
theorem dX4_giveFromRight_34 : decode cX4_giveFromRight 34 = .ok (.if_icmp .ne 7, 3) := by decide +kernel
theorem dX4_giveFromRight_37 : decode cX4_giveFromRight 37 = .ok (.iconst 1, 1) := by decide +kernel
theorem dX4_giveFromRight_38 : decode cX4_giveFromRight 38 = .ok (.goto 4, 3) := by decide +kernel
theorem dX4_giveFromRight_41 : decode cX4_giveFromRight 41 = .ok (.iconst 0, 1) := by decide +kernel
theorem dX4_giveFromRight_42 : decode cX4_giveFromRight 42 = .ok (.istore 7, 2) := by decide +kernel
theorem dX4_giveFromRight_44 : decode cX4_giveFromRight 44 = .ok (.aload_n 0, 1) := by decide +kernel
theorem dX4_giveFromRight_45 : decode cX4_giveFromRight 45 = .ok (.getfield 12, 3) := by decide +kernel
theorem dX4_giveFromRight_48 : decode cX4_giveFromRight 48 = .ok (.iload 4, 2) := by decide +kernel
theorem dX4_giveFromRight_50 : decode cX4_giveFromRight 50 = .ok (.iconst 0, 1) := by decide +kernel
theorem dX4_giveFromRight_51 : decode cX4_giveFromRight 51 = .ok (.invokevirtual 111, 3) := by decide +kernel
theorem dX4_giveFromRight_54 : decode cX4_giveFromRight 54 = .ok (.aload_n 0, 1) := by decide +kernel
theorem dX4_giveFromRight_55 : decode cX4_giveFromRight 55 = .ok (.getfield 12, 3) := by decide +kernel
theorem dX4_giveFromRight_58 : decode cX4_giveFromRight 58 = .ok (.iload_n 3, 1) := by decide +kernel
theorem dX4_giveFromRight_59 : decode cX4_giveFromRight 59 = .ok (.aload_n 0, 1) := by decide +kernel
theorem dX4_giveFromRight_60 : decode cX4_giveFromRight 60 = .ok (.getfield 12, 3) := by decide +kernel
theorem dX4_giveFromRight_63 : decode cX4_giveFromRight 63 = .ok (.iload_n 3, 1) := by decide +kernel
theorem dX4_giveFromRight_64 : decode cX4_giveFromRight 64 = .ok (.invokevirtual 163, 3) := by decide +kernel
theorem dX4_giveFromRight_67 : decode cX4_giveFromRight 67 = .ok (.iload 7, 2) := by decide +kernel
theorem dX4_giveFromRight_69 : decode cX4_giveFromRight 69 = .ok (.ifCond .eq 8, 3) := by decide +kernel
theorem dX4_giveFromRight_72 : decode cX4_giveFromRight 72 = .ok (.iload 5, 2) := by decide +kernel
theorem dX4_giveFromRight_74 : decode cX4_giveFromRight 74 = .ok (.goto 12, 3) := by decide +kernel
theorem dX4_giveFromRight_77 : decode cX4_giveFromRight 77 = .ok (.aload_n 0, 1) := by decide +kernel
theorem dX4_giveFromRight_78 : decode cX4_giveFromRight 78 = .ok (.getfield 12, 3) := by decide +kernel
theorem dX4_giveFromRight_81 : decode cX4_giveFromRight 81 = .ok (.iload_n 1, 1) := by decide +kernel
theorem dX4_giveFromRight_82 : decode cX4_giveFromRight 82 = .ok (.iload_n 2, 1) := by decide +kernel
theorem dX4_giveFromRight_83 : decode cX4_giveFromRight 83 = .ok (.invokevirtual 176, 3) := by decide +kernel
theorem dX4_giveFromRight_86 : decode cX4_giveFromRight 86 = .ok (.iload 6, 2) := by decide +kernel
theorem dX4_giveFromRight_88 : decode cX4_giveFromRight 88 = .ok (.invokevirtual 94, 3) := by decide +kernel
theorem dX4_giveFromRight_91 : decode cX4_giveFromRight 91 = .ok (.aload_n 0, 1) := by decide +kernel
theorem dX4_giveFromRight_92 : decode cX4_giveFromRight 92 = .ok (.getfield 12, 3) := by decide +kernel
theorem dX4_giveFromRight_95 : decode cX4_giveFromRight 95 = .ok (.iload_n 1, 1) := by decide +kernel
theorem dX4_giveFromRight_96 : decode cX4_giveFromRight 96 = .ok (.iload_n 2, 1) := by decide +kernel
theorem dX4_giveFromRight_97 : decode cX4_giveFromRight 97 = .ok (.aload_n 0, 1) := by decide +kernel
theorem dX4_giveFromRight_98 : decode cX4_giveFromRight 98 = .ok (.getfield 12, 3) := by decide +kernel
theorem dX4_giveFromRight_101 : decode cX4_giveFromRight 101 = .ok (.iload 4, 2) := by decide +kernel
theorem dX4_giveFromRight_103 : decode cX4_giveFromRight 103 = .ok (.iconst 0, 1) := by decide +kernel
theorem dX4_giveFromRight_104 : decode cX4_giveFromRight 104 = .ok (.invokevirtual 176, 3) := by decide +kernel
theorem dX4_giveFromRight_107 : decode cX4_giveFromRight 107 = .ok (.invokevirtual 233, 3) := by decide +kernel
theorem dX4_giveFromRight_110 : decode cX4_giveFromRight 110 = .ok (.iload 7, 2) := by decide +kernel
theorem dX4_giveFromRight_112 : decode cX4_giveFromRight 112 = .ok (.ifCond .ne 14, 3) := by decide +kernel
theorem dX4_giveFromRight_115 : decode cX4_giveFromRight 115 = .ok (.aload_n 0, 1) := by decide +kernel
theorem dX4_giveFromRight_116 : decode cX4_giveFromRight 116 = .ok (.getfield 12, 3) := by decide +kernel
theorem dX4_giveFromRight_119 : decode cX4_giveFromRight 119 = .ok (.iload 4, 2) := by decide +kernel
theorem dX4_giveFromRight_121 : decode cX4_giveFromRight 121 = .ok (.iconst 0, 1) := by decide +kernel
theorem dX4_giveFromRight_122 : decode cX4_giveFromRight 122 = .ok (.iconst 0, 1) := by decide +kernel
theorem dX4_giveFromRight_123 : decode cX4_giveFromRight 123 = .ok (.invokevirtual 233, 3) := by decide +kernel
theorem dX4_giveFromRight_126 : decode cX4_giveFromRight 126 = .ok (.aload_n 0, 1) := by decide +kernel
theorem dX4_giveFromRight_127 : decode cX4_giveFromRight 127 = .ok (.iload_n 3, 1) := by decide +kernel
theorem dX4_giveFromRight_128 : decode cX4_giveFromRight 128 = .ok (.iload 4, 2) := by decide +kernel
theorem dX4_giveFromRight_130 : decode cX4_giveFromRight 130 = .ok (.iload_n 1, 1) := by decide +kernel
theorem dX4_giveFromRight_131 : decode cX4_giveFromRight 131 = .ok (.invokevirtual 242, 3) := by decide +kernel
theorem dX4_giveFromRight_134 : decode cX4_giveFromRight 134 = .ok (.return_, 1) := by decide +kernel
theorem dX4_join_0 : decode cX4_join 0 = .ok (.aload_n 0, 1) := by decide +kernel
theorem dX4_join_1 : decode cX4_join 1 = .ok (.getfield 12, 3) := by decide +kernel
theorem dX4_join_4 : decode cX4_join 4 = .ok (.iload_n 3, 1) := by decide +kernel
theorem dX4_join_5 : decode cX4_join 5 = .ok (.invokevirtual 159, 3) := by decide +kernel
theorem dX4_join_8 : decode cX4_join 8 = .ok (.iconst 1, 1) := by decide +kernel
theorem dX4_join_9 : decode cX4_join 9 = .ok (.if_icmp .ne 23, 3) := by decide +kernel
theorem dX4_join_12 : decode cX4_join 12 = .ok (.aload_n 0, 1) := by decide +kernel
theorem dX4_join_13 : decode cX4_join 13 = .ok (.getfield 12, 3) := by decide +kernel
theorem dX4_join_16 : decode cX4_join 16 = .ok (.iload_n 3, 1) := by decide +kernel
theorem dX4_join_17 : decode cX4_join 17 = .ok (.aload_n 0, 1) := by decide +kernel
theorem dX4_join_18 : decode cX4_join 18 = .ok (.getfield 12, 3) := by decide +kernel
theorem dX4_join_21 : decode cX4_join 21 = .ok (.iload 4, 2) := by decide +kernel
theorem dX4_join_23 : decode cX4_join 23 = .ok (.invokevirtual 166, 3) := by decide +kernel
theorem dX4_join_26 : decode cX4_join 26 = .ok (.invokevirtual 230, 3) := by decide +kernel
theorem dX4_join_29 : decode cX4_join 29 = .ok (.goto 22, 3) := by decide +kernel
theorem dX4_join_32 : decode cX4_join 32 = .ok (.aload_n 0, 1) := by decide +kernel
theorem dX4_join_33 : decode cX4_join 33 = .ok (.getfield 12, 3) := by decide +kernel
theorem dX4_join_36 : decode cX4_join 36 = .ok (.iload 4, 2) := by decide +kernel
theorem dX4_join_38 : decode cX4_join 38 = .ok (.iconst 0, 1) := by decide +kernel
theorem dX4_join_39 : decode cX4_join 39 = .ok (.aload_n 0, 1) := by decide +kernel
theorem dX4_join_40 : decode cX4_join 40 = .ok (.getfield 12, 3) := by decide +kernel
theorem dX4_join_43 : decode cX4_join 43 = .ok (.iload_n 1, 1) := by decide +kernel
theorem dX4_join_44 : decode cX4_join 44 = .ok (.iload_n 2, 1) := by decide +kernel
theorem dX4_join_45 : decode cX4_join 45 = .ok (.invokevirtual 176, 3) := by decide +kernel
theorem dX4_join_48 : decode cX4_join 48 = .ok (.invokevirtual 233, 3) := by decide +kernel
theorem dX4_join_51 : decode cX4_join 51 = .ok (.aload_n 0, 1) := by decide +kernel
theorem dX4_join_52 : decode cX4_join 52 = .ok (.getfield 12, 3) := by decide +kernel
theorem dX4_join_55 : decode cX4_join 55 = .ok (.iload 4, 2) := by decide +kernel
theorem dX4_join_57 : decode cX4_join 57 = .ok (.iconst 0, 1) := by decide +kernel
theorem dX4_join_58 : decode cX4_join 58 = .ok (.iload_n 3, 1) := by decide +kernel
theorem dX4_join_59 : decode cX4_join 59 = .ok (.invokevirtual 226, 3) := by decide +kernel
theorem dX4_join_62 : decode cX4_join 62 = .ok (.aload_n 0, 1) := by decide +kernel
theorem dX4_join_63 : decode cX4_join 63 = .ok (.getfield 12, 3) := by decide +kernel
theorem dX4_join_66 : decode cX4_join 66 = .ok (.iload_n 1, 1) := by decide +kernel
theorem dX4_join_67 : decode cX4_join 67 = .ok (.iload_n 2, 1) := by decide +kernel
theorem dX4_join_68 : decode cX4_join 68 = .ok (.invokevirtual 111, 3) := by decide +kernel
theorem dX4_join_71 : decode cX4_join 71 = .ok (.aload_n 0, 1) := by decide +kernel
theorem dX4_join_72 : decode cX4_join 72 = .ok (.iload_n 3, 1) := by decide +kernel
theorem dX4_join_73 : decode cX4_join 73 = .ok (.iload 4, 2) := by decide +kernel
theorem dX4_join_75 : decode cX4_join 75 = .ok (.iload_n 1, 1) := by decide +kernel
theorem dX4_join_76 : decode cX4_join 76 = .ok (.invokevirtual 242, 3) := by decide +kernel
theorem dX4_join_79 : decode cX4_join 79 = .ok (.aload_n 0, 1) := by decide +kernel
theorem dX4_join_80 : decode cX4_join 80 = .ok (.iload 4, 2) := by decide +kernel
theorem dX4_join_82 : decode cX4_join 82 = .ok (.invokevirtual 254, 3) := by decide +kernel
theorem dX4_join_85 : decode cX4_join 85 = .ok (.return_, 1) := by decide +kernel
theorem dX4_soilThree_0 : decode cX4_soilThree 0 = .ok (.aload_n 0, 1) := by decide +kernel
theorem dX4_soilThree_1 : decode cX4_soilThree 1 = .ok (.getfield 19, 3) := by decide +kernel
theorem dX4_soilThree_4 : decode cX4_soilThree 4 = .ok (.iload_n 1, 1) := by decide +kernel
theorem dX4_soilThree_5 : decode cX4_soilThree 5 = .ok (.invokevirtual 86, 3) := by decide +kernel
theorem dX4_soilThree_8 : decode cX4_soilThree 8 = .ok (.aload_n 0, 1) := by decide +kernel
theorem dX4_soilThree_9 : decode cX4_soilThree 9 = .ok (.getfield 19, 3) := by decide +kernel
theorem dX4_soilThree_12 : decode cX4_soilThree 12 = .ok (.iload_n 2, 1) := by decide +kernel
theorem dX4_soilThree_13 : decode cX4_soilThree 13 = .ok (.invokevirtual 86, 3) := by decide +kernel
theorem dX4_soilThree_16 : decode cX4_soilThree 16 = .ok (.aload_n 0, 1) := by decide +kernel
theorem dX4_soilThree_17 : decode cX4_soilThree 17 = .ok (.getfield 19, 3) := by decide +kernel
theorem dX4_soilThree_20 : decode cX4_soilThree 20 = .ok (.iload_n 3, 1) := by decide +kernel
theorem dX4_soilThree_21 : decode cX4_soilThree 21 = .ok (.invokevirtual 86, 3) := by decide +kernel
theorem dX4_soilThree_24 : decode cX4_soilThree 24 = .ok (.return_, 1) := by decide +kernel
theorem dX4_releasePage_0 : decode cX4_releasePage 0 = .ok (.aload_n 0, 1) := by decide +kernel
theorem dX4_releasePage_1 : decode cX4_releasePage 1 = .ok (.getfield 12, 3) := by decide +kernel
theorem dX4_releasePage_4 : decode cX4_releasePage 4 = .ok (.iload_n 1, 1) := by decide +kernel
theorem dX4_releasePage_5 : decode cX4_releasePage 5 = .ok (.iconst 0, 1) := by decide +kernel
theorem dX4_releasePage_6 : decode cX4_releasePage 6 = .ok (.invokevirtual 47, 3) := by decide +kernel
theorem dX4_releasePage_9 : decode cX4_releasePage 9 = .ok (.aload_n 0, 1) := by decide +kernel
theorem dX4_releasePage_10 : decode cX4_releasePage 10 = .ok (.getfield 19, 3) := by decide +kernel
theorem dX4_releasePage_13 : decode cX4_releasePage 13 = .ok (.iload_n 1, 1) := by decide +kernel
theorem dX4_releasePage_14 : decode cX4_releasePage 14 = .ok (.invokevirtual 266, 3) := by decide +kernel
theorem dX4_releasePage_17 : decode cX4_releasePage 17 = .ok (.return_, 1) := by decide +kernel
theorem dX5_init_0 : decode cX5_init 0 = .ok (.aload_n 0, 1) := by decide +kernel
theorem dX5_init_1 : decode cX5_init 1 = .ok (.invokespecial 1, 3) := by decide +kernel
theorem dX5_init_4 : decode cX5_init 4 = .ok (.aload_n 0, 1) := by decide +kernel
theorem dX5_init_5 : decode cX5_init 5 = .ok (.bipush 40, 2) := by decide +kernel
theorem dX5_init_7 : decode cX5_init 7 = .ok (.newarray .int, 2) := by decide +kernel
theorem dX5_init_9 : decode cX5_init 9 = .ok (.putfield 7, 3) := by decide +kernel
theorem dX5_init_12 : decode cX5_init 12 = .ok (.aload_n 0, 1) := by decide +kernel
theorem dX5_init_13 : decode cX5_init 13 = .ok (.bipush 40, 2) := by decide +kernel
theorem dX5_init_15 : decode cX5_init 15 = .ok (.newarray .int, 2) := by decide +kernel
theorem dX5_init_17 : decode cX5_init 17 = .ok (.putfield 13, 3) := by decide +kernel
theorem dX5_init_20 : decode cX5_init 20 = .ok (.aload_n 0, 1) := by decide +kernel
theorem dX5_init_21 : decode cX5_init 21 = .ok (.sipush 200, 3) := by decide +kernel
theorem dX5_init_24 : decode cX5_init 24 = .ok (.newarray .int, 2) := by decide +kernel
theorem dX5_init_26 : decode cX5_init 26 = .ok (.putfield 16, 3) := by decide +kernel
theorem dX5_init_29 : decode cX5_init 29 = .ok (.aload_n 0, 1) := by decide +kernel
theorem dX5_init_30 : decode cX5_init 30 = .ok (.sipush 200, 3) := by decide +kernel
theorem dX5_init_33 : decode cX5_init 33 = .ok (.newarray .int, 2) := by decide +kernel
theorem dX5_init_35 : decode cX5_init 35 = .ok (.putfield 19, 3) := by decide +kernel
theorem dX5_init_38 : decode cX5_init 38 = .ok (.aload_n 0, 1) := by decide +kernel
theorem dX5_init_39 : decode cX5_init 39 = .ok (.bipush 40, 2) := by decide +kernel
theorem dX5_init_41 : decode cX5_init 41 = .ok (.newarray .int, 2) := by decide +kernel
theorem dX5_init_43 : decode cX5_init 43 = .ok (.putfield 22, 3) := by decide +kernel
theorem dX5_init_46 : decode cX5_init 46 = .ok (.aload_n 0, 1) := by decide +kernel
theorem dX5_init_47 : decode cX5_init 47 = .ok (.bipush 50, 2) := by decide +kernel
theorem dX5_init_49 : decode cX5_init 49 = .ok (.newarray .int, 2) := by decide +kernel
theorem dX5_init_51 : decode cX5_init 51 = .ok (.putfield 25, 3) := by decide +kernel
theorem dX5_init_54 : decode cX5_init 54 = .ok (.aload_n 0, 1) := by decide +kernel
theorem dX5_init_55 : decode cX5_init 55 = .ok (.bipush 50, 2) := by decide +kernel
theorem dX5_init_57 : decode cX5_init 57 = .ok (.newarray .int, 2) := by decide +kernel
theorem dX5_init_59 : decode cX5_init 59 = .ok (.putfield 28, 3) := by decide +kernel
theorem dX5_init_62 : decode cX5_init 62 = .ok (.aload_n 0, 1) := by decide +kernel
theorem dX5_init_63 : decode cX5_init 63 = .ok (.bipush 12, 2) := by decide +kernel
theorem dX5_init_65 : decode cX5_init 65 = .ok (.newarray .int, 2) := by decide +kernel
theorem dX5_init_67 : decode cX5_init 67 = .ok (.putfield 31, 3) := by decide +kernel
theorem dX5_init_70 : decode cX5_init 70 = .ok (.aload_n 0, 1) := by decide +kernel
theorem dX5_init_71 : decode cX5_init 71 = .ok (.bipush 12, 2) := by decide +kernel
theorem dX5_init_73 : decode cX5_init 73 = .ok (.newarray .boolean, 2) := by decide +kernel
theorem dX5_init_75 : decode cX5_init 75 = .ok (.putfield 34, 3) := by decide +kernel
theorem dX5_init_78 : decode cX5_init 78 = .ok (.aload_n 0, 1) := by decide +kernel
theorem dX5_init_79 : decode cX5_init 79 = .ok (.bipush 12, 2) := by decide +kernel
theorem dX5_init_81 : decode cX5_init 81 = .ok (.newarray .boolean, 2) := by decide +kernel
theorem dX5_init_83 : decode cX5_init 83 = .ok (.putfield 38, 3) := by decide +kernel
theorem dX5_init_86 : decode cX5_init 86 = .ok (.aload_n 0, 1) := by decide +kernel
theorem dX5_init_87 : decode cX5_init 87 = .ok (.bipush 12, 2) := by decide +kernel
theorem dX5_init_89 : decode cX5_init 89 = .ok (.newarray .boolean, 2) := by decide +kernel
theorem dX5_init_91 : decode cX5_init 91 = .ok (.putfield 41, 3) := by decide +kernel
theorem dX5_init_94 : decode cX5_init 94 = .ok (.aload_n 0, 1) := by decide +kernel
theorem dX5_init_95 : decode cX5_init 95 = .ok (.getfield 7, 3) := by decide +kernel
theorem dX5_init_98 : decode cX5_init 98 = .ok (.iconst 0, 1) := by decide +kernel
theorem dX5_init_99 : decode cX5_init 99 = .ok (.iconst 1, 1) := by decide +kernel
theorem dX5_init_100 : decode cX5_init 100 = .ok (.iastore, 1) := by decide +kernel
theorem dX5_init_101 : decode cX5_init 101 = .ok (.iconst 0, 1) := by decide +kernel
theorem dX5_init_102 : decode cX5_init 102 = .ok (.istore_n 1, 1) := by decide +kernel
theorem dX5_init_103 : decode cX5_init 103 = .ok (.iload_n 1, 1) := by decide +kernel
theorem dX5_init_104 : decode cX5_init 104 = .ok (.bipush 40, 2) := by decide +kernel
theorem dX5_init_106 : decode cX5_init 106 = .ok (.if_icmp .ge 16, 3) := by decide +kernel
theorem dX5_init_109 : decode cX5_init 109 = .ok (.aload_n 0, 1) := by decide +kernel
theorem dX5_init_110 : decode cX5_init 110 = .ok (.getfield 22, 3) := by decide +kernel
theorem dX5_init_113 : decode cX5_init 113 = .ok (.iload_n 1, 1) := by decide +kernel
theorem dX5_init_114 : decode cX5_init 114 = .ok (.iconst (-1), 1) := by decide +kernel
theorem dX5_init_115 : decode cX5_init 115 = .ok (.iastore, 1) := by decide +kernel
theorem dX5_init_116 : decode cX5_init 116 = .ok (.iinc 1 1, 3) := by decide +kernel
theorem dX5_init_119 : decode cX5_init 119 = .ok (.goto (-16), 3) := by decide +kernel
theorem dX5_init_122 : decode cX5_init 122 = .ok (.iconst 0, 1) := by decide +kernel
theorem dX5_init_123 : decode cX5_init 123 = .ok (.istore_n 1, 1) := by decide +kernel
theorem dX5_init_124 : decode cX5_init 124 = .ok (.iload_n 1, 1) := by decide +kernel
theorem dX5_init_125 : decode cX5_init 125 = .ok (.bipush 12, 2) := by decide +kernel
theorem dX5_init_127 : decode cX5_init 127 = .ok (.if_icmp .ge 16, 3) := by decide +kernel
theorem dX5_init_130 : decode cX5_init 130 = .ok (.aload_n 0, 1) := by decide +kernel
theorem dX5_init_131 : decode cX5_init 131 = .ok (.getfield 31, 3) := by decide +kernel
theorem dX5_init_134 : decode cX5_init 134 = .ok (.iload_n 1, 1) := by decide +kernel
theorem dX5_init_135 : decode cX5_init 135 = .ok (.iconst (-1), 1) := by decide +kernel
theorem dX5_init_136 : decode cX5_init 136 = .ok (.iastore, 1) := by decide +kernel
theorem dX5_init_137 : decode cX5_init 137 = .ok (.iinc 1 1, 3) := by decide +kernel
theorem dX5_init_140 : decode cX5_init 140 = .ok (.goto (-16), 3) := by decide +kernel
theorem dX5_init_143 : decode cX5_init 143 = .ok (.return_, 1) := by decide +kernel
theorem dX5_thrown_0 : decode cX5_thrown 0 = .ok (.aload_n 0, 1) := by decide +kernel
theorem dX5_thrown_1 : decode cX5_thrown 1 = .ok (.getfield 44, 3) := by decide +kernel
theorem dX5_thrown_4 : decode cX5_thrown 4 = .ok (.ireturn, 1) := by decide +kernel
theorem dX5_unpin_0 : decode cX5_unpin 0 = .ok (.iconst 0, 1) := by decide +kernel
theorem dX5_unpin_1 : decode cX5_unpin 1 = .ok (.istore_n 1, 1) := by decide +kernel
theorem dX5_unpin_2 : decode cX5_unpin 2 = .ok (.iload_n 1, 1) := by decide +kernel
theorem dX5_unpin_3 : decode cX5_unpin 3 = .ok (.bipush 12, 2) := by decide +kernel
theorem dX5_unpin_5 : decode cX5_unpin 5 = .ok (.if_icmp .ge 16, 3) := by decide +kernel
theorem dX5_unpin_8 : decode cX5_unpin 8 = .ok (.aload_n 0, 1) := by decide +kernel
theorem dX5_unpin_9 : decode cX5_unpin 9 = .ok (.getfield 41, 3) := by decide +kernel
theorem dX5_unpin_12 : decode cX5_unpin 12 = .ok (.iload_n 1, 1) := by decide +kernel
theorem dX5_unpin_13 : decode cX5_unpin 13 = .ok (.iconst 0, 1) := by decide +kernel
theorem dX5_unpin_14 : decode cX5_unpin 14 = .ok (.bastore, 1) := by decide +kernel
theorem dX5_unpin_15 : decode cX5_unpin 15 = .ok (.iinc 1 1, 3) := by decide +kernel
theorem dX5_unpin_18 : decode cX5_unpin 18 = .ok (.goto (-16), 3) := by decide +kernel
theorem dX5_unpin_21 : decode cX5_unpin 21 = .ok (.return_, 1) := by decide +kernel
theorem dX5_frameOf_0 : decode cX5_frameOf 0 = .ok (.iconst (-1), 1) := by decide +kernel
theorem dX5_frameOf_1 : decode cX5_frameOf 1 = .ok (.istore_n 2, 1) := by decide +kernel
theorem dX5_frameOf_2 : decode cX5_frameOf 2 = .ok (.iconst 0, 1) := by decide +kernel
theorem dX5_frameOf_3 : decode cX5_frameOf 3 = .ok (.istore_n 3, 1) := by decide +kernel
theorem dX5_frameOf_4 : decode cX5_frameOf 4 = .ok (.iload_n 3, 1) := by decide +kernel
theorem dX5_frameOf_5 : decode cX5_frameOf 5 = .ok (.bipush 12, 2) := by decide +kernel
theorem dX5_frameOf_7 : decode cX5_frameOf 7 = .ok (.if_icmp .ge 25, 3) := by decide +kernel
theorem dX5_frameOf_10 : decode cX5_frameOf 10 = .ok (.aload_n 0, 1) := by decide +kernel
theorem dX5_frameOf_11 : decode cX5_frameOf 11 = .ok (.getfield 31, 3) := by decide +kernel
theorem dX5_frameOf_14 : decode cX5_frameOf 14 = .ok (.iload_n 3, 1) := by decide +kernel
theorem dX5_frameOf_15 : decode cX5_frameOf 15 = .ok (.iaload, 1) := by decide +kernel
theorem dX5_frameOf_16 : decode cX5_frameOf 16 = .ok (.iload_n 1, 1) := by decide +kernel
theorem dX5_frameOf_17 : decode cX5_frameOf 17 = .ok (.if_icmp .ne 7, 3) := by decide +kernel
theorem dX5_frameOf_20 : decode cX5_frameOf 20 = .ok (.iload_n 3, 1) := by decide +kernel
theorem dX5_frameOf_21 : decode cX5_frameOf 21 = .ok (.goto 4, 3) := by decide +kernel
theorem dX5_frameOf_24 : decode cX5_frameOf 24 = .ok (.iload_n 2, 1) := by decide +kernel
theorem dX5_frameOf_25 : decode cX5_frameOf 25 = .ok (.istore_n 2, 1) := by decide +kernel
theorem dX5_frameOf_26 : decode cX5_frameOf 26 = .ok (.iinc 3 1, 3) := by decide +kernel
theorem dX5_frameOf_29 : decode cX5_frameOf 29 = .ok (.goto (-25), 3) := by decide +kernel
theorem dX5_frameOf_32 : decode cX5_frameOf 32 = .ok (.iload_n 2, 1) := by decide +kernel
theorem dX5_frameOf_33 : decode cX5_frameOf 33 = .ok (.ireturn, 1) := by decide +kernel
theorem dX5_goOn_0 : decode cX5_goOn 0 = .ok (.aload_n 0, 1) := by decide +kernel
theorem dX5_goOn_1 : decode cX5_goOn 1 = .ok (.aload_n 0, 1) := by decide +kernel
theorem dX5_goOn_2 : decode cX5_goOn 2 = .ok (.getfield 48, 3) := by decide +kernel
theorem dX5_goOn_5 : decode cX5_goOn 5 = .ok (.iconst 1, 1) := by decide +kernel
theorem dX5_goOn_6 : decode cX5_goOn 6 = .ok (.iadd, 1) := by decide +kernel
theorem dX5_goOn_7 : decode cX5_goOn 7 = .ok (.bipush 12, 2) := by decide +kernel
theorem dX5_goOn_9 : decode cX5_goOn 9 = .ok (.irem, 1) := by decide +kernel
theorem dX5_goOn_10 : decode cX5_goOn 10 = .ok (.putfield 48, 3) := by decide +kernel
theorem dX5_goOn_13 : decode cX5_goOn 13 = .ok (.return_, 1) := by decide +kernel
theorem dX5_freeFrame_0 : decode cX5_freeFrame 0 = .ok (.aload_n 0, 1) := by decide +kernel
theorem dX5_freeFrame_1 : decode cX5_freeFrame 1 = .ok (.getfield 31, 3) := by decide +kernel
theorem dX5_freeFrame_4 : decode cX5_freeFrame 4 = .ok (.aload_n 0, 1) := by decide +kernel
theorem dX5_freeFrame_5 : decode cX5_freeFrame 5 = .ok (.getfield 48, 3) := by decide +kernel
theorem dX5_freeFrame_8 : decode cX5_freeFrame 8 = .ok (.iaload, 1) := by decide +kernel
theorem dX5_freeFrame_9 : decode cX5_freeFrame 9 = .ok (.iconst (-1), 1) := by decide +kernel
theorem dX5_freeFrame_10 : decode cX5_freeFrame 10 = .ok (.if_icmp .eq 56, 3) := by decide +kernel
theorem dX5_freeFrame_13 : decode cX5_freeFrame 13 = .ok (.aload_n 0, 1) := by decide +kernel
theorem dX5_freeFrame_14 : decode cX5_freeFrame 14 = .ok (.getfield 41, 3) := by decide +kernel
theorem dX5_freeFrame_17 : decode cX5_freeFrame 17 = .ok (.aload_n 0, 1) := by decide +kernel
end
section
theorem dX5_freeFrame_18 : decode cX5_freeFrame 18 = .ok (.getfield 48, 3) := by decide +kernel
theorem dX5_freeFrame_21 : decode cX5_freeFrame 21 = .ok (.baload, 1) := by decide +kernel
theorem dX5_freeFrame_22 : decode cX5_freeFrame 22 = .ok (.ifCond .ne 15, 3) := by decide +kernel
theorem dX5_freeFrame_25 : decode cX5_freeFrame 25 = .ok (.aload_n 0, 1) := by decide +kernel
theorem dX5_freeFrame_26 : decode cX5_freeFrame 26 = .ok (.getfield 34, 3) := by decide +kernel
theorem dX5_freeFrame_29 : decode cX5_freeFrame 29 = .ok (.aload_n 0, 1) := by decide +kernel
theorem dX5_freeFrame_30 : decode cX5_freeFrame 30 = .ok (.getfield 48, 3) := by decide +kernel
theorem dX5_freeFrame_33 : decode cX5_freeFrame 33 = .ok (.baload, 1) := by decide +kernel
theorem dX5_freeFrame_34 : decode cX5_freeFrame 34 = .ok (.ifCond .eq 32, 3) := by decide +kernel
theorem dX5_freeFrame_37 : decode cX5_freeFrame 37 = .ok (.aload_n 0, 1) := by decide +kernel
theorem dX5_freeFrame_38 : decode cX5_freeFrame 38 = .ok (.getfield 41, 3) := by decide +kernel
theorem dX5_freeFrame_41 : decode cX5_freeFrame 41 = .ok (.aload_n 0, 1) := by decide +kernel
theorem dX5_freeFrame_42 : decode cX5_freeFrame 42 = .ok (.getfield 48, 3) := by decide +kernel
theorem dX5_freeFrame_45 : decode cX5_freeFrame 45 = .ok (.baload, 1) := by decide +kernel
theorem dX5_freeFrame_46 : decode cX5_freeFrame 46 = .ok (.ifCond .ne 13, 3) := by decide +kernel
theorem dX5_freeFrame_49 : decode cX5_freeFrame 49 = .ok (.aload_n 0, 1) := by decide +kernel
theorem dX5_freeFrame_50 : decode cX5_freeFrame 50 = .ok (.getfield 34, 3) := by decide +kernel
theorem dX5_freeFrame_53 : decode cX5_freeFrame 53 = .ok (.aload_n 0, 1) := by decide +kernel
theorem dX5_freeFrame_54 : decode cX5_freeFrame 54 = .ok (.getfield 48, 3) := by decide +kernel
theorem dX5_freeFrame_57 : decode cX5_freeFrame 57 = .ok (.iconst 0, 1) := by decide +kernel
theorem dX5_freeFrame_58 : decode cX5_freeFrame 58 = .ok (.bastore, 1) := by decide +kernel
theorem dX5_freeFrame_59 : decode cX5_freeFrame 59 = .ok (.aload_n 0, 1) := by decide +kernel
theorem dX5_freeFrame_60 : decode cX5_freeFrame 60 = .ok (.invokevirtual 51, 3) := by decide +kernel
theorem dX5_freeFrame_63 : decode cX5_freeFrame 63 = .ok (.goto (-63), 3) := by decide +kernel
theorem dX5_freeFrame_66 : decode cX5_freeFrame 66 = .ok (.aload_n 0, 1) := by decide +kernel
theorem dX5_freeFrame_67 : decode cX5_freeFrame 67 = .ok (.getfield 48, 3) := by decide +kernel
theorem dX5_freeFrame_70 : decode cX5_freeFrame 70 = .ok (.istore_n 1, 1) := by decide +kernel
theorem dX5_freeFrame_71 : decode cX5_freeFrame 71 = .ok (.aload_n 0, 1) := by decide +kernel
theorem dX5_freeFrame_72 : decode cX5_freeFrame 72 = .ok (.aload_n 0, 1) := by decide +kernel
theorem dX5_freeFrame_73 : decode cX5_freeFrame 73 = .ok (.getfield 31, 3) := by decide +kernel
theorem dX5_freeFrame_76 : decode cX5_freeFrame 76 = .ok (.iload_n 1, 1) := by decide +kernel
theorem dX5_freeFrame_77 : decode cX5_freeFrame 77 = .ok (.iaload, 1) := by decide +kernel
theorem dX5_freeFrame_78 : decode cX5_freeFrame 78 = .ok (.iconst (-1), 1) := by decide +kernel
theorem dX5_freeFrame_79 : decode cX5_freeFrame 79 = .ok (.if_icmp .eq 21, 3) := by decide +kernel
theorem dX5_freeFrame_82 : decode cX5_freeFrame 82 = .ok (.aload_n 0, 1) := by decide +kernel
theorem dX5_freeFrame_83 : decode cX5_freeFrame 83 = .ok (.getfield 38, 3) := by decide +kernel
theorem dX5_freeFrame_86 : decode cX5_freeFrame 86 = .ok (.iload_n 1, 1) := by decide +kernel
theorem dX5_freeFrame_87 : decode cX5_freeFrame 87 = .ok (.baload, 1) := by decide +kernel
theorem dX5_freeFrame_88 : decode cX5_freeFrame 88 = .ok (.ifCond .eq 12, 3) := by decide +kernel
theorem dX5_freeFrame_91 : decode cX5_freeFrame 91 = .ok (.aload_n 0, 1) := by decide +kernel
theorem dX5_freeFrame_92 : decode cX5_freeFrame 92 = .ok (.getfield 54, 3) := by decide +kernel
theorem dX5_freeFrame_95 : decode cX5_freeFrame 95 = .ok (.iconst 1, 1) := by decide +kernel
theorem dX5_freeFrame_96 : decode cX5_freeFrame 96 = .ok (.iadd, 1) := by decide +kernel
theorem dX5_freeFrame_97 : decode cX5_freeFrame 97 = .ok (.goto 7, 3) := by decide +kernel
theorem dX5_freeFrame_100 : decode cX5_freeFrame 100 = .ok (.aload_n 0, 1) := by decide +kernel
theorem dX5_freeFrame_101 : decode cX5_freeFrame 101 = .ok (.getfield 54, 3) := by decide +kernel
theorem dX5_freeFrame_104 : decode cX5_freeFrame 104 = .ok (.putfield 54, 3) := by decide +kernel
theorem dX5_freeFrame_107 : decode cX5_freeFrame 107 = .ok (.aload_n 0, 1) := by decide +kernel
theorem dX5_freeFrame_108 : decode cX5_freeFrame 108 = .ok (.invokevirtual 51, 3) := by decide +kernel
theorem dX5_freeFrame_111 : decode cX5_freeFrame 111 = .ok (.iload_n 1, 1) := by decide +kernel
theorem dX5_freeFrame_112 : decode cX5_freeFrame 112 = .ok (.ireturn, 1) := by decide +kernel
theorem dX5_touch_0 : decode cX5_touch 0 = .ok (.aload_n 0, 1) := by decide +kernel
theorem dX5_touch_1 : decode cX5_touch 1 = .ok (.iload_n 1, 1) := by decide +kernel
theorem dX5_touch_2 : decode cX5_touch 2 = .ok (.invokevirtual 57, 3) := by decide +kernel
theorem dX5_touch_5 : decode cX5_touch 5 = .ok (.istore_n 3, 1) := by decide +kernel
theorem dX5_touch_6 : decode cX5_touch 6 = .ok (.iload_n 3, 1) := by decide +kernel
theorem dX5_touch_7 : decode cX5_touch 7 = .ok (.ifCond .lt 13, 3) := by decide +kernel
theorem dX5_touch_10 : decode cX5_touch 10 = .ok (.aload_n 0, 1) := by decide +kernel
theorem dX5_touch_11 : decode cX5_touch 11 = .ok (.getfield 41, 3) := by decide +kernel
theorem dX5_touch_14 : decode cX5_touch 14 = .ok (.iload_n 3, 1) := by decide +kernel
theorem dX5_touch_15 : decode cX5_touch 15 = .ok (.baload, 1) := by decide +kernel
theorem dX5_touch_16 : decode cX5_touch 16 = .ok (.ifCond .eq 4, 3) := by decide +kernel
theorem dX5_touch_19 : decode cX5_touch 19 = .ok (.return_, 1) := by decide +kernel
theorem dX5_touch_20 : decode cX5_touch 20 = .ok (.iload_n 3, 1) := by decide +kernel
theorem dX5_touch_21 : decode cX5_touch 21 = .ok (.ifCond .lt 16, 3) := by decide +kernel
theorem dX5_touch_24 : decode cX5_touch 24 = .ok (.aload_n 0, 1) := by decide +kernel
theorem dX5_touch_25 : decode cX5_touch 25 = .ok (.dup, 1) := by decide +kernel
theorem dX5_touch_26 : decode cX5_touch 26 = .ok (.getfield 61, 3) := by decide +kernel
theorem dX5_touch_29 : decode cX5_touch 29 = .ok (.iconst 1, 1) := by decide +kernel
theorem dX5_touch_30 : decode cX5_touch 30 = .ok (.iadd, 1) := by decide +kernel
theorem dX5_touch_31 : decode cX5_touch 31 = .ok (.putfield 61, 3) := by decide +kernel
theorem dX5_touch_34 : decode cX5_touch 34 = .ok (.goto 43, 3) := by decide +kernel
theorem dX5_touch_37 : decode cX5_touch 37 = .ok (.aload_n 0, 1) := by decide +kernel
theorem dX5_touch_38 : decode cX5_touch 38 = .ok (.invokevirtual 64, 3) := by decide +kernel
theorem dX5_touch_41 : decode cX5_touch 41 = .ok (.istore_n 3, 1) := by decide +kernel
theorem dX5_touch_42 : decode cX5_touch 42 = .ok (.aload_n 0, 1) := by decide +kernel
theorem dX5_touch_43 : decode cX5_touch 43 = .ok (.getfield 31, 3) := by decide +kernel
theorem dX5_touch_46 : decode cX5_touch 46 = .ok (.iload_n 3, 1) := by decide +kernel
theorem dX5_touch_47 : decode cX5_touch 47 = .ok (.iload_n 1, 1) := by decide +kernel
theorem dX5_touch_48 : decode cX5_touch 48 = .ok (.iastore, 1) := by decide +kernel
theorem dX5_touch_49 : decode cX5_touch 49 = .ok (.aload_n 0, 1) := by decide +kernel
theorem dX5_touch_50 : decode cX5_touch 50 = .ok (.getfield 38, 3) := by decide +kernel
theorem dX5_touch_53 : decode cX5_touch 53 = .ok (.iload_n 3, 1) := by decide +kernel
theorem dX5_touch_54 : decode cX5_touch 54 = .ok (.iconst 0, 1) := by decide +kernel
theorem dX5_touch_55 : decode cX5_touch 55 = .ok (.bastore, 1) := by decide +kernel
theorem dX5_touch_56 : decode cX5_touch 56 = .ok (.aload_n 0, 1) := by decide +kernel
theorem dX5_touch_57 : decode cX5_touch 57 = .ok (.iload_n 2, 1) := by decide +kernel
theorem dX5_touch_58 : decode cX5_touch 58 = .ok (.ifCond .eq 10, 3) := by decide +kernel
theorem dX5_touch_61 : decode cX5_touch 61 = .ok (.aload_n 0, 1) := by decide +kernel
theorem dX5_touch_62 : decode cX5_touch 62 = .ok (.getfield 68, 3) := by decide +kernel
theorem dX5_touch_65 : decode cX5_touch 65 = .ok (.goto 9, 3) := by decide +kernel
theorem dX5_touch_68 : decode cX5_touch 68 = .ok (.aload_n 0, 1) := by decide +kernel
theorem dX5_touch_69 : decode cX5_touch 69 = .ok (.getfield 68, 3) := by decide +kernel
theorem dX5_touch_72 : decode cX5_touch 72 = .ok (.iconst 1, 1) := by decide +kernel
theorem dX5_touch_73 : decode cX5_touch 73 = .ok (.iadd, 1) := by decide +kernel
theorem dX5_touch_74 : decode cX5_touch 74 = .ok (.putfield 68, 3) := by decide +kernel
theorem dX5_touch_77 : decode cX5_touch 77 = .ok (.aload_n 0, 1) := by decide +kernel
theorem dX5_touch_78 : decode cX5_touch 78 = .ok (.getfield 34, 3) := by decide +kernel
theorem dX5_touch_81 : decode cX5_touch 81 = .ok (.iload_n 3, 1) := by decide +kernel
theorem dX5_touch_82 : decode cX5_touch 82 = .ok (.iconst 1, 1) := by decide +kernel
theorem dX5_touch_83 : decode cX5_touch 83 = .ok (.bastore, 1) := by decide +kernel
theorem dX5_touch_84 : decode cX5_touch 84 = .ok (.aload_n 0, 1) := by decide +kernel
theorem dX5_touch_85 : decode cX5_touch 85 = .ok (.getfield 41, 3) := by decide +kernel
theorem dX5_touch_88 : decode cX5_touch 88 = .ok (.iload_n 3, 1) := by decide +kernel
theorem dX5_touch_89 : decode cX5_touch 89 = .ok (.iconst 1, 1) := by decide +kernel
theorem dX5_touch_90 : decode cX5_touch 90 = .ok (.bastore, 1) := by decide +kernel
theorem dX5_touch_91 : decode cX5_touch 91 = .ok (.return_, 1) := by decide +kernel
theorem dX5_change_0 : decode cX5_change 0 = .ok (.aload_n 0, 1) := by decide +kernel
theorem dX5_change_1 : decode cX5_change 1 = .ok (.getfield 38, 3) := by decide +kernel
theorem dX5_change_4 : decode cX5_change 4 = .ok (.aload_n 0, 1) := by decide +kernel
theorem dX5_change_5 : decode cX5_change 5 = .ok (.iload_n 1, 1) := by decide +kernel
theorem dX5_change_6 : decode cX5_change 6 = .ok (.invokevirtual 57, 3) := by decide +kernel
theorem dX5_change_9 : decode cX5_change 9 = .ok (.iconst 1, 1) := by decide +kernel
theorem dX5_change_10 : decode cX5_change 10 = .ok (.bastore, 1) := by decide +kernel
theorem dX5_change_11 : decode cX5_change 11 = .ok (.return_, 1) := by decide +kernel
theorem dX5_release_0 : decode cX5_release 0 = .ok (.aload_n 0, 1) := by decide +kernel
theorem dX5_release_1 : decode cX5_release 1 = .ok (.iload_n 1, 1) := by decide +kernel
theorem dX5_release_2 : decode cX5_release 2 = .ok (.invokevirtual 57, 3) := by decide +kernel
theorem dX5_release_5 : decode cX5_release 5 = .ok (.istore_n 2, 1) := by decide +kernel
theorem dX5_release_6 : decode cX5_release 6 = .ok (.iload_n 2, 1) := by decide +kernel
theorem dX5_release_7 : decode cX5_release 7 = .ok (.ifCond .lt 31, 3) := by decide +kernel
theorem dX5_release_10 : decode cX5_release 10 = .ok (.aload_n 0, 1) := by decide +kernel
theorem dX5_release_11 : decode cX5_release 11 = .ok (.getfield 31, 3) := by decide +kernel
theorem dX5_release_14 : decode cX5_release 14 = .ok (.iload_n 2, 1) := by decide +kernel
theorem dX5_release_15 : decode cX5_release 15 = .ok (.iconst (-1), 1) := by decide +kernel
theorem dX5_release_16 : decode cX5_release 16 = .ok (.iastore, 1) := by decide +kernel
theorem dX5_release_17 : decode cX5_release 17 = .ok (.aload_n 0, 1) := by decide +kernel
theorem dX5_release_18 : decode cX5_release 18 = .ok (.getfield 34, 3) := by decide +kernel
theorem dX5_release_21 : decode cX5_release 21 = .ok (.iload_n 2, 1) := by decide +kernel
theorem dX5_release_22 : decode cX5_release 22 = .ok (.iconst 0, 1) := by decide +kernel
theorem dX5_release_23 : decode cX5_release 23 = .ok (.bastore, 1) := by decide +kernel
theorem dX5_release_24 : decode cX5_release 24 = .ok (.aload_n 0, 1) := by decide +kernel
theorem dX5_release_25 : decode cX5_release 25 = .ok (.getfield 38, 3) := by decide +kernel
theorem dX5_release_28 : decode cX5_release 28 = .ok (.iload_n 2, 1) := by decide +kernel
theorem dX5_release_29 : decode cX5_release 29 = .ok (.iconst 0, 1) := by decide +kernel
theorem dX5_release_30 : decode cX5_release 30 = .ok (.bastore, 1) := by decide +kernel
theorem dX5_release_31 : decode cX5_release 31 = .ok (.aload_n 0, 1) := by decide +kernel
theorem dX5_release_32 : decode cX5_release 32 = .ok (.getfield 41, 3) := by decide +kernel
theorem dX5_release_35 : decode cX5_release 35 = .ok (.iload_n 2, 1) := by decide +kernel
theorem dX5_release_36 : decode cX5_release 36 = .ok (.iconst 0, 1) := by decide +kernel
theorem dX5_release_37 : decode cX5_release 37 = .ok (.bastore, 1) := by decide +kernel
theorem dX5_release_38 : decode cX5_release 38 = .ok (.aload_n 0, 1) := by decide +kernel
theorem dX5_release_39 : decode cX5_release 39 = .ok (.getfield 7, 3) := by decide +kernel
theorem dX5_release_42 : decode cX5_release 42 = .ok (.iload_n 1, 1) := by decide +kernel
theorem dX5_release_43 : decode cX5_release 43 = .ok (.iconst 0, 1) := by decide +kernel
theorem dX5_release_44 : decode cX5_release 44 = .ok (.iastore, 1) := by decide +kernel
theorem dX5_release_45 : decode cX5_release 45 = .ok (.aload_n 0, 1) := by decide +kernel
theorem dX5_release_46 : decode cX5_release 46 = .ok (.getfield 13, 3) := by decide +kernel
theorem dX5_release_49 : decode cX5_release 49 = .ok (.iload_n 1, 1) := by decide +kernel
theorem dX5_release_50 : decode cX5_release 50 = .ok (.iconst 0, 1) := by decide +kernel
theorem dX5_release_51 : decode cX5_release 51 = .ok (.iastore, 1) := by decide +kernel
theorem dX5_release_52 : decode cX5_release 52 = .ok (.aload_n 0, 1) := by decide +kernel
theorem dX5_release_53 : decode cX5_release 53 = .ok (.getfield 22, 3) := by decide +kernel
theorem dX5_release_56 : decode cX5_release 56 = .ok (.iload_n 1, 1) := by decide +kernel
theorem dX5_release_57 : decode cX5_release 57 = .ok (.iconst (-1), 1) := by decide +kernel
theorem dX5_release_58 : decode cX5_release 58 = .ok (.iastore, 1) := by decide +kernel
theorem dX5_release_59 : decode cX5_release 59 = .ok (.return_, 1) := by decide +kernel
theorem dX5_find_0 : decode cX5_find 0 = .ok (.aload_n 0, 1) := by decide +kernel
theorem dX5_find_1 : decode cX5_find 1 = .ok (.getfield 71, 3) := by decide +kernel
theorem dX5_find_4 : decode cX5_find 4 = .ok (.istore_n 2, 1) := by decide +kernel
theorem dX5_find_5 : decode cX5_find 5 = .ok (.aload_n 0, 1) := by decide +kernel
theorem dX5_find_6 : decode cX5_find 6 = .ok (.iconst 0, 1) := by decide +kernel
theorem dX5_find_7 : decode cX5_find 7 = .ok (.putfield 74, 3) := by decide +kernel
theorem dX5_find_10 : decode cX5_find 10 = .ok (.aload_n 0, 1) := by decide +kernel
theorem dX5_find_11 : decode cX5_find 11 = .ok (.getfield 25, 3) := by decide +kernel
theorem dX5_find_14 : decode cX5_find 14 = .ok (.iconst 0, 1) := by decide +kernel
theorem dX5_find_15 : decode cX5_find 15 = .ok (.iload_n 2, 1) := by decide +kernel
theorem dX5_find_16 : decode cX5_find 16 = .ok (.iastore, 1) := by decide +kernel
theorem dX5_find_17 : decode cX5_find 17 = .ok (.aload_n 0, 1) := by decide +kernel
theorem dX5_find_18 : decode cX5_find 18 = .ok (.getfield 28, 3) := by decide +kernel
theorem dX5_find_21 : decode cX5_find 21 = .ok (.iconst 0, 1) := by decide +kernel
theorem dX5_find_22 : decode cX5_find 22 = .ok (.iconst 0, 1) := by decide +kernel
theorem dX5_find_23 : decode cX5_find 23 = .ok (.iastore, 1) := by decide +kernel
theorem dX5_find_24 : decode cX5_find 24 = .ok (.aload_n 0, 1) := by decide +kernel
theorem dX5_find_25 : decode cX5_find 25 = .ok (.getfield 7, 3) := by decide +kernel
theorem dX5_find_28 : decode cX5_find 28 = .ok (.iload_n 2, 1) := by decide +kernel
theorem dX5_find_29 : decode cX5_find 29 = .ok (.iaload, 1) := by decide +kernel
theorem dX5_find_30 : decode cX5_find 30 = .ok (.iconst 2, 1) := by decide +kernel
theorem dX5_find_31 : decode cX5_find 31 = .ok (.if_icmp .ne 91, 3) := by decide +kernel
theorem dX5_find_34 : decode cX5_find 34 = .ok (.iconst 0, 1) := by decide +kernel
theorem dX5_find_35 : decode cX5_find 35 = .ok (.istore_n 3, 1) := by decide +kernel
theorem dX5_find_36 : decode cX5_find 36 = .ok (.iconst 1, 1) := by decide +kernel
theorem dX5_find_37 : decode cX5_find 37 = .ok (.istore 4, 2) := by decide +kernel
theorem dX5_find_39 : decode cX5_find 39 = .ok (.iload 4, 2) := by decide +kernel
theorem dX5_find_41 : decode cX5_find 41 = .ok (.aload_n 0, 1) := by decide +kernel
theorem dX5_find_42 : decode cX5_find 42 = .ok (.getfield 13, 3) := by decide +kernel
theorem dX5_find_45 : decode cX5_find 45 = .ok (.iload_n 2, 1) := by decide +kernel
theorem dX5_find_46 : decode cX5_find 46 = .ok (.iaload, 1) := by decide +kernel
theorem dX5_find_47 : decode cX5_find 47 = .ok (.if_icmp .ge 31, 3) := by decide +kernel
theorem dX5_find_50 : decode cX5_find 50 = .ok (.aload_n 0, 1) := by decide +kernel
theorem dX5_find_51 : decode cX5_find 51 = .ok (.getfield 16, 3) := by decide +kernel
theorem dX5_find_54 : decode cX5_find 54 = .ok (.iconst 5, 1) := by decide +kernel
theorem dX5_find_55 : decode cX5_find 55 = .ok (.iload_n 2, 1) := by decide +kernel
theorem dX5_find_56 : decode cX5_find 56 = .ok (.imul, 1) := by decide +kernel
theorem dX5_find_57 : decode cX5_find 57 = .ok (.iload 4, 2) := by decide +kernel
theorem dX5_find_59 : decode cX5_find 59 = .ok (.iadd, 1) := by decide +kernel
theorem dX5_find_60 : decode cX5_find 60 = .ok (.iaload, 1) := by decide +kernel
theorem dX5_find_61 : decode cX5_find 61 = .ok (.iload_n 1, 1) := by decide +kernel
theorem dX5_find_62 : decode cX5_find 62 = .ok (.if_icmp .gt 8, 3) := by decide +kernel
theorem dX5_find_65 : decode cX5_find 65 = .ok (.iload 4, 2) := by decide +kernel
theorem dX5_find_67 : decode cX5_find 67 = .ok (.goto 4, 3) := by decide +kernel
theorem dX5_find_70 : decode cX5_find 70 = .ok (.iload_n 3, 1) := by decide +kernel
theorem dX5_find_71 : decode cX5_find 71 = .ok (.istore_n 3, 1) := by decide +kernel
theorem dX5_find_72 : decode cX5_find 72 = .ok (.iinc 4 1, 3) := by decide +kernel
theorem dX5_find_75 : decode cX5_find 75 = .ok (.goto (-36), 3) := by decide +kernel
theorem dX5_find_78 : decode cX5_find 78 = .ok (.aload_n 0, 1) := by decide +kernel
theorem dX5_find_79 : decode cX5_find 79 = .ok (.getfield 19, 3) := by decide +kernel
theorem dX5_find_82 : decode cX5_find 82 = .ok (.iconst 5, 1) := by decide +kernel
theorem dX5_find_83 : decode cX5_find 83 = .ok (.iload_n 2, 1) := by decide +kernel
theorem dX5_find_84 : decode cX5_find 84 = .ok (.imul, 1) := by decide +kernel
theorem dX5_find_85 : decode cX5_find 85 = .ok (.iload_n 3, 1) := by decide +kernel
theorem dX5_find_86 : decode cX5_find 86 = .ok (.iadd, 1) := by decide +kernel
theorem dX5_find_87 : decode cX5_find 87 = .ok (.iaload, 1) := by decide +kernel
theorem dX5_find_88 : decode cX5_find 88 = .ok (.istore_n 2, 1) := by decide +kernel
theorem dX5_find_89 : decode cX5_find 89 = .ok (.aload_n 0, 1) := by decide +kernel
theorem dX5_find_90 : decode cX5_find 90 = .ok (.dup, 1) := by decide +kernel
theorem dX5_find_91 : decode cX5_find 91 = .ok (.getfield 74, 3) := by decide +kernel
theorem dX5_find_94 : decode cX5_find 94 = .ok (.iconst 1, 1) := by decide +kernel
theorem dX5_find_95 : decode cX5_find 95 = .ok (.iadd, 1) := by decide +kernel
theorem dX5_find_96 : decode cX5_find 96 = .ok (.putfield 74, 3) := by decide +kernel
theorem dX5_find_99 : decode cX5_find 99 = .ok (.aload_n 0, 1) := by decide +kernel
theorem dX5_find_100 : decode cX5_find 100 = .ok (.getfield 25, 3) := by decide +kernel
theorem dX5_find_103 : decode cX5_find 103 = .ok (.aload_n 0, 1) := by decide +kernel
theorem dX5_find_104 : decode cX5_find 104 = .ok (.getfield 74, 3) := by decide +kernel
theorem dX5_find_107 : decode cX5_find 107 = .ok (.iload_n 2, 1) := by decide +kernel
theorem dX5_find_108 : decode cX5_find 108 = .ok (.iastore, 1) := by decide +kernel
theorem dX5_find_109 : decode cX5_find 109 = .ok (.aload_n 0, 1) := by decide +kernel
theorem dX5_find_110 : decode cX5_find 110 = .ok (.getfield 28, 3) := by decide +kernel
theorem dX5_find_113 : decode cX5_find 113 = .ok (.aload_n 0, 1) := by decide +kernel
theorem dX5_find_114 : decode cX5_find 114 = .ok (.getfield 74, 3) := by decide +kernel
theorem dX5_find_117 : decode cX5_find 117 = .ok (.iload_n 3, 1) := by decide +kernel
theorem dX5_find_118 : decode cX5_find 118 = .ok (.iastore, 1) := by decide +kernel
theorem dX5_find_119 : decode cX5_find 119 = .ok (.goto (-95), 3) := by decide +kernel
theorem dX5_find_122 : decode cX5_find 122 = .ok (.return_, 1) := by decide +kernel
theorem dX5_touchWay_0 : decode cX5_touchWay 0 = .ok (.iconst 0, 1) := by decide +kernel
theorem dX5_touchWay_1 : decode cX5_touchWay 1 = .ok (.istore_n 1, 1) := by decide +kernel
theorem dX5_touchWay_2 : decode cX5_touchWay 2 = .ok (.iload_n 1, 1) := by decide +kernel
theorem dX5_touchWay_3 : decode cX5_touchWay 3 = .ok (.aload_n 0, 1) := by decide +kernel
theorem dX5_touchWay_4 : decode cX5_touchWay 4 = .ok (.getfield 74, 3) := by decide +kernel
theorem dX5_touchWay_7 : decode cX5_touchWay 7 = .ok (.if_icmp .gt 20, 3) := by decide +kernel
theorem dX5_touchWay_10 : decode cX5_touchWay 10 = .ok (.aload_n 0, 1) := by decide +kernel
theorem dX5_touchWay_11 : decode cX5_touchWay 11 = .ok (.aload_n 0, 1) := by decide +kernel
theorem dX5_touchWay_12 : decode cX5_touchWay 12 = .ok (.getfield 25, 3) := by decide +kernel
theorem dX5_touchWay_15 : decode cX5_touchWay 15 = .ok (.iload_n 1, 1) := by decide +kernel
theorem dX5_touchWay_16 : decode cX5_touchWay 16 = .ok (.iaload, 1) := by decide +kernel
theorem dX5_touchWay_17 : decode cX5_touchWay 17 = .ok (.iconst 0, 1) := by decide +kernel
theorem dX5_touchWay_18 : decode cX5_touchWay 18 = .ok (.invokevirtual 77, 3) := by decide +kernel
theorem dX5_touchWay_21 : decode cX5_touchWay 21 = .ok (.iinc 1 1, 3) := by decide +kernel
theorem dX5_touchWay_24 : decode cX5_touchWay 24 = .ok (.goto (-22), 3) := by decide +kernel
theorem dX5_touchWay_27 : decode cX5_touchWay 27 = .ok (.return_, 1) := by decide +kernel
theorem dX5_placeOf_0 : decode cX5_placeOf 0 = .ok (.aload_n 0, 1) := by decide +kernel
theorem dX5_placeOf_1 : decode cX5_placeOf 1 = .ok (.getfield 25, 3) := by decide +kernel
theorem dX5_placeOf_4 : decode cX5_placeOf 4 = .ok (.aload_n 0, 1) := by decide +kernel
theorem dX5_placeOf_5 : decode cX5_placeOf 5 = .ok (.getfield 74, 3) := by decide +kernel
theorem dX5_placeOf_8 : decode cX5_placeOf 8 = .ok (.iaload, 1) := by decide +kernel
theorem dX5_placeOf_9 : decode cX5_placeOf 9 = .ok (.istore_n 2, 1) := by decide +kernel
theorem dX5_placeOf_10 : decode cX5_placeOf 10 = .ok (.iconst 0, 1) := by decide +kernel
theorem dX5_placeOf_11 : decode cX5_placeOf 11 = .ok (.istore_n 3, 1) := by decide +kernel
theorem dX5_placeOf_12 : decode cX5_placeOf 12 = .ok (.iload_n 3, 1) := by decide +kernel
theorem dX5_placeOf_13 : decode cX5_placeOf 13 = .ok (.aload_n 0, 1) := by decide +kernel
theorem dX5_placeOf_14 : decode cX5_placeOf 14 = .ok (.getfield 13, 3) := by decide +kernel
theorem dX5_placeOf_17 : decode cX5_placeOf 17 = .ok (.iload_n 2, 1) := by decide +kernel
theorem dX5_placeOf_18 : decode cX5_placeOf 18 = .ok (.iaload, 1) := by decide +kernel
theorem dX5_placeOf_19 : decode cX5_placeOf 19 = .ok (.if_icmp .ge 23, 3) := by decide +kernel
theorem dX5_placeOf_22 : decode cX5_placeOf 22 = .ok (.aload_n 0, 1) := by decide +kernel
theorem dX5_placeOf_23 : decode cX5_placeOf 23 = .ok (.getfield 16, 3) := by decide +kernel
theorem dX5_placeOf_26 : decode cX5_placeOf 26 = .ok (.iconst 5, 1) := by decide +kernel
theorem dX5_placeOf_27 : decode cX5_placeOf 27 = .ok (.iload_n 2, 1) := by decide +kernel
theorem dX5_placeOf_28 : decode cX5_placeOf 28 = .ok (.imul, 1) := by decide +kernel
theorem dX5_placeOf_29 : decode cX5_placeOf 29 = .ok (.iload_n 3, 1) := by decide +kernel
theorem dX5_placeOf_30 : decode cX5_placeOf 30 = .ok (.iadd, 1) := by decide +kernel
theorem dX5_placeOf_31 : decode cX5_placeOf 31 = .ok (.iaload, 1) := by decide +kernel
theorem dX5_placeOf_32 : decode cX5_placeOf 32 = .ok (.iload_n 1, 1) := by decide +kernel
theorem dX5_placeOf_33 : decode cX5_placeOf 33 = .ok (.if_icmp .ge 9, 3) := by decide +kernel
theorem dX5_placeOf_36 : decode cX5_placeOf 36 = .ok (.iinc 3 1, 3) := by decide +kernel
theorem dX5_placeOf_39 : decode cX5_placeOf 39 = .ok (.goto (-27), 3) := by decide +kernel
theorem dX5_placeOf_42 : decode cX5_placeOf 42 = .ok (.iload_n 3, 1) := by decide +kernel
theorem dX5_placeOf_43 : decode cX5_placeOf 43 = .ok (.ireturn, 1) := by decide +kernel
theorem dX5_isAt_0 : decode cX5_isAt 0 = .ok (.aload_n 0, 1) := by decide +kernel
theorem dX5_isAt_1 : decode cX5_isAt 1 = .ok (.getfield 25, 3) := by decide +kernel
theorem dX5_isAt_4 : decode cX5_isAt 4 = .ok (.aload_n 0, 1) := by decide +kernel
theorem dX5_isAt_5 : decode cX5_isAt 5 = .ok (.getfield 74, 3) := by decide +kernel
theorem dX5_isAt_8 : decode cX5_isAt 8 = .ok (.iaload, 1) := by decide +kernel
theorem dX5_isAt_9 : decode cX5_isAt 9 = .ok (.istore_n 3, 1) := by decide +kernel
theorem dX5_isAt_10 : decode cX5_isAt 10 = .ok (.iload_n 1, 1) := by decide +kernel
theorem dX5_isAt_11 : decode cX5_isAt 11 = .ok (.aload_n 0, 1) := by decide +kernel
theorem dX5_isAt_12 : decode cX5_isAt 12 = .ok (.getfield 13, 3) := by decide +kernel
theorem dX5_isAt_15 : decode cX5_isAt 15 = .ok (.iload_n 3, 1) := by decide +kernel
theorem dX5_isAt_16 : decode cX5_isAt 16 = .ok (.iaload, 1) := by decide +kernel
theorem dX5_isAt_17 : decode cX5_isAt 17 = .ok (.if_icmp .ge 21, 3) := by decide +kernel
theorem dX5_isAt_20 : decode cX5_isAt 20 = .ok (.aload_n 0, 1) := by decide +kernel
theorem dX5_isAt_21 : decode cX5_isAt 21 = .ok (.getfield 16, 3) := by decide +kernel
theorem dX5_isAt_24 : decode cX5_isAt 24 = .ok (.iconst 5, 1) := by decide +kernel
theorem dX5_isAt_25 : decode cX5_isAt 25 = .ok (.iload_n 3, 1) := by decide +kernel
theorem dX5_isAt_26 : decode cX5_isAt 26 = .ok (.imul, 1) := by decide +kernel
theorem dX5_isAt_27 : decode cX5_isAt 27 = .ok (.iload_n 1, 1) := by decide +kernel
theorem dX5_isAt_28 : decode cX5_isAt 28 = .ok (.iadd, 1) := by decide +kernel
theorem dX5_isAt_29 : decode cX5_isAt 29 = .ok (.iaload, 1) := by decide +kernel
theorem dX5_isAt_30 : decode cX5_isAt 30 = .ok (.iload_n 2, 1) := by decide +kernel
theorem dX5_isAt_31 : decode cX5_isAt 31 = .ok (.if_icmp .ne 7, 3) := by decide +kernel
theorem dX5_isAt_34 : decode cX5_isAt 34 = .ok (.iconst 1, 1) := by decide +kernel
theorem dX5_isAt_35 : decode cX5_isAt 35 = .ok (.goto 4, 3) := by decide +kernel
theorem dX5_isAt_38 : decode cX5_isAt 38 = .ok (.iconst 0, 1) := by decide +kernel
theorem dX5_isAt_39 : decode cX5_isAt 39 = .ok (.ireturn, 1) := by decide +kernel
theorem dX5_leastFree_0 : decode cX5_leastFree 0 = .ok (.iconst 0, 1) := by decide +kernel
theorem dX5_leastFree_1 : decode cX5_leastFree 1 = .ok (.istore_n 1, 1) := by decide +kernel
theorem dX5_leastFree_2 : decode cX5_leastFree 2 = .ok (.iload_n 1, 1) := by decide +kernel
theorem dX5_leastFree_3 : decode cX5_leastFree 3 = .ok (.bipush 40, 2) := by decide +kernel
theorem dX5_leastFree_5 : decode cX5_leastFree 5 = .ok (.if_icmp .ge 18, 3) := by decide +kernel
theorem dX5_leastFree_8 : decode cX5_leastFree 8 = .ok (.aload_n 0, 1) := by decide +kernel
theorem dX5_leastFree_9 : decode cX5_leastFree 9 = .ok (.getfield 7, 3) := by decide +kernel
theorem dX5_leastFree_12 : decode cX5_leastFree 12 = .ok (.iload_n 1, 1) := by decide +kernel
theorem dX5_leastFree_13 : decode cX5_leastFree 13 = .ok (.iaload, 1) := by decide +kernel
theorem dX5_leastFree_14 : decode cX5_leastFree 14 = .ok (.ifCond .eq 9, 3) := by decide +kernel
theorem dX5_leastFree_17 : decode cX5_leastFree 17 = .ok (.iinc 1 1, 3) := by decide +kernel
theorem dX5_leastFree_20 : decode cX5_leastFree 20 = .ok (.goto (-18), 3) := by decide +kernel
theorem dX5_leastFree_23 : decode cX5_leastFree 23 = .ok (.iload_n 1, 1) := by decide +kernel
theorem dX5_leastFree_24 : decode cX5_leastFree 24 = .ok (.ireturn, 1) := by decide +kernel
theorem dX5_pagesInUse_0 : decode cX5_pagesInUse 0 = .ok (.iconst 0, 1) := by decide +kernel
theorem dX5_pagesInUse_1 : decode cX5_pagesInUse 1 = .ok (.istore_n 1, 1) := by decide +kernel
theorem dX5_pagesInUse_2 : decode cX5_pagesInUse 2 = .ok (.iconst 0, 1) := by decide +kernel
theorem dX5_pagesInUse_3 : decode cX5_pagesInUse 3 = .ok (.istore_n 2, 1) := by decide +kernel
theorem dX5_pagesInUse_4 : decode cX5_pagesInUse 4 = .ok (.iload_n 2, 1) := by decide +kernel
theorem dX5_pagesInUse_5 : decode cX5_pagesInUse 5 = .ok (.bipush 40, 2) := by decide +kernel
theorem dX5_pagesInUse_7 : decode cX5_pagesInUse 7 = .ok (.if_icmp .ge 26, 3) := by decide +kernel
theorem dX5_pagesInUse_10 : decode cX5_pagesInUse 10 = .ok (.aload_n 0, 1) := by decide +kernel
theorem dX5_pagesInUse_11 : decode cX5_pagesInUse 11 = .ok (.getfield 7, 3) := by decide +kernel
theorem dX5_pagesInUse_14 : decode cX5_pagesInUse 14 = .ok (.iload_n 2, 1) := by decide +kernel
theorem dX5_pagesInUse_15 : decode cX5_pagesInUse 15 = .ok (.iaload, 1) := by decide +kernel
theorem dX5_pagesInUse_16 : decode cX5_pagesInUse 16 = .ok (.ifCond .eq 9, 3) := by decide +kernel
theorem dX5_pagesInUse_19 : decode cX5_pagesInUse 19 = .ok (.iload_n 1, 1) := by decide +kernel
theorem dX5_pagesInUse_20 : decode cX5_pagesInUse 20 = .ok (.iconst 1, 1) := by decide +kernel
theorem dX5_pagesInUse_21 : decode cX5_pagesInUse 21 = .ok (.iadd, 1) := by decide +kernel
theorem dX5_pagesInUse_22 : decode cX5_pagesInUse 22 = .ok (.goto 4, 3) := by decide +kernel
theorem dX5_pagesInUse_25 : decode cX5_pagesInUse 25 = .ok (.iload_n 1, 1) := by decide +kernel
theorem dX5_pagesInUse_26 : decode cX5_pagesInUse 26 = .ok (.istore_n 1, 1) := by decide +kernel
theorem dX5_pagesInUse_27 : decode cX5_pagesInUse 27 = .ok (.iinc 2 1, 3) := by decide +kernel
theorem dX5_pagesInUse_30 : decode cX5_pagesInUse 30 = .ok (.goto (-26), 3) := by decide +kernel
theorem dX5_pagesInUse_33 : decode cX5_pagesInUse 33 = .ok (.iload_n 1, 1) := by decide +kernel
theorem dX5_pagesInUse_34 : decode cX5_pagesInUse 34 = .ok (.ireturn, 1) := by decide +kernel
theorem dX5_insert_0 : decode cX5_insert 0 = .ok (.aload_n 0, 1) := by decide +kernel
theorem dX5_insert_1 : decode cX5_insert 1 = .ok (.getfield 13, 3) := by decide +kernel
theorem dX5_insert_4 : decode cX5_insert 4 = .ok (.iload_n 1, 1) := by decide +kernel
theorem dX5_insert_5 : decode cX5_insert 5 = .ok (.iaload, 1) := by decide +kernel
theorem dX5_insert_6 : decode cX5_insert 6 = .ok (.istore 5, 2) := by decide +kernel
theorem dX5_insert_8 : decode cX5_insert 8 = .ok (.iload 5, 2) := by decide +kernel
theorem dX5_insert_10 : decode cX5_insert 10 = .ok (.iload_n 2, 1) := by decide +kernel
theorem dX5_insert_11 : decode cX5_insert 11 = .ok (.if_icmp .le 57, 3) := by decide +kernel
theorem dX5_insert_14 : decode cX5_insert 14 = .ok (.aload_n 0, 1) := by decide +kernel
theorem dX5_insert_15 : decode cX5_insert 15 = .ok (.getfield 16, 3) := by decide +kernel
theorem dX5_insert_18 : decode cX5_insert 18 = .ok (.iconst 5, 1) := by decide +kernel
theorem dX5_insert_19 : decode cX5_insert 19 = .ok (.iload_n 1, 1) := by decide +kernel
theorem dX5_insert_20 : decode cX5_insert 20 = .ok (.imul, 1) := by decide +kernel
theorem dX5_insert_21 : decode cX5_insert 21 = .ok (.iload 5, 2) := by decide +kernel
theorem dX5_insert_23 : decode cX5_insert 23 = .ok (.iadd, 1) := by decide +kernel
theorem dX5_insert_24 : decode cX5_insert 24 = .ok (.aload_n 0, 1) := by decide +kernel
theorem dX5_insert_25 : decode cX5_insert 25 = .ok (.getfield 16, 3) := by decide +kernel
theorem dX5_insert_28 : decode cX5_insert 28 = .ok (.iconst 5, 1) := by decide +kernel
theorem dX5_insert_29 : decode cX5_insert 29 = .ok (.iload_n 1, 1) := by decide +kernel
theorem dX5_insert_30 : decode cX5_insert 30 = .ok (.imul, 1) := by decide +kernel
theorem dX5_insert_31 : decode cX5_insert 31 = .ok (.iload 5, 2) := by decide +kernel
theorem dX5_insert_33 : decode cX5_insert 33 = .ok (.iadd, 1) := by decide +kernel
theorem dX5_insert_34 : decode cX5_insert 34 = .ok (.iconst 1, 1) := by decide +kernel
theorem dX5_insert_35 : decode cX5_insert 35 = .ok (.isub, 1) := by decide +kernel
theorem dX5_insert_36 : decode cX5_insert 36 = .ok (.iaload, 1) := by decide +kernel
theorem dX5_insert_37 : decode cX5_insert 37 = .ok (.iastore, 1) := by decide +kernel
theorem dX5_insert_38 : decode cX5_insert 38 = .ok (.aload_n 0, 1) := by decide +kernel
theorem dX5_insert_39 : decode cX5_insert 39 = .ok (.getfield 19, 3) := by decide +kernel
theorem dX5_insert_42 : decode cX5_insert 42 = .ok (.iconst 5, 1) := by decide +kernel
theorem dX5_insert_43 : decode cX5_insert 43 = .ok (.iload_n 1, 1) := by decide +kernel
theorem dX5_insert_44 : decode cX5_insert 44 = .ok (.imul, 1) := by decide +kernel
theorem dX5_insert_45 : decode cX5_insert 45 = .ok (.iload 5, 2) := by decide +kernel
theorem dX5_insert_47 : decode cX5_insert 47 = .ok (.iadd, 1) := by decide +kernel
theorem dX5_insert_48 : decode cX5_insert 48 = .ok (.aload_n 0, 1) := by decide +kernel
theorem dX5_insert_49 : decode cX5_insert 49 = .ok (.getfield 19, 3) := by decide +kernel
theorem dX5_insert_52 : decode cX5_insert 52 = .ok (.iconst 5, 1) := by decide +kernel
theorem dX5_insert_53 : decode cX5_insert 53 = .ok (.iload_n 1, 1) := by decide +kernel
theorem dX5_insert_54 : decode cX5_insert 54 = .ok (.imul, 1) := by decide +kernel
theorem dX5_insert_55 : decode cX5_insert 55 = .ok (.iload 5, 2) := by decide +kernel
theorem dX5_insert_57 : decode cX5_insert 57 = .ok (.iadd, 1) := by decide +kernel
theorem dX5_insert_58 : decode cX5_insert 58 = .ok (.iconst 1, 1) := by decide +kernel
theorem dX5_insert_59 : decode cX5_insert 59 = .ok (.isub, 1) := by decide +kernel
theorem dX5_insert_60 : decode cX5_insert 60 = .ok (.iaload, 1) := by decide +kernel
theorem dX5_insert_61 : decode cX5_insert 61 = .ok (.iastore, 1) := by decide +kernel
theorem dX5_insert_62 : decode cX5_insert 62 = .ok (.iinc 5 (-1), 3) := by decide +kernel
theorem dX5_insert_65 : decode cX5_insert 65 = .ok (.goto (-57), 3) := by decide +kernel
theorem dX5_insert_68 : decode cX5_insert 68 = .ok (.aload_n 0, 1) := by decide +kernel
theorem dX5_insert_69 : decode cX5_insert 69 = .ok (.getfield 16, 3) := by decide +kernel
theorem dX5_insert_72 : decode cX5_insert 72 = .ok (.iconst 5, 1) := by decide +kernel
theorem dX5_insert_73 : decode cX5_insert 73 = .ok (.iload_n 1, 1) := by decide +kernel
theorem dX5_insert_74 : decode cX5_insert 74 = .ok (.imul, 1) := by decide +kernel
theorem dX5_insert_75 : decode cX5_insert 75 = .ok (.iload_n 2, 1) := by decide +kernel
theorem dX5_insert_76 : decode cX5_insert 76 = .ok (.iadd, 1) := by decide +kernel
theorem dX5_insert_77 : decode cX5_insert 77 = .ok (.iload_n 3, 1) := by decide +kernel
theorem dX5_insert_78 : decode cX5_insert 78 = .ok (.iastore, 1) := by decide +kernel
theorem dX5_insert_79 : decode cX5_insert 79 = .ok (.aload_n 0, 1) := by decide +kernel
theorem dX5_insert_80 : decode cX5_insert 80 = .ok (.getfield 19, 3) := by decide +kernel
theorem dX5_insert_83 : decode cX5_insert 83 = .ok (.iconst 5, 1) := by decide +kernel
theorem dX5_insert_84 : decode cX5_insert 84 = .ok (.iload_n 1, 1) := by decide +kernel
theorem dX5_insert_85 : decode cX5_insert 85 = .ok (.imul, 1) := by decide +kernel
theorem dX5_insert_86 : decode cX5_insert 86 = .ok (.iload_n 2, 1) := by decide +kernel
theorem dX5_insert_87 : decode cX5_insert 87 = .ok (.iadd, 1) := by decide +kernel
theorem dX5_insert_88 : decode cX5_insert 88 = .ok (.iload 4, 2) := by decide +kernel
theorem dX5_insert_90 : decode cX5_insert 90 = .ok (.iastore, 1) := by decide +kernel
theorem dX5_insert_91 : decode cX5_insert 91 = .ok (.aload_n 0, 1) := by decide +kernel
theorem dX5_insert_92 : decode cX5_insert 92 = .ok (.getfield 13, 3) := by decide +kernel
theorem dX5_insert_95 : decode cX5_insert 95 = .ok (.iload_n 1, 1) := by decide +kernel
theorem dX5_insert_96 : decode cX5_insert 96 = .ok (.dup2, 1) := by decide +kernel
theorem dX5_insert_97 : decode cX5_insert 97 = .ok (.iaload, 1) := by decide +kernel
theorem dX5_insert_98 : decode cX5_insert 98 = .ok (.iconst 1, 1) := by decide +kernel
theorem dX5_insert_99 : decode cX5_insert 99 = .ok (.iadd, 1) := by decide +kernel
theorem dX5_insert_100 : decode cX5_insert 100 = .ok (.iastore, 1) := by decide +kernel
theorem dX5_insert_101 : decode cX5_insert 101 = .ok (.return_, 1) := by decide +kernel
theorem dX5_removeAt_0 : decode cX5_removeAt 0 = .ok (.aload_n 0, 1) := by decide +kernel
theorem dX5_removeAt_1 : decode cX5_removeAt 1 = .ok (.getfield 13, 3) := by decide +kernel
theorem dX5_removeAt_4 : decode cX5_removeAt 4 = .ok (.iload_n 1, 1) := by decide +kernel
theorem dX5_removeAt_5 : decode cX5_removeAt 5 = .ok (.dup2, 1) := by decide +kernel
theorem dX5_removeAt_6 : decode cX5_removeAt 6 = .ok (.iaload, 1) := by decide +kernel
theorem dX5_removeAt_7 : decode cX5_removeAt 7 = .ok (.iconst 1, 1) := by decide +kernel
theorem dX5_removeAt_8 : decode cX5_removeAt 8 = .ok (.isub, 1) := by decide +kernel
theorem dX5_removeAt_9 : decode cX5_removeAt 9 = .ok (.iastore, 1) := by decide +kernel
theorem dX5_removeAt_10 : decode cX5_removeAt 10 = .ok (.iload_n 2, 1) := by decide +kernel
theorem dX5_removeAt_11 : decode cX5_removeAt 11 = .ok (.istore_n 3, 1) := by decide +kernel
theorem dX5_removeAt_12 : decode cX5_removeAt 12 = .ok (.iload_n 3, 1) := by decide +kernel
theorem dX5_removeAt_13 : decode cX5_removeAt 13 = .ok (.aload_n 0, 1) := by decide +kernel
theorem dX5_removeAt_14 : decode cX5_removeAt 14 = .ok (.getfield 13, 3) := by decide +kernel
theorem dX5_removeAt_17 : decode cX5_removeAt 17 = .ok (.iload_n 1, 1) := by decide +kernel
theorem dX5_removeAt_18 : decode cX5_removeAt 18 = .ok (.iaload, 1) := by decide +kernel
theorem dX5_removeAt_19 : decode cX5_removeAt 19 = .ok (.if_icmp .ge 53, 3) := by decide +kernel
theorem dX5_removeAt_22 : decode cX5_removeAt 22 = .ok (.aload_n 0, 1) := by decide +kernel
theorem dX5_removeAt_23 : decode cX5_removeAt 23 = .ok (.getfield 16, 3) := by decide +kernel
theorem dX5_removeAt_26 : decode cX5_removeAt 26 = .ok (.iconst 5, 1) := by decide +kernel
theorem dX5_removeAt_27 : decode cX5_removeAt 27 = .ok (.iload_n 1, 1) := by decide +kernel
theorem dX5_removeAt_28 : decode cX5_removeAt 28 = .ok (.imul, 1) := by decide +kernel
theorem dX5_removeAt_29 : decode cX5_removeAt 29 = .ok (.iload_n 3, 1) := by decide +kernel
theorem dX5_removeAt_30 : decode cX5_removeAt 30 = .ok (.iadd, 1) := by decide +kernel
theorem dX5_removeAt_31 : decode cX5_removeAt 31 = .ok (.aload_n 0, 1) := by decide +kernel
theorem dX5_removeAt_32 : decode cX5_removeAt 32 = .ok (.getfield 16, 3) := by decide +kernel
theorem dX5_removeAt_35 : decode cX5_removeAt 35 = .ok (.iconst 5, 1) := by decide +kernel
theorem dX5_removeAt_36 : decode cX5_removeAt 36 = .ok (.iload_n 1, 1) := by decide +kernel
theorem dX5_removeAt_37 : decode cX5_removeAt 37 = .ok (.imul, 1) := by decide +kernel
theorem dX5_removeAt_38 : decode cX5_removeAt 38 = .ok (.iload_n 3, 1) := by decide +kernel
theorem dX5_removeAt_39 : decode cX5_removeAt 39 = .ok (.iadd, 1) := by decide +kernel
theorem dX5_removeAt_40 : decode cX5_removeAt 40 = .ok (.iconst 1, 1) := by decide +kernel
theorem dX5_removeAt_41 : decode cX5_removeAt 41 = .ok (.iadd, 1) := by decide +kernel
theorem dX5_removeAt_42 : decode cX5_removeAt 42 = .ok (.iaload, 1) := by decide +kernel
theorem dX5_removeAt_43 : decode cX5_removeAt 43 = .ok (.iastore, 1) := by decide +kernel
theorem dX5_removeAt_44 : decode cX5_removeAt 44 = .ok (.aload_n 0, 1) := by decide +kernel
theorem dX5_removeAt_45 : decode cX5_removeAt 45 = .ok (.getfield 19, 3) := by decide +kernel
theorem dX5_removeAt_48 : decode cX5_removeAt 48 = .ok (.iconst 5, 1) := by decide +kernel
theorem dX5_removeAt_49 : decode cX5_removeAt 49 = .ok (.iload_n 1, 1) := by decide +kernel
theorem dX5_removeAt_50 : decode cX5_removeAt 50 = .ok (.imul, 1) := by decide +kernel
theorem dX5_removeAt_51 : decode cX5_removeAt 51 = .ok (.iload_n 3, 1) := by decide +kernel
theorem dX5_removeAt_52 : decode cX5_removeAt 52 = .ok (.iadd, 1) := by decide +kernel
theorem dX5_removeAt_53 : decode cX5_removeAt 53 = .ok (.aload_n 0, 1) := by decide +kernel
theorem dX5_removeAt_54 : decode cX5_removeAt 54 = .ok (.getfield 19, 3) := by decide +kernel
theorem dX5_removeAt_57 : decode cX5_removeAt 57 = .ok (.iconst 5, 1) := by decide +kernel
theorem dX5_removeAt_58 : decode cX5_removeAt 58 = .ok (.iload_n 1, 1) := by decide +kernel
theorem dX5_removeAt_59 : decode cX5_removeAt 59 = .ok (.imul, 1) := by decide +kernel
theorem dX5_removeAt_60 : decode cX5_removeAt 60 = .ok (.iload_n 3, 1) := by decide +kernel
theorem dX5_removeAt_61 : decode cX5_removeAt 61 = .ok (.iadd, 1) := by decide +kernel
theorem dX5_removeAt_62 : decode cX5_removeAt 62 = .ok (.iconst 1, 1) := by decide +kernel
theorem dX5_removeAt_63 : decode cX5_removeAt 63 = .ok (.iadd, 1) := by decide +kernel
theorem dX5_removeAt_64 : decode cX5_removeAt 64 = .ok (.iaload, 1) := by decide +kernel
theorem dX5_removeAt_65 : decode cX5_removeAt 65 = .ok (.iastore, 1) := by decide +kernel
theorem dX5_removeAt_66 : decode cX5_removeAt 66 = .ok (.iinc 3 1, 3) := by decide +kernel
theorem dX5_removeAt_69 : decode cX5_removeAt 69 = .ok (.goto (-57), 3) := by decide +kernel
theorem dX5_removeAt_72 : decode cX5_removeAt 72 = .ok (.return_, 1) := by decide +kernel
theorem dX5_wanted_0 : decode cX5_wanted 0 = .ok (.iconst 0, 1) := by decide +kernel
theorem dX5_wanted_1 : decode cX5_wanted 1 = .ok (.istore_n 1, 1) := by decide +kernel
theorem dX5_wanted_2 : decode cX5_wanted 2 = .ok (.aload_n 0, 1) := by decide +kernel
theorem dX5_wanted_3 : decode cX5_wanted 3 = .ok (.getfield 74, 3) := by decide +kernel
theorem dX5_wanted_6 : decode cX5_wanted 6 = .ok (.istore_n 2, 1) := by decide +kernel
theorem dX5_wanted_7 : decode cX5_wanted 7 = .ok (.iload_n 2, 1) := by decide +kernel
theorem dX5_wanted_8 : decode cX5_wanted 8 = .ok (.ifCond .lt 27, 3) := by decide +kernel
theorem dX5_wanted_11 : decode cX5_wanted 11 = .ok (.aload_n 0, 1) := by decide +kernel
theorem dX5_wanted_12 : decode cX5_wanted 12 = .ok (.getfield 13, 3) := by decide +kernel
theorem dX5_wanted_15 : decode cX5_wanted 15 = .ok (.aload_n 0, 1) := by decide +kernel
theorem dX5_wanted_16 : decode cX5_wanted 16 = .ok (.getfield 25, 3) := by decide +kernel
theorem dX5_wanted_19 : decode cX5_wanted 19 = .ok (.iload_n 2, 1) := by decide +kernel
theorem dX5_wanted_20 : decode cX5_wanted 20 = .ok (.iaload, 1) := by decide +kernel
theorem dX5_wanted_21 : decode cX5_wanted 21 = .ok (.iaload, 1) := by decide +kernel
theorem dX5_wanted_22 : decode cX5_wanted 22 = .ok (.iconst 4, 1) := by decide +kernel
theorem dX5_wanted_23 : decode cX5_wanted 23 = .ok (.if_icmp .ne 12, 3) := by decide +kernel
theorem dX5_wanted_26 : decode cX5_wanted 26 = .ok (.iinc 1 1, 3) := by decide +kernel
theorem dX5_wanted_29 : decode cX5_wanted 29 = .ok (.iinc 2 (-1), 3) := by decide +kernel
theorem dX5_wanted_32 : decode cX5_wanted 32 = .ok (.goto (-25), 3) := by decide +kernel
theorem dX5_wanted_35 : decode cX5_wanted 35 = .ok (.iload_n 2, 1) := by decide +kernel
theorem dX5_wanted_36 : decode cX5_wanted 36 = .ok (.ifCond .ge 9, 3) := by decide +kernel
theorem dX5_wanted_39 : decode cX5_wanted 39 = .ok (.iload_n 1, 1) := by decide +kernel
theorem dX5_wanted_40 : decode cX5_wanted 40 = .ok (.iconst 1, 1) := by decide +kernel
theorem dX5_wanted_41 : decode cX5_wanted 41 = .ok (.iadd, 1) := by decide +kernel
theorem dX5_wanted_42 : decode cX5_wanted 42 = .ok (.goto 4, 3) := by decide +kernel
theorem dX5_wanted_45 : decode cX5_wanted 45 = .ok (.iload_n 1, 1) := by decide +kernel
theorem dX5_wanted_46 : decode cX5_wanted 46 = .ok (.ireturn, 1) := by decide +kernel
theorem dX5_split_0 : decode cX5_split 0 = .ok (.aload_n 0, 1) := by decide +kernel
theorem dX5_split_1 : decode cX5_split 1 = .ok (.getfield 25, 3) := by decide +kernel
theorem dX5_split_4 : decode cX5_split 4 = .ok (.iload_n 1, 1) := by decide +kernel
theorem dX5_split_5 : decode cX5_split 5 = .ok (.iaload, 1) := by decide +kernel
theorem dX5_split_6 : decode cX5_split 6 = .ok (.istore_n 2, 1) := by decide +kernel
theorem dX5_split_7 : decode cX5_split 7 = .ok (.aload_n 0, 1) := by decide +kernel
theorem dX5_split_8 : decode cX5_split 8 = .ok (.invokevirtual 81, 3) := by decide +kernel
theorem dX5_split_11 : decode cX5_split 11 = .ok (.istore_n 3, 1) := by decide +kernel
theorem dX5_split_12 : decode cX5_split 12 = .ok (.aload_n 0, 1) := by decide +kernel
theorem dX5_split_13 : decode cX5_split 13 = .ok (.iload_n 3, 1) := by decide +kernel
theorem dX5_split_14 : decode cX5_split 14 = .ok (.iconst 1, 1) := by decide +kernel
theorem dX5_split_15 : decode cX5_split 15 = .ok (.invokevirtual 77, 3) := by decide +kernel
theorem dX5_split_18 : decode cX5_split 18 = .ok (.aload_n 0, 1) := by decide +kernel
theorem dX5_split_19 : decode cX5_split 19 = .ok (.getfield 7, 3) := by decide +kernel
theorem dX5_split_22 : decode cX5_split 22 = .ok (.iload_n 3, 1) := by decide +kernel
theorem dX5_split_23 : decode cX5_split 23 = .ok (.aload_n 0, 1) := by decide +kernel
theorem dX5_split_24 : decode cX5_split 24 = .ok (.getfield 7, 3) := by decide +kernel
theorem dX5_split_27 : decode cX5_split 27 = .ok (.iload_n 2, 1) := by decide +kernel
theorem dX5_split_28 : decode cX5_split 28 = .ok (.iaload, 1) := by decide +kernel
theorem dX5_split_29 : decode cX5_split 29 = .ok (.iastore, 1) := by decide +kernel
theorem dX5_split_30 : decode cX5_split 30 = .ok (.aload_n 0, 1) := by decide +kernel
theorem dX5_split_31 : decode cX5_split 31 = .ok (.getfield 22, 3) := by decide +kernel
theorem dX5_split_34 : decode cX5_split 34 = .ok (.iload_n 3, 1) := by decide +kernel
theorem dX5_split_35 : decode cX5_split 35 = .ok (.aload_n 0, 1) := by decide +kernel
theorem dX5_split_36 : decode cX5_split 36 = .ok (.getfield 22, 3) := by decide +kernel
theorem dX5_split_39 : decode cX5_split 39 = .ok (.iload_n 2, 1) := by decide +kernel
theorem dX5_split_40 : decode cX5_split 40 = .ok (.iaload, 1) := by decide +kernel
theorem dX5_split_41 : decode cX5_split 41 = .ok (.iastore, 1) := by decide +kernel
theorem dX5_split_42 : decode cX5_split 42 = .ok (.aload_n 0, 1) := by decide +kernel
theorem dX5_split_43 : decode cX5_split 43 = .ok (.getfield 22, 3) := by decide +kernel
theorem dX5_split_46 : decode cX5_split 46 = .ok (.iload_n 2, 1) := by decide +kernel
theorem dX5_split_47 : decode cX5_split 47 = .ok (.aload_n 0, 1) := by decide +kernel
theorem dX5_split_48 : decode cX5_split 48 = .ok (.getfield 7, 3) := by decide +kernel
theorem dX5_split_51 : decode cX5_split 51 = .ok (.iload_n 2, 1) := by decide +kernel
theorem dX5_split_52 : decode cX5_split 52 = .ok (.iaload, 1) := by decide +kernel
theorem dX5_split_53 : decode cX5_split 53 = .ok (.iconst 1, 1) := by decide +kernel
theorem dX5_split_54 : decode cX5_split 54 = .ok (.if_icmp .ne 7, 3) := by decide +kernel
theorem dX5_split_57 : decode cX5_split 57 = .ok (.iload_n 3, 1) := by decide +kernel
theorem dX5_split_58 : decode cX5_split 58 = .ok (.goto 4, 3) := by decide +kernel
theorem dX5_split_61 : decode cX5_split 61 = .ok (.iconst (-1), 1) := by decide +kernel
theorem dX5_split_62 : decode cX5_split 62 = .ok (.iastore, 1) := by decide +kernel
theorem dX5_split_63 : decode cX5_split 63 = .ok (.aload_n 0, 1) := by decide +kernel
theorem dX5_split_64 : decode cX5_split 64 = .ok (.getfield 13, 3) := by decide +kernel
theorem dX5_split_67 : decode cX5_split 67 = .ok (.iload_n 3, 1) := by decide +kernel
theorem dX5_split_68 : decode cX5_split 68 = .ok (.iconst 0, 1) := by decide +kernel
theorem dX5_split_69 : decode cX5_split 69 = .ok (.iastore, 1) := by decide +kernel
theorem dX5_split_70 : decode cX5_split 70 = .ok (.iconst 2, 1) := by decide +kernel
theorem dX5_split_71 : decode cX5_split 71 = .ok (.istore 4, 2) := by decide +kernel
theorem dX5_split_73 : decode cX5_split 73 = .ok (.iload 4, 2) := by decide +kernel
theorem dX5_split_75 : decode cX5_split 75 = .ok (.iconst 5, 1) := by decide +kernel
theorem dX5_split_76 : decode cX5_split 76 = .ok (.if_icmp .ge 40, 3) := by decide +kernel
theorem dX5_split_79 : decode cX5_split 79 = .ok (.aload_n 0, 1) := by decide +kernel
theorem dX5_split_80 : decode cX5_split 80 = .ok (.iload_n 3, 1) := by decide +kernel
theorem dX5_split_81 : decode cX5_split 81 = .ok (.iload 4, 2) := by decide +kernel
theorem dX5_split_83 : decode cX5_split 83 = .ok (.iconst 2, 1) := by decide +kernel
theorem dX5_split_84 : decode cX5_split 84 = .ok (.isub, 1) := by decide +kernel
theorem dX5_split_85 : decode cX5_split 85 = .ok (.aload_n 0, 1) := by decide +kernel
theorem dX5_split_86 : decode cX5_split 86 = .ok (.getfield 16, 3) := by decide +kernel
theorem dX5_split_89 : decode cX5_split 89 = .ok (.iconst 5, 1) := by decide +kernel
theorem dX5_split_90 : decode cX5_split 90 = .ok (.iload_n 2, 1) := by decide +kernel
theorem dX5_split_91 : decode cX5_split 91 = .ok (.imul, 1) := by decide +kernel
theorem dX5_split_92 : decode cX5_split 92 = .ok (.iload 4, 2) := by decide +kernel
theorem dX5_split_94 : decode cX5_split 94 = .ok (.iadd, 1) := by decide +kernel
theorem dX5_split_95 : decode cX5_split 95 = .ok (.iaload, 1) := by decide +kernel
theorem dX5_split_96 : decode cX5_split 96 = .ok (.aload_n 0, 1) := by decide +kernel
theorem dX5_split_97 : decode cX5_split 97 = .ok (.getfield 19, 3) := by decide +kernel
theorem dX5_split_100 : decode cX5_split 100 = .ok (.iconst 5, 1) := by decide +kernel
theorem dX5_split_101 : decode cX5_split 101 = .ok (.iload_n 2, 1) := by decide +kernel
theorem dX5_split_102 : decode cX5_split 102 = .ok (.imul, 1) := by decide +kernel
theorem dX5_split_103 : decode cX5_split 103 = .ok (.iload 4, 2) := by decide +kernel
theorem dX5_split_105 : decode cX5_split 105 = .ok (.iadd, 1) := by decide +kernel
theorem dX5_split_106 : decode cX5_split 106 = .ok (.iaload, 1) := by decide +kernel
theorem dX5_split_107 : decode cX5_split 107 = .ok (.invokevirtual 84, 3) := by decide +kernel
theorem dX5_split_110 : decode cX5_split 110 = .ok (.iinc 4 1, 3) := by decide +kernel
theorem dX5_split_113 : decode cX5_split 113 = .ok (.goto (-40), 3) := by decide +kernel
theorem dX5_split_116 : decode cX5_split 116 = .ok (.aload_n 0, 1) := by decide +kernel
theorem dX5_split_117 : decode cX5_split 117 = .ok (.getfield 13, 3) := by decide +kernel
theorem dX5_split_120 : decode cX5_split 120 = .ok (.iload_n 2, 1) := by decide +kernel
theorem dX5_split_121 : decode cX5_split 121 = .ok (.iconst 2, 1) := by decide +kernel
theorem dX5_split_122 : decode cX5_split 122 = .ok (.iastore, 1) := by decide +kernel
theorem dX5_split_123 : decode cX5_split 123 = .ok (.aload_n 0, 1) := by decide +kernel
theorem dX5_split_124 : decode cX5_split 124 = .ok (.getfield 16, 3) := by decide +kernel
theorem dX5_split_127 : decode cX5_split 127 = .ok (.iconst 5, 1) := by decide +kernel
theorem dX5_split_128 : decode cX5_split 128 = .ok (.iload_n 3, 1) := by decide +kernel
theorem dX5_split_129 : decode cX5_split 129 = .ok (.imul, 1) := by decide +kernel
theorem dX5_split_130 : decode cX5_split 130 = .ok (.iaload, 1) := by decide +kernel
theorem dX5_split_131 : decode cX5_split 131 = .ok (.istore 4, 2) := by decide +kernel
theorem dX5_split_133 : decode cX5_split 133 = .ok (.aload_n 0, 1) := by decide +kernel
theorem dX5_split_134 : decode cX5_split 134 = .ok (.getfield 7, 3) := by decide +kernel
theorem dX5_split_137 : decode cX5_split 137 = .ok (.iload_n 3, 1) := by decide +kernel
theorem dX5_split_138 : decode cX5_split 138 = .ok (.iaload, 1) := by decide +kernel
theorem dX5_split_139 : decode cX5_split 139 = .ok (.iconst 2, 1) := by decide +kernel
theorem dX5_split_140 : decode cX5_split 140 = .ok (.if_icmp .ne 12, 3) := by decide +kernel
theorem dX5_split_143 : decode cX5_split 143 = .ok (.aload_n 0, 1) := by decide +kernel
theorem dX5_split_144 : decode cX5_split 144 = .ok (.getfield 16, 3) := by decide +kernel
theorem dX5_split_147 : decode cX5_split 147 = .ok (.iconst 5, 1) := by decide +kernel
theorem dX5_split_148 : decode cX5_split 148 = .ok (.iload_n 3, 1) := by decide +kernel
theorem dX5_split_149 : decode cX5_split 149 = .ok (.imul, 1) := by decide +kernel
theorem dX5_split_150 : decode cX5_split 150 = .ok (.iconst 0, 1) := by decide +kernel
theorem dX5_split_151 : decode cX5_split 151 = .ok (.iastore, 1) := by decide +kernel
theorem dX5_split_152 : decode cX5_split 152 = .ok (.aload_n 0, 1) := by decide +kernel
theorem dX5_split_153 : decode cX5_split 153 = .ok (.iload_n 3, 1) := by decide +kernel
theorem dX5_split_154 : decode cX5_split 154 = .ok (.invokevirtual 88, 3) := by decide +kernel
theorem dX5_split_157 : decode cX5_split 157 = .ok (.aload_n 0, 1) := by decide +kernel
theorem dX5_split_158 : decode cX5_split 158 = .ok (.iload_n 2, 1) := by decide +kernel
theorem dX5_split_159 : decode cX5_split 159 = .ok (.invokevirtual 88, 3) := by decide +kernel
theorem dX5_split_162 : decode cX5_split 162 = .ok (.iload_n 1, 1) := by decide +kernel
theorem dX5_split_163 : decode cX5_split 163 = .ok (.ifCond .le 39, 3) := by decide +kernel
theorem dX5_split_166 : decode cX5_split 166 = .ok (.aload_n 0, 1) := by decide +kernel
theorem dX5_split_167 : decode cX5_split 167 = .ok (.aload_n 0, 1) := by decide +kernel
theorem dX5_split_168 : decode cX5_split 168 = .ok (.getfield 25, 3) := by decide +kernel
theorem dX5_split_171 : decode cX5_split 171 = .ok (.iload_n 1, 1) := by decide +kernel
theorem dX5_split_172 : decode cX5_split 172 = .ok (.iconst 1, 1) := by decide +kernel
theorem dX5_split_173 : decode cX5_split 173 = .ok (.isub, 1) := by decide +kernel
theorem dX5_split_174 : decode cX5_split 174 = .ok (.iaload, 1) := by decide +kernel
theorem dX5_split_175 : decode cX5_split 175 = .ok (.aload_n 0, 1) := by decide +kernel
theorem dX5_split_176 : decode cX5_split 176 = .ok (.getfield 28, 3) := by decide +kernel
theorem dX5_split_179 : decode cX5_split 179 = .ok (.iload_n 1, 1) := by decide +kernel
theorem dX5_split_180 : decode cX5_split 180 = .ok (.iaload, 1) := by decide +kernel
theorem dX5_split_181 : decode cX5_split 181 = .ok (.iconst 1, 1) := by decide +kernel
theorem dX5_split_182 : decode cX5_split 182 = .ok (.iadd, 1) := by decide +kernel
theorem dX5_split_183 : decode cX5_split 183 = .ok (.iload 4, 2) := by decide +kernel
theorem dX5_split_185 : decode cX5_split 185 = .ok (.iload_n 3, 1) := by decide +kernel
theorem dX5_split_186 : decode cX5_split 186 = .ok (.invokevirtual 84, 3) := by decide +kernel
theorem dX5_split_189 : decode cX5_split 189 = .ok (.aload_n 0, 1) := by decide +kernel
theorem dX5_split_190 : decode cX5_split 190 = .ok (.aload_n 0, 1) := by decide +kernel
theorem dX5_split_191 : decode cX5_split 191 = .ok (.getfield 25, 3) := by decide +kernel
theorem dX5_split_194 : decode cX5_split 194 = .ok (.iload_n 1, 1) := by decide +kernel
theorem dX5_split_195 : decode cX5_split 195 = .ok (.iconst 1, 1) := by decide +kernel
theorem dX5_split_196 : decode cX5_split 196 = .ok (.isub, 1) := by decide +kernel
theorem dX5_split_197 : decode cX5_split 197 = .ok (.iaload, 1) := by decide +kernel
theorem dX5_split_198 : decode cX5_split 198 = .ok (.invokevirtual 88, 3) := by decide +kernel
theorem dX5_split_201 : decode cX5_split 201 = .ok (.return_, 1) := by decide +kernel
theorem dX5_split_202 : decode cX5_split 202 = .ok (.aload_n 0, 1) := by decide +kernel
theorem dX5_split_203 : decode cX5_split 203 = .ok (.invokevirtual 81, 3) := by decide +kernel
theorem dX5_split_206 : decode cX5_split 206 = .ok (.istore 5, 2) := by decide +kernel
theorem dX5_split_208 : decode cX5_split 208 = .ok (.aload_n 0, 1) := by decide +kernel
theorem dX5_split_209 : decode cX5_split 209 = .ok (.iload 5, 2) := by decide +kernel
theorem dX5_split_211 : decode cX5_split 211 = .ok (.iconst 1, 1) := by decide +kernel
theorem dX5_split_212 : decode cX5_split 212 = .ok (.invokevirtual 77, 3) := by decide +kernel
theorem dX5_split_215 : decode cX5_split 215 = .ok (.aload_n 0, 1) := by decide +kernel
theorem dX5_split_216 : decode cX5_split 216 = .ok (.getfield 7, 3) := by decide +kernel
theorem dX5_split_219 : decode cX5_split 219 = .ok (.iload 5, 2) := by decide +kernel
theorem dX5_split_221 : decode cX5_split 221 = .ok (.iconst 2, 1) := by decide +kernel
theorem dX5_split_222 : decode cX5_split 222 = .ok (.iastore, 1) := by decide +kernel
theorem dX5_split_223 : decode cX5_split 223 = .ok (.aload_n 0, 1) := by decide +kernel
theorem dX5_split_224 : decode cX5_split 224 = .ok (.getfield 13, 3) := by decide +kernel
theorem dX5_split_227 : decode cX5_split 227 = .ok (.iload 5, 2) := by decide +kernel
theorem dX5_split_229 : decode cX5_split 229 = .ok (.iconst 0, 1) := by decide +kernel
theorem dX5_split_230 : decode cX5_split 230 = .ok (.iastore, 1) := by decide +kernel
theorem dX5_split_231 : decode cX5_split 231 = .ok (.aload_n 0, 1) := by decide +kernel
theorem dX5_split_232 : decode cX5_split 232 = .ok (.iload 5, 2) := by decide +kernel
theorem dX5_split_234 : decode cX5_split 234 = .ok (.iconst 0, 1) := by decide +kernel
theorem dX5_split_235 : decode cX5_split 235 = .ok (.iconst 0, 1) := by decide +kernel
theorem dX5_split_236 : decode cX5_split 236 = .ok (.iload_n 2, 1) := by decide +kernel
theorem dX5_split_237 : decode cX5_split 237 = .ok (.invokevirtual 84, 3) := by decide +kernel
theorem dX5_split_240 : decode cX5_split 240 = .ok (.aload_n 0, 1) := by decide +kernel
theorem dX5_split_241 : decode cX5_split 241 = .ok (.iload 5, 2) := by decide +kernel
theorem dX5_split_243 : decode cX5_split 243 = .ok (.iconst 1, 1) := by decide +kernel
theorem dX5_split_244 : decode cX5_split 244 = .ok (.iload 4, 2) := by decide +kernel
theorem dX5_split_246 : decode cX5_split 246 = .ok (.iload_n 3, 1) := by decide +kernel
theorem dX5_split_247 : decode cX5_split 247 = .ok (.invokevirtual 84, 3) := by decide +kernel
theorem dX5_split_250 : decode cX5_split 250 = .ok (.aload_n 0, 1) := by decide +kernel
theorem dX5_split_251 : decode cX5_split 251 = .ok (.iload 5, 2) := by decide +kernel
theorem dX5_split_253 : decode cX5_split 253 = .ok (.putfield 71, 3) := by decide +kernel
theorem dX5_split_256 : decode cX5_split 256 = .ok (.aload_n 0, 1) := by decide +kernel
theorem dX5_split_257 : decode cX5_split 257 = .ok (.iload 5, 2) := by decide +kernel
theorem dX5_split_259 : decode cX5_split 259 = .ok (.invokevirtual 88, 3) := by decide +kernel
theorem dX5_split_262 : decode cX5_split 262 = .ok (.return_, 1) := by decide +kernel
theorem dX5_put_0 : decode cX5_put 0 = .ok (.aload_n 0, 1) := by decide +kernel
theorem dX5_put_1 : decode cX5_put 1 = .ok (.iconst 0, 1) := by decide +kernel
theorem dX5_put_2 : decode cX5_put 2 = .ok (.putfield 44, 3) := by decide +kernel
theorem dX5_put_5 : decode cX5_put 5 = .ok (.aload_n 0, 1) := by decide +kernel
theorem dX5_put_6 : decode cX5_put 6 = .ok (.iload_n 1, 1) := by decide +kernel
theorem dX5_put_7 : decode cX5_put 7 = .ok (.invokevirtual 92, 3) := by decide +kernel
theorem dX5_put_10 : decode cX5_put 10 = .ok (.aload_n 0, 1) := by decide +kernel
theorem dX5_put_11 : decode cX5_put 11 = .ok (.iload_n 1, 1) := by decide +kernel
theorem dX5_put_12 : decode cX5_put 12 = .ok (.invokevirtual 95, 3) := by decide +kernel
theorem dX5_put_15 : decode cX5_put 15 = .ok (.istore_n 3, 1) := by decide +kernel
theorem dX5_put_16 : decode cX5_put 16 = .ok (.aload_n 0, 1) := by decide +kernel
theorem dX5_put_17 : decode cX5_put 17 = .ok (.iload_n 3, 1) := by decide +kernel
theorem dX5_put_18 : decode cX5_put 18 = .ok (.iload_n 1, 1) := by decide +kernel
theorem dX5_put_19 : decode cX5_put 19 = .ok (.invokevirtual 98, 3) := by decide +kernel
theorem dX5_put_22 : decode cX5_put 22 = .ok (.istore 4, 2) := by decide +kernel
theorem dX5_put_24 : decode cX5_put 24 = .ok (.iload 4, 2) := by decide +kernel
theorem dX5_put_26 : decode cX5_put 26 = .ok (.ifCond .ne 24, 3) := by decide +kernel
theorem dX5_put_29 : decode cX5_put 29 = .ok (.aload_n 0, 1) := by decide +kernel
theorem dX5_put_30 : decode cX5_put 30 = .ok (.invokevirtual 102, 3) := by decide +kernel
theorem dX5_put_33 : decode cX5_put 33 = .ok (.aload_n 0, 1) := by decide +kernel
theorem dX5_put_34 : decode cX5_put 34 = .ok (.invokevirtual 105, 3) := by decide +kernel
theorem dX5_put_37 : decode cX5_put 37 = .ok (.iadd, 1) := by decide +kernel
theorem dX5_put_38 : decode cX5_put 38 = .ok (.bipush 40, 2) := by decide +kernel
theorem dX5_put_40 : decode cX5_put 40 = .ok (.if_icmp .le 10, 3) := by decide +kernel
theorem dX5_put_43 : decode cX5_put 43 = .ok (.aload_n 0, 1) := by decide +kernel
theorem dX5_put_44 : decode cX5_put 44 = .ok (.iconst 1, 1) := by decide +kernel
theorem dX5_put_45 : decode cX5_put 45 = .ok (.putfield 44, 3) := by decide +kernel
theorem dX5_put_48 : decode cX5_put 48 = .ok (.iconst 0, 1) := by decide +kernel
theorem dX5_put_49 : decode cX5_put 49 = .ok (.ireturn, 1) := by decide +kernel
theorem dX5_put_50 : decode cX5_put 50 = .ok (.aload_n 0, 1) := by decide +kernel
theorem dX5_put_51 : decode cX5_put 51 = .ok (.iconst 0, 1) := by decide +kernel
theorem dX5_put_52 : decode cX5_put 52 = .ok (.putfield 108, 3) := by decide +kernel
theorem dX5_put_55 : decode cX5_put 55 = .ok (.aload_n 0, 1) := by decide +kernel
theorem dX5_put_56 : decode cX5_put 56 = .ok (.invokevirtual 112, 3) := by decide +kernel
theorem dX5_put_59 : decode cX5_put 59 = .ok (.aload_n 0, 1) := by decide +kernel
theorem dX5_put_60 : decode cX5_put 60 = .ok (.getfield 25, 3) := by decide +kernel
theorem dX5_put_63 : decode cX5_put 63 = .ok (.aload_n 0, 1) := by decide +kernel
theorem dX5_put_64 : decode cX5_put 64 = .ok (.getfield 74, 3) := by decide +kernel
theorem dX5_put_67 : decode cX5_put 67 = .ok (.iaload, 1) := by decide +kernel
theorem dX5_put_68 : decode cX5_put 68 = .ok (.istore 5, 2) := by decide +kernel
theorem dX5_put_70 : decode cX5_put 70 = .ok (.aload_n 0, 1) := by decide +kernel
theorem dX5_put_71 : decode cX5_put 71 = .ok (.iload 5, 2) := by decide +kernel
theorem dX5_put_73 : decode cX5_put 73 = .ok (.invokevirtual 88, 3) := by decide +kernel
theorem dX5_put_76 : decode cX5_put 76 = .ok (.iload 4, 2) := by decide +kernel
theorem dX5_put_78 : decode cX5_put 78 = .ok (.ifCond .eq 18, 3) := by decide +kernel
theorem dX5_put_81 : decode cX5_put 81 = .ok (.aload_n 0, 1) := by decide +kernel
theorem dX5_put_82 : decode cX5_put 82 = .ok (.getfield 19, 3) := by decide +kernel
theorem dX5_put_85 : decode cX5_put 85 = .ok (.iconst 5, 1) := by decide +kernel
theorem dX5_put_86 : decode cX5_put 86 = .ok (.iload 5, 2) := by decide +kernel
theorem dX5_put_88 : decode cX5_put 88 = .ok (.imul, 1) := by decide +kernel
theorem dX5_put_89 : decode cX5_put 89 = .ok (.iload_n 3, 1) := by decide +kernel
theorem dX5_put_90 : decode cX5_put 90 = .ok (.iadd, 1) := by decide +kernel
theorem dX5_put_91 : decode cX5_put 91 = .ok (.iload_n 2, 1) := by decide +kernel
theorem dX5_put_92 : decode cX5_put 92 = .ok (.iastore, 1) := by decide +kernel
theorem dX5_put_93 : decode cX5_put 93 = .ok (.goto 61, 3) := by decide +kernel
theorem dX5_put_96 : decode cX5_put 96 = .ok (.aload_n 0, 1) := by decide +kernel
theorem dX5_put_97 : decode cX5_put 97 = .ok (.iload 5, 2) := by decide +kernel
theorem dX5_put_99 : decode cX5_put 99 = .ok (.iload_n 3, 1) := by decide +kernel
theorem dX5_put_100 : decode cX5_put 100 = .ok (.iload_n 1, 1) := by decide +kernel
theorem dX5_put_101 : decode cX5_put 101 = .ok (.iload_n 2, 1) := by decide +kernel
theorem dX5_put_102 : decode cX5_put 102 = .ok (.invokevirtual 84, 3) := by decide +kernel
theorem dX5_put_105 : decode cX5_put 105 = .ok (.aload_n 0, 1) := by decide +kernel
theorem dX5_put_106 : decode cX5_put 106 = .ok (.dup, 1) := by decide +kernel
theorem dX5_put_107 : decode cX5_put 107 = .ok (.getfield 115, 3) := by decide +kernel
theorem dX5_put_110 : decode cX5_put 110 = .ok (.iconst 1, 1) := by decide +kernel
theorem dX5_put_111 : decode cX5_put 111 = .ok (.iadd, 1) := by decide +kernel
theorem dX5_put_112 : decode cX5_put 112 = .ok (.putfield 115, 3) := by decide +kernel
theorem dX5_put_115 : decode cX5_put 115 = .ok (.aload_n 0, 1) := by decide +kernel
theorem dX5_put_116 : decode cX5_put 116 = .ok (.getfield 74, 3) := by decide +kernel
theorem dX5_put_119 : decode cX5_put 119 = .ok (.istore 6, 2) := by decide +kernel
theorem dX5_put_121 : decode cX5_put 121 = .ok (.iload 6, 2) := by decide +kernel
theorem dX5_put_123 : decode cX5_put 123 = .ok (.ifCond .lt 31, 3) := by decide +kernel
theorem dX5_put_126 : decode cX5_put 126 = .ok (.aload_n 0, 1) := by decide +kernel
theorem dX5_put_127 : decode cX5_put 127 = .ok (.getfield 13, 3) := by decide +kernel
theorem dX5_put_130 : decode cX5_put 130 = .ok (.aload_n 0, 1) := by decide +kernel
theorem dX5_put_131 : decode cX5_put 131 = .ok (.getfield 25, 3) := by decide +kernel
theorem dX5_put_134 : decode cX5_put 134 = .ok (.iload 6, 2) := by decide +kernel
theorem dX5_put_136 : decode cX5_put 136 = .ok (.iaload, 1) := by decide +kernel
theorem dX5_put_137 : decode cX5_put 137 = .ok (.iaload, 1) := by decide +kernel
theorem dX5_put_138 : decode cX5_put 138 = .ok (.iconst 4, 1) := by decide +kernel
theorem dX5_put_139 : decode cX5_put 139 = .ok (.if_icmp .le 15, 3) := by decide +kernel
theorem dX5_put_142 : decode cX5_put 142 = .ok (.aload_n 0, 1) := by decide +kernel
theorem dX5_put_143 : decode cX5_put 143 = .ok (.iload 6, 2) := by decide +kernel
theorem dX5_put_145 : decode cX5_put 145 = .ok (.invokevirtual 118, 3) := by decide +kernel
theorem dX5_put_148 : decode cX5_put 148 = .ok (.iinc 6 (-1), 3) := by decide +kernel
theorem dX5_put_151 : decode cX5_put 151 = .ok (.goto (-30), 3) := by decide +kernel
theorem dX5_put_154 : decode cX5_put 154 = .ok (.aload_n 0, 1) := by decide +kernel
theorem dX5_put_155 : decode cX5_put 155 = .ok (.invokevirtual 121, 3) := by decide +kernel
theorem dX5_put_158 : decode cX5_put 158 = .ok (.iload 4, 2) := by decide +kernel
theorem dX5_put_160 : decode cX5_put 160 = .ok (.ifCond .ne 7, 3) := by decide +kernel
theorem dX5_put_163 : decode cX5_put 163 = .ok (.iconst 1, 1) := by decide +kernel
theorem dX5_put_164 : decode cX5_put 164 = .ok (.goto 4, 3) := by decide +kernel
theorem dX5_put_167 : decode cX5_put 167 = .ok (.iconst 0, 1) := by decide +kernel
theorem dX5_put_168 : decode cX5_put 168 = .ok (.ireturn, 1) := by decide +kernel
theorem dX5_get_0 : decode cX5_get 0 = .ok (.aload_n 0, 1) := by decide +kernel
theorem dX5_get_1 : decode cX5_get 1 = .ok (.iload_n 1, 1) := by decide +kernel
theorem dX5_get_2 : decode cX5_get 2 = .ok (.invokevirtual 92, 3) := by decide +kernel
theorem dX5_get_5 : decode cX5_get 5 = .ok (.aload_n 0, 1) := by decide +kernel
theorem dX5_get_6 : decode cX5_get 6 = .ok (.iload_n 1, 1) := by decide +kernel
theorem dX5_get_7 : decode cX5_get 7 = .ok (.invokevirtual 95, 3) := by decide +kernel
theorem dX5_get_10 : decode cX5_get 10 = .ok (.istore_n 2, 1) := by decide +kernel
theorem dX5_get_11 : decode cX5_get 11 = .ok (.aload_n 0, 1) := by decide +kernel
theorem dX5_get_12 : decode cX5_get 12 = .ok (.aload_n 0, 1) := by decide +kernel
theorem dX5_get_13 : decode cX5_get 13 = .ok (.iload_n 2, 1) := by decide +kernel
theorem dX5_get_14 : decode cX5_get 14 = .ok (.iload_n 1, 1) := by decide +kernel
theorem dX5_get_15 : decode cX5_get 15 = .ok (.invokevirtual 98, 3) := by decide +kernel
theorem dX5_get_18 : decode cX5_get 18 = .ok (.ifCond .eq 7, 3) := by decide +kernel
theorem dX5_get_21 : decode cX5_get 21 = .ok (.iconst 0, 1) := by decide +kernel
theorem dX5_get_22 : decode cX5_get 22 = .ok (.goto 4, 3) := by decide +kernel
theorem dX5_get_25 : decode cX5_get 25 = .ok (.iconst 1, 1) := by decide +kernel
theorem dX5_get_26 : decode cX5_get 26 = .ok (.putfield 44, 3) := by decide +kernel
theorem dX5_get_29 : decode cX5_get 29 = .ok (.aload_n 0, 1) := by decide +kernel
theorem dX5_get_30 : decode cX5_get 30 = .ok (.getfield 44, 3) := by decide +kernel
theorem dX5_get_33 : decode cX5_get 33 = .ok (.ifCond .le 5, 3) := by decide +kernel
theorem dX5_get_36 : decode cX5_get 36 = .ok (.iconst 0, 1) := by decide +kernel
theorem dX5_get_37 : decode cX5_get 37 = .ok (.ireturn, 1) := by decide +kernel
theorem dX5_get_38 : decode cX5_get 38 = .ok (.aload_n 0, 1) := by decide +kernel
theorem dX5_get_39 : decode cX5_get 39 = .ok (.invokevirtual 112, 3) := by decide +kernel
theorem dX5_get_42 : decode cX5_get 42 = .ok (.aload_n 0, 1) := by decide +kernel
theorem dX5_get_43 : decode cX5_get 43 = .ok (.invokevirtual 121, 3) := by decide +kernel
theorem dX5_get_46 : decode cX5_get 46 = .ok (.aload_n 0, 1) := by decide +kernel
theorem dX5_get_47 : decode cX5_get 47 = .ok (.getfield 19, 3) := by decide +kernel
theorem dX5_get_50 : decode cX5_get 50 = .ok (.iconst 5, 1) := by decide +kernel
theorem dX5_get_51 : decode cX5_get 51 = .ok (.aload_n 0, 1) := by decide +kernel
theorem dX5_get_52 : decode cX5_get 52 = .ok (.getfield 25, 3) := by decide +kernel
theorem dX5_get_55 : decode cX5_get 55 = .ok (.aload_n 0, 1) := by decide +kernel
theorem dX5_get_56 : decode cX5_get 56 = .ok (.getfield 74, 3) := by decide +kernel
theorem dX5_get_59 : decode cX5_get 59 = .ok (.iaload, 1) := by decide +kernel
theorem dX5_get_60 : decode cX5_get 60 = .ok (.imul, 1) := by decide +kernel
theorem dX5_get_61 : decode cX5_get 61 = .ok (.iload_n 2, 1) := by decide +kernel
theorem dX5_get_62 : decode cX5_get 62 = .ok (.iadd, 1) := by decide +kernel
theorem dX5_get_63 : decode cX5_get 63 = .ok (.iaload, 1) := by decide +kernel
theorem dX5_get_64 : decode cX5_get 64 = .ok (.ireturn, 1) := by decide +kernel
theorem dX5_give_0 : decode cX5_give 0 = .ok (.aload_n 0, 1) := by decide +kernel
theorem dX5_give_1 : decode cX5_give 1 = .ok (.getfield 19, 3) := by decide +kernel
theorem dX5_give_4 : decode cX5_give 4 = .ok (.iconst 5, 1) := by decide +kernel
theorem dX5_give_5 : decode cX5_give 5 = .ok (.iload_n 1, 1) := by decide +kernel
theorem dX5_give_6 : decode cX5_give 6 = .ok (.imul, 1) := by decide +kernel
theorem dX5_give_7 : decode cX5_give 7 = .ok (.iload_n 2, 1) := by decide +kernel
theorem dX5_give_8 : decode cX5_give 8 = .ok (.iadd, 1) := by decide +kernel
theorem dX5_give_9 : decode cX5_give 9 = .ok (.iaload, 1) := by decide +kernel
theorem dX5_give_10 : decode cX5_give 10 = .ok (.istore 4, 2) := by decide +kernel
theorem dX5_give_12 : decode cX5_give 12 = .ok (.aload_n 0, 1) := by decide +kernel
theorem dX5_give_13 : decode cX5_give 13 = .ok (.getfield 19, 3) := by decide +kernel
theorem dX5_give_16 : decode cX5_give 16 = .ok (.iconst 5, 1) := by decide +kernel
theorem dX5_give_17 : decode cX5_give 17 = .ok (.iload_n 1, 1) := by decide +kernel
theorem dX5_give_18 : decode cX5_give 18 = .ok (.imul, 1) := by decide +kernel
theorem dX5_give_19 : decode cX5_give 19 = .ok (.iload_n 2, 1) := by decide +kernel
theorem dX5_give_20 : decode cX5_give 20 = .ok (.iadd, 1) := by decide +kernel
theorem dX5_give_21 : decode cX5_give 21 = .ok (.iconst 1, 1) := by decide +kernel
theorem dX5_give_22 : decode cX5_give 22 = .ok (.iadd, 1) := by decide +kernel
theorem dX5_give_23 : decode cX5_give 23 = .ok (.iaload, 1) := by decide +kernel
theorem dX5_give_24 : decode cX5_give 24 = .ok (.istore 5, 2) := by decide +kernel
theorem dX5_give_26 : decode cX5_give 26 = .ok (.iconst 5, 1) := by decide +kernel
theorem dX5_give_27 : decode cX5_give 27 = .ok (.iload_n 1, 1) := by decide +kernel
theorem dX5_give_28 : decode cX5_give 28 = .ok (.imul, 1) := by decide +kernel
theorem dX5_give_29 : decode cX5_give 29 = .ok (.iload_n 2, 1) := by decide +kernel
theorem dX5_give_30 : decode cX5_give 30 = .ok (.iadd, 1) := by decide +kernel
theorem dX5_give_31 : decode cX5_give 31 = .ok (.iconst 1, 1) := by decide +kernel
theorem dX5_give_32 : decode cX5_give 32 = .ok (.iadd, 1) := by decide +kernel
theorem dX5_give_33 : decode cX5_give 33 = .ok (.istore 6, 2) := by decide +kernel
theorem dX5_give_35 : decode cX5_give 35 = .ok (.aload_n 0, 1) := by decide +kernel
theorem dX5_give_36 : decode cX5_give 36 = .ok (.getfield 7, 3) := by decide +kernel
theorem dX5_give_39 : decode cX5_give 39 = .ok (.iload 4, 2) := by decide +kernel
theorem dX5_give_41 : decode cX5_give 41 = .ok (.iaload, 1) := by decide +kernel
theorem dX5_give_42 : decode cX5_give 42 = .ok (.iconst 2, 1) := by decide +kernel
theorem dX5_give_43 : decode cX5_give 43 = .ok (.if_icmp .ne 7, 3) := by decide +kernel
theorem dX5_give_46 : decode cX5_give 46 = .ok (.iconst 1, 1) := by decide +kernel
theorem dX5_give_47 : decode cX5_give 47 = .ok (.goto 4, 3) := by decide +kernel
theorem dX5_give_50 : decode cX5_give 50 = .ok (.iconst 0, 1) := by decide +kernel
theorem dX5_give_51 : decode cX5_give 51 = .ok (.istore 7, 2) := by decide +kernel
theorem dX5_give_53 : decode cX5_give 53 = .ok (.iload_n 3, 1) := by decide +kernel
theorem dX5_give_54 : decode cX5_give 54 = .ok (.ifCond .eq 97, 3) := by decide +kernel
theorem dX5_give_57 : decode cX5_give 57 = .ok (.iconst 5, 1) := by decide +kernel
theorem dX5_give_58 : decode cX5_give 58 = .ok (.iload 4, 2) := by decide +kernel
theorem dX5_give_60 : decode cX5_give 60 = .ok (.imul, 1) := by decide +kernel
theorem dX5_give_61 : decode cX5_give 61 = .ok (.aload_n 0, 1) := by decide +kernel
theorem dX5_give_62 : decode cX5_give 62 = .ok (.getfield 13, 3) := by decide +kernel
theorem dX5_give_65 : decode cX5_give 65 = .ok (.iload 4, 2) := by decide +kernel
theorem dX5_give_67 : decode cX5_give 67 = .ok (.iaload, 1) := by decide +kernel
theorem dX5_give_68 : decode cX5_give 68 = .ok (.iadd, 1) := by decide +kernel
theorem dX5_give_69 : decode cX5_give 69 = .ok (.iconst 1, 1) := by decide +kernel
theorem dX5_give_70 : decode cX5_give 70 = .ok (.isub, 1) := by decide +kernel
theorem dX5_give_71 : decode cX5_give 71 = .ok (.istore 8, 2) := by decide +kernel
theorem dX5_give_73 : decode cX5_give 73 = .ok (.iload 7, 2) := by decide +kernel
theorem dX5_give_75 : decode cX5_give 75 = .ok (.ifCond .eq 19, 3) := by decide +kernel
theorem dX5_give_78 : decode cX5_give 78 = .ok (.aload_n 0, 1) := by decide +kernel
theorem dX5_give_79 : decode cX5_give 79 = .ok (.getfield 16, 3) := by decide +kernel
theorem dX5_give_82 : decode cX5_give 82 = .ok (.iconst 5, 1) := by decide +kernel
theorem dX5_give_83 : decode cX5_give 83 = .ok (.iload 5, 2) := by decide +kernel
theorem dX5_give_85 : decode cX5_give 85 = .ok (.imul, 1) := by decide +kernel
theorem dX5_give_86 : decode cX5_give 86 = .ok (.aload_n 0, 1) := by decide +kernel
theorem dX5_give_87 : decode cX5_give 87 = .ok (.getfield 16, 3) := by decide +kernel
theorem dX5_give_90 : decode cX5_give 90 = .ok (.iload 6, 2) := by decide +kernel
theorem dX5_give_92 : decode cX5_give 92 = .ok (.iaload, 1) := by decide +kernel
theorem dX5_give_93 : decode cX5_give 93 = .ok (.iastore, 1) := by decide +kernel
theorem dX5_give_94 : decode cX5_give 94 = .ok (.aload_n 0, 1) := by decide +kernel
theorem dX5_give_95 : decode cX5_give 95 = .ok (.getfield 16, 3) := by decide +kernel
theorem dX5_give_98 : decode cX5_give 98 = .ok (.iload 8, 2) := by decide +kernel
theorem dX5_give_100 : decode cX5_give 100 = .ok (.iaload, 1) := by decide +kernel
theorem dX5_give_101 : decode cX5_give 101 = .ok (.istore 9, 2) := by decide +kernel
theorem dX5_give_103 : decode cX5_give 103 = .ok (.aload_n 0, 1) := by decide +kernel
theorem dX5_give_104 : decode cX5_give 104 = .ok (.iload 5, 2) := by decide +kernel
theorem dX5_give_106 : decode cX5_give 106 = .ok (.iconst 0, 1) := by decide +kernel
theorem dX5_give_107 : decode cX5_give 107 = .ok (.iload 7, 2) := by decide +kernel
theorem dX5_give_109 : decode cX5_give 109 = .ok (.ifCond .eq 7, 3) := by decide +kernel
theorem dX5_give_112 : decode cX5_give 112 = .ok (.iconst 0, 1) := by decide +kernel
theorem dX5_give_113 : decode cX5_give 113 = .ok (.goto 5, 3) := by decide +kernel
theorem dX5_give_116 : decode cX5_give 116 = .ok (.iload 9, 2) := by decide +kernel
theorem dX5_give_118 : decode cX5_give 118 = .ok (.aload_n 0, 1) := by decide +kernel
theorem dX5_give_119 : decode cX5_give 119 = .ok (.getfield 19, 3) := by decide +kernel
theorem dX5_give_122 : decode cX5_give 122 = .ok (.iload 8, 2) := by decide +kernel
theorem dX5_give_124 : decode cX5_give 124 = .ok (.iaload, 1) := by decide +kernel
theorem dX5_give_125 : decode cX5_give 125 = .ok (.invokevirtual 84, 3) := by decide +kernel
theorem dX5_give_128 : decode cX5_give 128 = .ok (.aload_n 0, 1) := by decide +kernel
theorem dX5_give_129 : decode cX5_give 129 = .ok (.getfield 13, 3) := by decide +kernel
theorem dX5_give_132 : decode cX5_give 132 = .ok (.iload 4, 2) := by decide +kernel
theorem dX5_give_134 : decode cX5_give 134 = .ok (.dup2, 1) := by decide +kernel
theorem dX5_give_135 : decode cX5_give 135 = .ok (.iaload, 1) := by decide +kernel
theorem dX5_give_136 : decode cX5_give 136 = .ok (.iconst 1, 1) := by decide +kernel
theorem dX5_give_137 : decode cX5_give 137 = .ok (.isub, 1) := by decide +kernel
theorem dX5_give_138 : decode cX5_give 138 = .ok (.iastore, 1) := by decide +kernel
theorem dX5_give_139 : decode cX5_give 139 = .ok (.aload_n 0, 1) := by decide +kernel
theorem dX5_give_140 : decode cX5_give 140 = .ok (.getfield 16, 3) := by decide +kernel
theorem dX5_give_143 : decode cX5_give 143 = .ok (.iload 6, 2) := by decide +kernel
theorem dX5_give_145 : decode cX5_give 145 = .ok (.iload 9, 2) := by decide +kernel
theorem dX5_give_147 : decode cX5_give 147 = .ok (.iastore, 1) := by decide +kernel
theorem dX5_give_148 : decode cX5_give 148 = .ok (.goto 87, 3) := by decide +kernel
theorem dX5_give_151 : decode cX5_give 151 = .ok (.aload_n 0, 1) := by decide +kernel
theorem dX5_give_152 : decode cX5_give 152 = .ok (.iload 4, 2) := by decide +kernel
theorem dX5_give_154 : decode cX5_give 154 = .ok (.aload_n 0, 1) := by decide +kernel
theorem dX5_give_155 : decode cX5_give 155 = .ok (.getfield 13, 3) := by decide +kernel
theorem dX5_give_158 : decode cX5_give 158 = .ok (.iload 4, 2) := by decide +kernel
theorem dX5_give_160 : decode cX5_give 160 = .ok (.iaload, 1) := by decide +kernel
theorem dX5_give_161 : decode cX5_give 161 = .ok (.iload 7, 2) := by decide +kernel
theorem dX5_give_163 : decode cX5_give 163 = .ok (.ifCond .eq 13, 3) := by decide +kernel
theorem dX5_give_166 : decode cX5_give 166 = .ok (.aload_n 0, 1) := by decide +kernel
theorem dX5_give_167 : decode cX5_give 167 = .ok (.getfield 16, 3) := by decide +kernel
theorem dX5_give_170 : decode cX5_give 170 = .ok (.iload 6, 2) := by decide +kernel
theorem dX5_give_172 : decode cX5_give 172 = .ok (.iaload, 1) := by decide +kernel
theorem dX5_give_173 : decode cX5_give 173 = .ok (.goto 12, 3) := by decide +kernel
theorem dX5_give_176 : decode cX5_give 176 = .ok (.aload_n 0, 1) := by decide +kernel
theorem dX5_give_177 : decode cX5_give 177 = .ok (.getfield 16, 3) := by decide +kernel
theorem dX5_give_180 : decode cX5_give 180 = .ok (.iconst 5, 1) := by decide +kernel
theorem dX5_give_181 : decode cX5_give 181 = .ok (.iload 5, 2) := by decide +kernel
theorem dX5_give_183 : decode cX5_give 183 = .ok (.imul, 1) := by decide +kernel
theorem dX5_give_184 : decode cX5_give 184 = .ok (.iaload, 1) := by decide +kernel
theorem dX5_give_185 : decode cX5_give 185 = .ok (.aload_n 0, 1) := by decide +kernel
theorem dX5_give_186 : decode cX5_give 186 = .ok (.getfield 19, 3) := by decide +kernel
theorem dX5_give_189 : decode cX5_give 189 = .ok (.iconst 5, 1) := by decide +kernel
theorem dX5_give_190 : decode cX5_give 190 = .ok (.iload 5, 2) := by decide +kernel
theorem dX5_give_192 : decode cX5_give 192 = .ok (.imul, 1) := by decide +kernel
theorem dX5_give_193 : decode cX5_give 193 = .ok (.iaload, 1) := by decide +kernel
theorem dX5_give_194 : decode cX5_give 194 = .ok (.invokevirtual 84, 3) := by decide +kernel
theorem dX5_give_197 : decode cX5_give 197 = .ok (.aload_n 0, 1) := by decide +kernel
theorem dX5_give_198 : decode cX5_give 198 = .ok (.iload 5, 2) := by decide +kernel
theorem dX5_give_200 : decode cX5_give 200 = .ok (.iconst 0, 1) := by decide +kernel
theorem dX5_give_201 : decode cX5_give 201 = .ok (.invokevirtual 124, 3) := by decide +kernel
theorem dX5_give_204 : decode cX5_give 204 = .ok (.aload_n 0, 1) := by decide +kernel
theorem dX5_give_205 : decode cX5_give 205 = .ok (.getfield 16, 3) := by decide +kernel
theorem dX5_give_208 : decode cX5_give 208 = .ok (.iload 6, 2) := by decide +kernel
theorem dX5_give_210 : decode cX5_give 210 = .ok (.aload_n 0, 1) := by decide +kernel
theorem dX5_give_211 : decode cX5_give 211 = .ok (.getfield 16, 3) := by decide +kernel
theorem dX5_give_214 : decode cX5_give 214 = .ok (.iconst 5, 1) := by decide +kernel
theorem dX5_give_215 : decode cX5_give 215 = .ok (.iload 5, 2) := by decide +kernel
theorem dX5_give_217 : decode cX5_give 217 = .ok (.imul, 1) := by decide +kernel
theorem dX5_give_218 : decode cX5_give 218 = .ok (.iaload, 1) := by decide +kernel
theorem dX5_give_219 : decode cX5_give 219 = .ok (.iastore, 1) := by decide +kernel
theorem dX5_give_220 : decode cX5_give 220 = .ok (.iload 7, 2) := by decide +kernel
theorem dX5_give_222 : decode cX5_give 222 = .ok (.ifCond .eq 13, 3) := by decide +kernel
theorem dX5_give_225 : decode cX5_give 225 = .ok (.aload_n 0, 1) := by decide +kernel
theorem dX5_give_226 : decode cX5_give 226 = .ok (.getfield 16, 3) := by decide +kernel
theorem dX5_give_229 : decode cX5_give 229 = .ok (.iconst 5, 1) := by decide +kernel
theorem dX5_give_230 : decode cX5_give 230 = .ok (.iload 5, 2) := by decide +kernel
theorem dX5_give_232 : decode cX5_give 232 = .ok (.imul, 1) := by decide +kernel
theorem dX5_give_233 : decode cX5_give 233 = .ok (.iconst 0, 1) := by decide +kernel
theorem dX5_give_234 : decode cX5_give 234 = .ok (.iastore, 1) := by decide +kernel
theorem dX5_give_235 : decode cX5_give 235 = .ok (.aload_n 0, 1) := by decide +kernel
theorem dX5_give_236 : decode cX5_give 236 = .ok (.iload 4, 2) := by decide +kernel
theorem dX5_give_238 : decode cX5_give 238 = .ok (.invokevirtual 88, 3) := by decide +kernel
theorem dX5_give_241 : decode cX5_give 241 = .ok (.aload_n 0, 1) := by decide +kernel
theorem dX5_give_242 : decode cX5_give 242 = .ok (.iload 5, 2) := by decide +kernel
theorem dX5_give_244 : decode cX5_give 244 = .ok (.invokevirtual 88, 3) := by decide +kernel
theorem dX5_give_247 : decode cX5_give 247 = .ok (.aload_n 0, 1) := by decide +kernel
theorem dX5_give_248 : decode cX5_give 248 = .ok (.iload_n 1, 1) := by decide +kernel
theorem dX5_give_249 : decode cX5_give 249 = .ok (.invokevirtual 88, 3) := by decide +kernel
theorem dX5_give_252 : decode cX5_give 252 = .ok (.return_, 1) := by decide +kernel
theorem dX5_join_0 : decode cX5_join 0 = .ok (.aload_n 0, 1) := by decide +kernel
theorem dX5_join_1 : decode cX5_join 1 = .ok (.getfield 19, 3) := by decide +kernel
theorem dX5_join_4 : decode cX5_join 4 = .ok (.iconst 5, 1) := by decide +kernel
theorem dX5_join_5 : decode cX5_join 5 = .ok (.iload_n 1, 1) := by decide +kernel
theorem dX5_join_6 : decode cX5_join 6 = .ok (.imul, 1) := by decide +kernel
theorem dX5_join_7 : decode cX5_join 7 = .ok (.iload_n 2, 1) := by decide +kernel
theorem dX5_join_8 : decode cX5_join 8 = .ok (.iadd, 1) := by decide +kernel
theorem dX5_join_9 : decode cX5_join 9 = .ok (.iaload, 1) := by decide +kernel
theorem dX5_join_10 : decode cX5_join 10 = .ok (.istore_n 3, 1) := by decide +kernel
theorem dX5_join_11 : decode cX5_join 11 = .ok (.aload_n 0, 1) := by decide +kernel
theorem dX5_join_12 : decode cX5_join 12 = .ok (.getfield 19, 3) := by decide +kernel
theorem dX5_join_15 : decode cX5_join 15 = .ok (.iconst 5, 1) := by decide +kernel
theorem dX5_join_16 : decode cX5_join 16 = .ok (.iload_n 1, 1) := by decide +kernel
theorem dX5_join_17 : decode cX5_join 17 = .ok (.imul, 1) := by decide +kernel
theorem dX5_join_18 : decode cX5_join 18 = .ok (.iload_n 2, 1) := by decide +kernel
theorem dX5_join_19 : decode cX5_join 19 = .ok (.iadd, 1) := by decide +kernel
theorem dX5_join_20 : decode cX5_join 20 = .ok (.iconst 1, 1) := by decide +kernel
theorem dX5_join_21 : decode cX5_join 21 = .ok (.iadd, 1) := by decide +kernel
theorem dX5_join_22 : decode cX5_join 22 = .ok (.iaload, 1) := by decide +kernel
theorem dX5_join_23 : decode cX5_join 23 = .ok (.istore 4, 2) := by decide +kernel
theorem dX5_join_25 : decode cX5_join 25 = .ok (.aload_n 0, 1) := by decide +kernel
theorem dX5_join_26 : decode cX5_join 26 = .ok (.getfield 7, 3) := by decide +kernel
theorem dX5_join_29 : decode cX5_join 29 = .ok (.iload_n 3, 1) := by decide +kernel
theorem dX5_join_30 : decode cX5_join 30 = .ok (.iaload, 1) := by decide +kernel
theorem dX5_join_31 : decode cX5_join 31 = .ok (.iconst 2, 1) := by decide +kernel
theorem dX5_join_32 : decode cX5_join 32 = .ok (.if_icmp .ne 24, 3) := by decide +kernel
theorem dX5_join_35 : decode cX5_join 35 = .ok (.aload_n 0, 1) := by decide +kernel
theorem dX5_join_36 : decode cX5_join 36 = .ok (.getfield 16, 3) := by decide +kernel
theorem dX5_join_39 : decode cX5_join 39 = .ok (.iconst 5, 1) := by decide +kernel
theorem dX5_join_40 : decode cX5_join 40 = .ok (.iload 4, 2) := by decide +kernel
theorem dX5_join_42 : decode cX5_join 42 = .ok (.imul, 1) := by decide +kernel
theorem dX5_join_43 : decode cX5_join 43 = .ok (.aload_n 0, 1) := by decide +kernel
theorem dX5_join_44 : decode cX5_join 44 = .ok (.getfield 16, 3) := by decide +kernel
theorem dX5_join_47 : decode cX5_join 47 = .ok (.iconst 5, 1) := by decide +kernel
theorem dX5_join_48 : decode cX5_join 48 = .ok (.iload_n 1, 1) := by decide +kernel
theorem dX5_join_49 : decode cX5_join 49 = .ok (.imul, 1) := by decide +kernel
theorem dX5_join_50 : decode cX5_join 50 = .ok (.iload_n 2, 1) := by decide +kernel
theorem dX5_join_51 : decode cX5_join 51 = .ok (.iadd, 1) := by decide +kernel
theorem dX5_join_52 : decode cX5_join 52 = .ok (.iconst 1, 1) := by decide +kernel
theorem dX5_join_53 : decode cX5_join 53 = .ok (.iadd, 1) := by decide +kernel
theorem dX5_join_54 : decode cX5_join 54 = .ok (.iaload, 1) := by decide +kernel
theorem dX5_join_55 : decode cX5_join 55 = .ok (.iastore, 1) := by decide +kernel
theorem dX5_join_56 : decode cX5_join 56 = .ok (.iconst 0, 1) := by decide +kernel
theorem dX5_join_57 : decode cX5_join 57 = .ok (.istore 5, 2) := by decide +kernel
theorem dX5_join_59 : decode cX5_join 59 = .ok (.iload 5, 2) := by decide +kernel
theorem dX5_join_61 : decode cX5_join 61 = .ok (.aload_n 0, 1) := by decide +kernel
theorem dX5_join_62 : decode cX5_join 62 = .ok (.getfield 13, 3) := by decide +kernel
theorem dX5_join_65 : decode cX5_join 65 = .ok (.iload 4, 2) := by decide +kernel
theorem dX5_join_67 : decode cX5_join 67 = .ok (.iaload, 1) := by decide +kernel
theorem dX5_join_68 : decode cX5_join 68 = .ok (.if_icmp .ge 44, 3) := by decide +kernel
theorem dX5_join_71 : decode cX5_join 71 = .ok (.aload_n 0, 1) := by decide +kernel
theorem dX5_join_72 : decode cX5_join 72 = .ok (.iload_n 3, 1) := by decide +kernel
theorem dX5_join_73 : decode cX5_join 73 = .ok (.aload_n 0, 1) := by decide +kernel
theorem dX5_join_74 : decode cX5_join 74 = .ok (.getfield 13, 3) := by decide +kernel
theorem dX5_join_77 : decode cX5_join 77 = .ok (.iload_n 3, 1) := by decide +kernel
theorem dX5_join_78 : decode cX5_join 78 = .ok (.iaload, 1) := by decide +kernel
theorem dX5_join_79 : decode cX5_join 79 = .ok (.aload_n 0, 1) := by decide +kernel
theorem dX5_join_80 : decode cX5_join 80 = .ok (.getfield 16, 3) := by decide +kernel
theorem dX5_join_83 : decode cX5_join 83 = .ok (.iconst 5, 1) := by decide +kernel
theorem dX5_join_84 : decode cX5_join 84 = .ok (.iload 4, 2) := by decide +kernel
theorem dX5_join_86 : decode cX5_join 86 = .ok (.imul, 1) := by decide +kernel
theorem dX5_join_87 : decode cX5_join 87 = .ok (.iload 5, 2) := by decide +kernel
theorem dX5_join_89 : decode cX5_join 89 = .ok (.iadd, 1) := by decide +kernel
theorem dX5_join_90 : decode cX5_join 90 = .ok (.iaload, 1) := by decide +kernel
theorem dX5_join_91 : decode cX5_join 91 = .ok (.aload_n 0, 1) := by decide +kernel
theorem dX5_join_92 : decode cX5_join 92 = .ok (.getfield 19, 3) := by decide +kernel
theorem dX5_join_95 : decode cX5_join 95 = .ok (.iconst 5, 1) := by decide +kernel
theorem dX5_join_96 : decode cX5_join 96 = .ok (.iload 4, 2) := by decide +kernel
theorem dX5_join_98 : decode cX5_join 98 = .ok (.imul, 1) := by decide +kernel
theorem dX5_join_99 : decode cX5_join 99 = .ok (.iload 5, 2) := by decide +kernel
theorem dX5_join_101 : decode cX5_join 101 = .ok (.iadd, 1) := by decide +kernel
theorem dX5_join_102 : decode cX5_join 102 = .ok (.iaload, 1) := by decide +kernel
theorem dX5_join_103 : decode cX5_join 103 = .ok (.invokevirtual 84, 3) := by decide +kernel
theorem dX5_join_106 : decode cX5_join 106 = .ok (.iinc 5 1, 3) := by decide +kernel
theorem dX5_join_109 : decode cX5_join 109 = .ok (.goto (-50), 3) := by decide +kernel
theorem dX5_join_112 : decode cX5_join 112 = .ok (.aload_n 0, 1) := by decide +kernel
theorem dX5_join_113 : decode cX5_join 113 = .ok (.getfield 22, 3) := by decide +kernel
theorem dX5_join_116 : decode cX5_join 116 = .ok (.iload_n 3, 1) := by decide +kernel
theorem dX5_join_117 : decode cX5_join 117 = .ok (.aload_n 0, 1) := by decide +kernel
theorem dX5_join_118 : decode cX5_join 118 = .ok (.getfield 22, 3) := by decide +kernel
theorem dX5_join_121 : decode cX5_join 121 = .ok (.iload 4, 2) := by decide +kernel
theorem dX5_join_123 : decode cX5_join 123 = .ok (.iaload, 1) := by decide +kernel
theorem dX5_join_124 : decode cX5_join 124 = .ok (.iastore, 1) := by decide +kernel
theorem dX5_join_125 : decode cX5_join 125 = .ok (.aload_n 0, 1) := by decide +kernel
theorem dX5_join_126 : decode cX5_join 126 = .ok (.iload_n 1, 1) := by decide +kernel
theorem dX5_join_127 : decode cX5_join 127 = .ok (.iload_n 2, 1) := by decide +kernel
theorem dX5_join_128 : decode cX5_join 128 = .ok (.iconst 1, 1) := by decide +kernel
theorem dX5_join_129 : decode cX5_join 129 = .ok (.iadd, 1) := by decide +kernel
theorem dX5_join_130 : decode cX5_join 130 = .ok (.invokevirtual 124, 3) := by decide +kernel
theorem dX5_join_133 : decode cX5_join 133 = .ok (.aload_n 0, 1) := by decide +kernel
theorem dX5_join_134 : decode cX5_join 134 = .ok (.iload 4, 2) := by decide +kernel
theorem dX5_join_136 : decode cX5_join 136 = .ok (.invokevirtual 128, 3) := by decide +kernel
theorem dX5_join_139 : decode cX5_join 139 = .ok (.aload_n 0, 1) := by decide +kernel
theorem dX5_join_140 : decode cX5_join 140 = .ok (.iload_n 3, 1) := by decide +kernel
theorem dX5_join_141 : decode cX5_join 141 = .ok (.invokevirtual 88, 3) := by decide +kernel
theorem dX5_join_144 : decode cX5_join 144 = .ok (.aload_n 0, 1) := by decide +kernel
theorem dX5_join_145 : decode cX5_join 145 = .ok (.iload_n 1, 1) := by decide +kernel
theorem dX5_join_146 : decode cX5_join 146 = .ok (.invokevirtual 88, 3) := by decide +kernel
theorem dX5_join_149 : decode cX5_join 149 = .ok (.return_, 1) := by decide +kernel
theorem dX5_mend_0 : decode cX5_mend 0 = .ok (.aload_n 0, 1) := by decide +kernel
theorem dX5_mend_1 : decode cX5_mend 1 = .ok (.getfield 25, 3) := by decide +kernel
theorem dX5_mend_4 : decode cX5_mend 4 = .ok (.iload_n 1, 1) := by decide +kernel
theorem dX5_mend_5 : decode cX5_mend 5 = .ok (.iconst 1, 1) := by decide +kernel
theorem dX5_mend_6 : decode cX5_mend 6 = .ok (.isub, 1) := by decide +kernel
theorem dX5_mend_7 : decode cX5_mend 7 = .ok (.iaload, 1) := by decide +kernel
theorem dX5_mend_8 : decode cX5_mend 8 = .ok (.istore_n 2, 1) := by decide +kernel
theorem dX5_mend_9 : decode cX5_mend 9 = .ok (.aload_n 0, 1) := by decide +kernel
theorem dX5_mend_10 : decode cX5_mend 10 = .ok (.getfield 28, 3) := by decide +kernel
theorem dX5_mend_13 : decode cX5_mend 13 = .ok (.iload_n 1, 1) := by decide +kernel
theorem dX5_mend_14 : decode cX5_mend 14 = .ok (.iaload, 1) := by decide +kernel
theorem dX5_mend_15 : decode cX5_mend 15 = .ok (.istore_n 3, 1) := by decide +kernel
theorem dX5_mend_16 : decode cX5_mend 16 = .ok (.iload_n 3, 1) := by decide +kernel
theorem dX5_mend_17 : decode cX5_mend 17 = .ok (.ifCond .le 7, 3) := by decide +kernel
theorem dX5_mend_20 : decode cX5_mend 20 = .ok (.iconst 1, 1) := by decide +kernel
theorem dX5_mend_21 : decode cX5_mend 21 = .ok (.goto 4, 3) := by decide +kernel
theorem dX5_mend_24 : decode cX5_mend 24 = .ok (.iconst 0, 1) := by decide +kernel
theorem dX5_mend_25 : decode cX5_mend 25 = .ok (.istore 4, 2) := by decide +kernel
theorem dX5_mend_27 : decode cX5_mend 27 = .ok (.iload_n 3, 1) := by decide +kernel
theorem dX5_mend_28 : decode cX5_mend 28 = .ok (.iconst 1, 1) := by decide +kernel
theorem dX5_mend_29 : decode cX5_mend 29 = .ok (.iadd, 1) := by decide +kernel
theorem dX5_mend_30 : decode cX5_mend 30 = .ok (.aload_n 0, 1) := by decide +kernel
theorem dX5_mend_31 : decode cX5_mend 31 = .ok (.getfield 13, 3) := by decide +kernel
theorem dX5_mend_34 : decode cX5_mend 34 = .ok (.iload_n 2, 1) := by decide +kernel
theorem dX5_mend_35 : decode cX5_mend 35 = .ok (.iaload, 1) := by decide +kernel
theorem dX5_mend_36 : decode cX5_mend 36 = .ok (.if_icmp .ge 7, 3) := by decide +kernel
theorem dX5_mend_39 : decode cX5_mend 39 = .ok (.iconst 1, 1) := by decide +kernel
theorem dX5_mend_40 : decode cX5_mend 40 = .ok (.goto 4, 3) := by decide +kernel
theorem dX5_mend_43 : decode cX5_mend 43 = .ok (.iconst 0, 1) := by decide +kernel
theorem dX5_mend_44 : decode cX5_mend 44 = .ok (.istore 5, 2) := by decide +kernel
theorem dX5_mend_46 : decode cX5_mend 46 = .ok (.iload 4, 2) := by decide +kernel
theorem dX5_mend_48 : decode cX5_mend 48 = .ok (.ifCond .eq 45, 3) := by decide +kernel
theorem dX5_mend_51 : decode cX5_mend 51 = .ok (.aload_n 0, 1) := by decide +kernel
theorem dX5_mend_52 : decode cX5_mend 52 = .ok (.getfield 19, 3) := by decide +kernel
theorem dX5_mend_55 : decode cX5_mend 55 = .ok (.iconst 5, 1) := by decide +kernel
theorem dX5_mend_56 : decode cX5_mend 56 = .ok (.iload_n 2, 1) := by decide +kernel
theorem dX5_mend_57 : decode cX5_mend 57 = .ok (.imul, 1) := by decide +kernel
theorem dX5_mend_58 : decode cX5_mend 58 = .ok (.iload_n 3, 1) := by decide +kernel
theorem dX5_mend_59 : decode cX5_mend 59 = .ok (.iadd, 1) := by decide +kernel
theorem dX5_mend_60 : decode cX5_mend 60 = .ok (.iconst 1, 1) := by decide +kernel
theorem dX5_mend_61 : decode cX5_mend 61 = .ok (.isub, 1) := by decide +kernel
theorem dX5_mend_62 : decode cX5_mend 62 = .ok (.iaload, 1) := by decide +kernel
theorem dX5_mend_63 : decode cX5_mend 63 = .ok (.istore 6, 2) := by decide +kernel
theorem dX5_mend_65 : decode cX5_mend 65 = .ok (.aload_n 0, 1) := by decide +kernel
theorem dX5_mend_66 : decode cX5_mend 66 = .ok (.iload 6, 2) := by decide +kernel
theorem dX5_mend_68 : decode cX5_mend 68 = .ok (.iconst 0, 1) := by decide +kernel
theorem dX5_mend_69 : decode cX5_mend 69 = .ok (.invokevirtual 77, 3) := by decide +kernel
theorem dX5_mend_72 : decode cX5_mend 72 = .ok (.aload_n 0, 1) := by decide +kernel
theorem dX5_mend_73 : decode cX5_mend 73 = .ok (.getfield 13, 3) := by decide +kernel
theorem dX5_mend_76 : decode cX5_mend 76 = .ok (.iload 6, 2) := by decide +kernel
theorem dX5_mend_78 : decode cX5_mend 78 = .ok (.iaload, 1) := by decide +kernel
theorem dX5_mend_79 : decode cX5_mend 79 = .ok (.iconst 2, 1) := by decide +kernel
theorem dX5_mend_80 : decode cX5_mend 80 = .ok (.if_icmp .le 13, 3) := by decide +kernel
theorem dX5_mend_83 : decode cX5_mend 83 = .ok (.aload_n 0, 1) := by decide +kernel
theorem dX5_mend_84 : decode cX5_mend 84 = .ok (.iload_n 2, 1) := by decide +kernel
theorem dX5_mend_85 : decode cX5_mend 85 = .ok (.iload_n 3, 1) := by decide +kernel
theorem dX5_mend_86 : decode cX5_mend 86 = .ok (.iconst 1, 1) := by decide +kernel
theorem dX5_mend_87 : decode cX5_mend 87 = .ok (.isub, 1) := by decide +kernel
theorem dX5_mend_88 : decode cX5_mend 88 = .ok (.iconst 1, 1) := by decide +kernel
theorem dX5_mend_89 : decode cX5_mend 89 = .ok (.invokevirtual 131, 3) := by decide +kernel
theorem dX5_mend_92 : decode cX5_mend 92 = .ok (.return_, 1) := by decide +kernel
theorem dX5_mend_93 : decode cX5_mend 93 = .ok (.iload 5, 2) := by decide +kernel
theorem dX5_mend_95 : decode cX5_mend 95 = .ok (.ifCond .eq 43, 3) := by decide +kernel
theorem dX5_mend_98 : decode cX5_mend 98 = .ok (.aload_n 0, 1) := by decide +kernel
theorem dX5_mend_99 : decode cX5_mend 99 = .ok (.getfield 19, 3) := by decide +kernel
theorem dX5_mend_102 : decode cX5_mend 102 = .ok (.iconst 5, 1) := by decide +kernel
theorem dX5_mend_103 : decode cX5_mend 103 = .ok (.iload_n 2, 1) := by decide +kernel
theorem dX5_mend_104 : decode cX5_mend 104 = .ok (.imul, 1) := by decide +kernel
theorem dX5_mend_105 : decode cX5_mend 105 = .ok (.iload_n 3, 1) := by decide +kernel
theorem dX5_mend_106 : decode cX5_mend 106 = .ok (.iadd, 1) := by decide +kernel
theorem dX5_mend_107 : decode cX5_mend 107 = .ok (.iconst 1, 1) := by decide +kernel
theorem dX5_mend_108 : decode cX5_mend 108 = .ok (.iadd, 1) := by decide +kernel
theorem dX5_mend_109 : decode cX5_mend 109 = .ok (.iaload, 1) := by decide +kernel
theorem dX5_mend_110 : decode cX5_mend 110 = .ok (.istore 6, 2) := by decide +kernel
theorem dX5_mend_112 : decode cX5_mend 112 = .ok (.aload_n 0, 1) := by decide +kernel
theorem dX5_mend_113 : decode cX5_mend 113 = .ok (.iload 6, 2) := by decide +kernel
theorem dX5_mend_115 : decode cX5_mend 115 = .ok (.iconst 0, 1) := by decide +kernel
theorem dX5_mend_116 : decode cX5_mend 116 = .ok (.invokevirtual 77, 3) := by decide +kernel
theorem dX5_mend_119 : decode cX5_mend 119 = .ok (.aload_n 0, 1) := by decide +kernel
theorem dX5_mend_120 : decode cX5_mend 120 = .ok (.getfield 13, 3) := by decide +kernel
theorem dX5_mend_123 : decode cX5_mend 123 = .ok (.iload 6, 2) := by decide +kernel
theorem dX5_mend_125 : decode cX5_mend 125 = .ok (.iaload, 1) := by decide +kernel
theorem dX5_mend_126 : decode cX5_mend 126 = .ok (.iconst 2, 1) := by decide +kernel
theorem dX5_mend_127 : decode cX5_mend 127 = .ok (.if_icmp .le 11, 3) := by decide +kernel
theorem dX5_mend_130 : decode cX5_mend 130 = .ok (.aload_n 0, 1) := by decide +kernel
theorem dX5_mend_131 : decode cX5_mend 131 = .ok (.iload_n 2, 1) := by decide +kernel
theorem dX5_mend_132 : decode cX5_mend 132 = .ok (.iload_n 3, 1) := by decide +kernel
theorem dX5_mend_133 : decode cX5_mend 133 = .ok (.iconst 0, 1) := by decide +kernel
theorem dX5_mend_134 : decode cX5_mend 134 = .ok (.invokevirtual 131, 3) := by decide +kernel
theorem dX5_mend_137 : decode cX5_mend 137 = .ok (.return_, 1) := by decide +kernel
theorem dX5_mend_138 : decode cX5_mend 138 = .ok (.aload_n 0, 1) := by decide +kernel
theorem dX5_mend_139 : decode cX5_mend 139 = .ok (.iload_n 2, 1) := by decide +kernel
theorem dX5_mend_140 : decode cX5_mend 140 = .ok (.iload 4, 2) := by decide +kernel
theorem dX5_mend_142 : decode cX5_mend 142 = .ok (.ifCond .eq 9, 3) := by decide +kernel
theorem dX5_mend_145 : decode cX5_mend 145 = .ok (.iload_n 3, 1) := by decide +kernel
theorem dX5_mend_146 : decode cX5_mend 146 = .ok (.iconst 1, 1) := by decide +kernel
theorem dX5_mend_147 : decode cX5_mend 147 = .ok (.isub, 1) := by decide +kernel
theorem dX5_mend_148 : decode cX5_mend 148 = .ok (.goto 4, 3) := by decide +kernel
theorem dX5_mend_151 : decode cX5_mend 151 = .ok (.iload_n 3, 1) := by decide +kernel
theorem dX5_mend_152 : decode cX5_mend 152 = .ok (.invokevirtual 135, 3) := by decide +kernel
theorem dX5_mend_155 : decode cX5_mend 155 = .ok (.return_, 1) := by decide +kernel
theorem dX5_remove_0 : decode cX5_remove 0 = .ok (.aload_n 0, 1) := by decide +kernel
theorem dX5_remove_1 : decode cX5_remove 1 = .ok (.iconst 0, 1) := by decide +kernel
theorem dX5_remove_2 : decode cX5_remove 2 = .ok (.putfield 44, 3) := by decide +kernel
theorem dX5_remove_5 : decode cX5_remove 5 = .ok (.aload_n 0, 1) := by decide +kernel
theorem dX5_remove_6 : decode cX5_remove 6 = .ok (.iconst 0, 1) := by decide +kernel
theorem dX5_remove_7 : decode cX5_remove 7 = .ok (.putfield 108, 3) := by decide +kernel
theorem dX5_remove_10 : decode cX5_remove 10 = .ok (.aload_n 0, 1) := by decide +kernel
theorem dX5_remove_11 : decode cX5_remove 11 = .ok (.iload_n 1, 1) := by decide +kernel
theorem dX5_remove_12 : decode cX5_remove 12 = .ok (.invokevirtual 92, 3) := by decide +kernel
theorem dX5_remove_15 : decode cX5_remove 15 = .ok (.aload_n 0, 1) := by decide +kernel
theorem dX5_remove_16 : decode cX5_remove 16 = .ok (.invokevirtual 112, 3) := by decide +kernel
theorem dX5_remove_19 : decode cX5_remove 19 = .ok (.aload_n 0, 1) := by decide +kernel
theorem dX5_remove_20 : decode cX5_remove 20 = .ok (.iload_n 1, 1) := by decide +kernel
theorem dX5_remove_21 : decode cX5_remove 21 = .ok (.invokevirtual 95, 3) := by decide +kernel
theorem dX5_remove_24 : decode cX5_remove 24 = .ok (.istore_n 2, 1) := by decide +kernel
theorem dX5_remove_25 : decode cX5_remove 25 = .ok (.aload_n 0, 1) := by decide +kernel
theorem dX5_remove_26 : decode cX5_remove 26 = .ok (.iload_n 2, 1) := by decide +kernel
theorem dX5_remove_27 : decode cX5_remove 27 = .ok (.iload_n 1, 1) := by decide +kernel
theorem dX5_remove_28 : decode cX5_remove 28 = .ok (.invokevirtual 98, 3) := by decide +kernel
theorem dX5_remove_31 : decode cX5_remove 31 = .ok (.istore_n 3, 1) := by decide +kernel
theorem dX5_remove_32 : decode cX5_remove 32 = .ok (.iload_n 3, 1) := by decide +kernel
theorem dX5_remove_33 : decode cX5_remove 33 = .ok (.ifCond .eq 130, 3) := by decide +kernel
theorem dX5_remove_36 : decode cX5_remove 36 = .ok (.aload_n 0, 1) := by decide +kernel
theorem dX5_remove_37 : decode cX5_remove 37 = .ok (.aload_n 0, 1) := by decide +kernel
theorem dX5_remove_38 : decode cX5_remove 38 = .ok (.getfield 25, 3) := by decide +kernel
theorem dX5_remove_41 : decode cX5_remove 41 = .ok (.aload_n 0, 1) := by decide +kernel
theorem dX5_remove_42 : decode cX5_remove 42 = .ok (.getfield 74, 3) := by decide +kernel
theorem dX5_remove_45 : decode cX5_remove 45 = .ok (.iaload, 1) := by decide +kernel
theorem dX5_remove_46 : decode cX5_remove 46 = .ok (.iload_n 2, 1) := by decide +kernel
theorem dX5_remove_47 : decode cX5_remove 47 = .ok (.invokevirtual 124, 3) := by decide +kernel
theorem dX5_remove_50 : decode cX5_remove 50 = .ok (.aload_n 0, 1) := by decide +kernel
theorem dX5_remove_51 : decode cX5_remove 51 = .ok (.aload_n 0, 1) := by decide +kernel
theorem dX5_remove_52 : decode cX5_remove 52 = .ok (.getfield 25, 3) := by decide +kernel
theorem dX5_remove_55 : decode cX5_remove 55 = .ok (.aload_n 0, 1) := by decide +kernel
theorem dX5_remove_56 : decode cX5_remove 56 = .ok (.getfield 74, 3) := by decide +kernel
theorem dX5_remove_59 : decode cX5_remove 59 = .ok (.iaload, 1) := by decide +kernel
theorem dX5_remove_60 : decode cX5_remove 60 = .ok (.invokevirtual 88, 3) := by decide +kernel
theorem dX5_remove_63 : decode cX5_remove 63 = .ok (.aload_n 0, 1) := by decide +kernel
theorem dX5_remove_64 : decode cX5_remove 64 = .ok (.dup, 1) := by decide +kernel
theorem dX5_remove_65 : decode cX5_remove 65 = .ok (.getfield 115, 3) := by decide +kernel
theorem dX5_remove_68 : decode cX5_remove 68 = .ok (.iconst 1, 1) := by decide +kernel
theorem dX5_remove_69 : decode cX5_remove 69 = .ok (.isub, 1) := by decide +kernel
theorem dX5_remove_70 : decode cX5_remove 70 = .ok (.putfield 115, 3) := by decide +kernel
theorem dX5_remove_73 : decode cX5_remove 73 = .ok (.aload_n 0, 1) := by decide +kernel
theorem dX5_remove_74 : decode cX5_remove 74 = .ok (.getfield 74, 3) := by decide +kernel
theorem dX5_remove_77 : decode cX5_remove 77 = .ok (.istore 4, 2) := by decide +kernel
theorem dX5_remove_79 : decode cX5_remove 79 = .ok (.iload 4, 2) := by decide +kernel
theorem dX5_remove_81 : decode cX5_remove 81 = .ok (.ifCond .le 31, 3) := by decide +kernel
theorem dX5_remove_84 : decode cX5_remove 84 = .ok (.aload_n 0, 1) := by decide +kernel
theorem dX5_remove_85 : decode cX5_remove 85 = .ok (.getfield 13, 3) := by decide +kernel
theorem dX5_remove_88 : decode cX5_remove 88 = .ok (.aload_n 0, 1) := by decide +kernel
theorem dX5_remove_89 : decode cX5_remove 89 = .ok (.getfield 25, 3) := by decide +kernel
theorem dX5_remove_92 : decode cX5_remove 92 = .ok (.iload 4, 2) := by decide +kernel
theorem dX5_remove_94 : decode cX5_remove 94 = .ok (.iaload, 1) := by decide +kernel
theorem dX5_remove_95 : decode cX5_remove 95 = .ok (.iaload, 1) := by decide +kernel
theorem dX5_remove_96 : decode cX5_remove 96 = .ok (.iconst 2, 1) := by decide +kernel
theorem dX5_remove_97 : decode cX5_remove 97 = .ok (.if_icmp .ge 15, 3) := by decide +kernel
theorem dX5_remove_100 : decode cX5_remove 100 = .ok (.aload_n 0, 1) := by decide +kernel
theorem dX5_remove_101 : decode cX5_remove 101 = .ok (.iload 4, 2) := by decide +kernel
theorem dX5_remove_103 : decode cX5_remove 103 = .ok (.invokevirtual 138, 3) := by decide +kernel
theorem dX5_remove_106 : decode cX5_remove 106 = .ok (.iinc 4 (-1), 3) := by decide +kernel
theorem dX5_remove_109 : decode cX5_remove 109 = .ok (.goto (-30), 3) := by decide +kernel
theorem dX5_remove_112 : decode cX5_remove 112 = .ok (.aload_n 0, 1) := by decide +kernel
theorem dX5_remove_113 : decode cX5_remove 113 = .ok (.getfield 7, 3) := by decide +kernel
theorem dX5_remove_116 : decode cX5_remove 116 = .ok (.aload_n 0, 1) := by decide +kernel
theorem dX5_remove_117 : decode cX5_remove 117 = .ok (.getfield 71, 3) := by decide +kernel
theorem dX5_remove_120 : decode cX5_remove 120 = .ok (.iaload, 1) := by decide +kernel
theorem dX5_remove_121 : decode cX5_remove 121 = .ok (.iconst 2, 1) := by decide +kernel
theorem dX5_remove_122 : decode cX5_remove 122 = .ok (.if_icmp .ne 41, 3) := by decide +kernel
theorem dX5_remove_125 : decode cX5_remove 125 = .ok (.aload_n 0, 1) := by decide +kernel
theorem dX5_remove_126 : decode cX5_remove 126 = .ok (.getfield 13, 3) := by decide +kernel
theorem dX5_remove_129 : decode cX5_remove 129 = .ok (.aload_n 0, 1) := by decide +kernel
theorem dX5_remove_130 : decode cX5_remove 130 = .ok (.getfield 71, 3) := by decide +kernel
theorem dX5_remove_133 : decode cX5_remove 133 = .ok (.iaload, 1) := by decide +kernel
theorem dX5_remove_134 : decode cX5_remove 134 = .ok (.iconst 1, 1) := by decide +kernel
theorem dX5_remove_135 : decode cX5_remove 135 = .ok (.if_icmp .ne 28, 3) := by decide +kernel
theorem dX5_remove_138 : decode cX5_remove 138 = .ok (.aload_n 0, 1) := by decide +kernel
theorem dX5_remove_139 : decode cX5_remove 139 = .ok (.getfield 71, 3) := by decide +kernel
theorem dX5_remove_142 : decode cX5_remove 142 = .ok (.istore 4, 2) := by decide +kernel
theorem dX5_remove_144 : decode cX5_remove 144 = .ok (.aload_n 0, 1) := by decide +kernel
theorem dX5_remove_145 : decode cX5_remove 145 = .ok (.aload_n 0, 1) := by decide +kernel
theorem dX5_remove_146 : decode cX5_remove 146 = .ok (.getfield 19, 3) := by decide +kernel
theorem dX5_remove_149 : decode cX5_remove 149 = .ok (.iconst 5, 1) := by decide +kernel
theorem dX5_remove_150 : decode cX5_remove 150 = .ok (.iload 4, 2) := by decide +kernel
theorem dX5_remove_152 : decode cX5_remove 152 = .ok (.imul, 1) := by decide +kernel
theorem dX5_remove_153 : decode cX5_remove 153 = .ok (.iaload, 1) := by decide +kernel
theorem dX5_remove_154 : decode cX5_remove 154 = .ok (.putfield 71, 3) := by decide +kernel
theorem dX5_remove_157 : decode cX5_remove 157 = .ok (.aload_n 0, 1) := by decide +kernel
theorem dX5_remove_158 : decode cX5_remove 158 = .ok (.iload 4, 2) := by decide +kernel
theorem dX5_remove_160 : decode cX5_remove 160 = .ok (.invokevirtual 128, 3) := by decide +kernel
theorem dX5_remove_163 : decode cX5_remove 163 = .ok (.aload_n 0, 1) := by decide +kernel
theorem dX5_remove_164 : decode cX5_remove 164 = .ok (.invokevirtual 121, 3) := by decide +kernel
theorem dX5_remove_167 : decode cX5_remove 167 = .ok (.iload_n 3, 1) := by decide +kernel
theorem dX5_remove_168 : decode cX5_remove 168 = .ok (.ireturn, 1) := by decide +kernel
theorem dX5_arrive_0 : decode cX5_arrive 0 = .ok (.iload_n 1, 1) := by decide +kernel
theorem dX5_arrive_1 : decode cX5_arrive 1 = .ok (.istore_n 3, 1) := by decide +kernel
theorem dX5_arrive_2 : decode cX5_arrive 2 = .ok (.iload_n 2, 1) := by decide +kernel
theorem dX5_arrive_3 : decode cX5_arrive 3 = .ok (.istore 4, 2) := by decide +kernel
theorem dX5_arrive_5 : decode cX5_arrive 5 = .ok (.iload 4, 2) := by decide +kernel
theorem dX5_arrive_7 : decode cX5_arrive 7 = .ok (.aload_n 0, 1) := by decide +kernel
theorem dX5_arrive_8 : decode cX5_arrive 8 = .ok (.getfield 13, 3) := by decide +kernel
theorem dX5_arrive_11 : decode cX5_arrive 11 = .ok (.iload_n 3, 1) := by decide +kernel
theorem dX5_arrive_12 : decode cX5_arrive 12 = .ok (.iaload, 1) := by decide +kernel
theorem dX5_arrive_13 : decode cX5_arrive 13 = .ok (.if_icmp .lt 24, 3) := by decide +kernel
theorem dX5_arrive_16 : decode cX5_arrive 16 = .ok (.aload_n 0, 1) := by decide +kernel
theorem dX5_arrive_17 : decode cX5_arrive 17 = .ok (.getfield 22, 3) := by decide +kernel
theorem dX5_arrive_20 : decode cX5_arrive 20 = .ok (.iload_n 3, 1) := by decide +kernel
theorem dX5_arrive_21 : decode cX5_arrive 21 = .ok (.iaload, 1) := by decide +kernel
theorem dX5_arrive_22 : decode cX5_arrive 22 = .ok (.istore_n 3, 1) := by decide +kernel
theorem dX5_arrive_23 : decode cX5_arrive 23 = .ok (.iconst 0, 1) := by decide +kernel
theorem dX5_arrive_24 : decode cX5_arrive 24 = .ok (.istore 4, 2) := by decide +kernel
theorem dX5_arrive_26 : decode cX5_arrive 26 = .ok (.iload_n 3, 1) := by decide +kernel
theorem dX5_arrive_27 : decode cX5_arrive 27 = .ok (.iconst (-1), 1) := by decide +kernel
theorem dX5_arrive_28 : decode cX5_arrive 28 = .ok (.if_icmp .eq 9, 3) := by decide +kernel
theorem dX5_arrive_31 : decode cX5_arrive 31 = .ok (.aload_n 0, 1) := by decide +kernel
theorem dX5_arrive_32 : decode cX5_arrive 32 = .ok (.iload_n 3, 1) := by decide +kernel
theorem dX5_arrive_33 : decode cX5_arrive 33 = .ok (.iconst 0, 1) := by decide +kernel
theorem dX5_arrive_34 : decode cX5_arrive 34 = .ok (.invokevirtual 77, 3) := by decide +kernel
theorem dX5_arrive_37 : decode cX5_arrive 37 = .ok (.aload_n 0, 1) := by decide +kernel
theorem dX5_arrive_38 : decode cX5_arrive 38 = .ok (.invokevirtual 121, 3) := by decide +kernel
theorem dX5_arrive_41 : decode cX5_arrive 41 = .ok (.aload_n 0, 1) := by decide +kernel
theorem dX5_arrive_42 : decode cX5_arrive 42 = .ok (.iload_n 3, 1) := by decide +kernel
theorem dX5_arrive_43 : decode cX5_arrive 43 = .ok (.iconst (-1), 1) := by decide +kernel
theorem dX5_arrive_44 : decode cX5_arrive 44 = .ok (.if_icmp .eq 18, 3) := by decide +kernel
theorem dX5_arrive_47 : decode cX5_arrive 47 = .ok (.iload 4, 2) := by decide +kernel
theorem dX5_arrive_49 : decode cX5_arrive 49 = .ok (.aload_n 0, 1) := by decide +kernel
theorem dX5_arrive_50 : decode cX5_arrive 50 = .ok (.getfield 13, 3) := by decide +kernel
theorem dX5_arrive_53 : decode cX5_arrive 53 = .ok (.iload_n 3, 1) := by decide +kernel
theorem dX5_arrive_54 : decode cX5_arrive 54 = .ok (.iaload, 1) := by decide +kernel
theorem dX5_arrive_55 : decode cX5_arrive 55 = .ok (.if_icmp .ge 7, 3) := by decide +kernel
theorem dX5_arrive_58 : decode cX5_arrive 58 = .ok (.iconst 1, 1) := by decide +kernel
theorem dX5_arrive_59 : decode cX5_arrive 59 = .ok (.goto 4, 3) := by decide +kernel
theorem dX5_arrive_62 : decode cX5_arrive 62 = .ok (.iconst 0, 1) := by decide +kernel
theorem dX5_arrive_63 : decode cX5_arrive 63 = .ok (.putfield 108, 3) := by decide +kernel
theorem dX5_arrive_66 : decode cX5_arrive 66 = .ok (.aload_n 0, 1) := by decide +kernel
theorem dX5_arrive_67 : decode cX5_arrive 67 = .ok (.getfield 108, 3) := by decide +kernel
theorem dX5_arrive_70 : decode cX5_arrive 70 = .ok (.ifCond .eq 44, 3) := by decide +kernel
theorem dX5_arrive_73 : decode cX5_arrive 73 = .ok (.aload_n 0, 1) := by decide +kernel
theorem dX5_arrive_74 : decode cX5_arrive 74 = .ok (.iload_n 3, 1) := by decide +kernel
theorem dX5_arrive_75 : decode cX5_arrive 75 = .ok (.putfield 141, 3) := by decide +kernel
theorem dX5_arrive_78 : decode cX5_arrive 78 = .ok (.aload_n 0, 1) := by decide +kernel
theorem dX5_arrive_79 : decode cX5_arrive 79 = .ok (.iload 4, 2) := by decide +kernel
theorem dX5_arrive_81 : decode cX5_arrive 81 = .ok (.putfield 144, 3) := by decide +kernel
theorem dX5_arrive_84 : decode cX5_arrive 84 = .ok (.aload_n 0, 1) := by decide +kernel
theorem dX5_arrive_85 : decode cX5_arrive 85 = .ok (.aload_n 0, 1) := by decide +kernel
theorem dX5_arrive_86 : decode cX5_arrive 86 = .ok (.getfield 16, 3) := by decide +kernel
theorem dX5_arrive_89 : decode cX5_arrive 89 = .ok (.iconst 5, 1) := by decide +kernel
theorem dX5_arrive_90 : decode cX5_arrive 90 = .ok (.iload_n 3, 1) := by decide +kernel
theorem dX5_arrive_91 : decode cX5_arrive 91 = .ok (.imul, 1) := by decide +kernel
end
section
theorem dX5_arrive_92 : decode cX5_arrive 92 = .ok (.iload 4, 2) := by decide +kernel
theorem dX5_arrive_94 : decode cX5_arrive 94 = .ok (.iadd, 1) := by decide +kernel
theorem dX5_arrive_95 : decode cX5_arrive 95 = .ok (.iaload, 1) := by decide +kernel
theorem dX5_arrive_96 : decode cX5_arrive 96 = .ok (.putfield 147, 3) := by decide +kernel
theorem dX5_arrive_99 : decode cX5_arrive 99 = .ok (.aload_n 0, 1) := by decide +kernel
theorem dX5_arrive_100 : decode cX5_arrive 100 = .ok (.aload_n 0, 1) := by decide +kernel
theorem dX5_arrive_101 : decode cX5_arrive 101 = .ok (.getfield 19, 3) := by decide +kernel
theorem dX5_arrive_104 : decode cX5_arrive 104 = .ok (.iconst 5, 1) := by decide +kernel
theorem dX5_arrive_105 : decode cX5_arrive 105 = .ok (.iload_n 3, 1) := by decide +kernel
theorem dX5_arrive_106 : decode cX5_arrive 106 = .ok (.imul, 1) := by decide +kernel
theorem dX5_arrive_107 : decode cX5_arrive 107 = .ok (.iload 4, 2) := by decide +kernel
theorem dX5_arrive_109 : decode cX5_arrive 109 = .ok (.iadd, 1) := by decide +kernel
theorem dX5_arrive_110 : decode cX5_arrive 110 = .ok (.iaload, 1) := by decide +kernel
theorem dX5_arrive_111 : decode cX5_arrive 111 = .ok (.putfield 150, 3) := by decide +kernel
theorem dX5_arrive_114 : decode cX5_arrive 114 = .ok (.aload_n 0, 1) := by decide +kernel
theorem dX5_arrive_115 : decode cX5_arrive 115 = .ok (.getfield 108, 3) := by decide +kernel
theorem dX5_arrive_118 : decode cX5_arrive 118 = .ok (.ireturn, 1) := by decide +kernel
theorem dX5_seek_0 : decode cX5_seek 0 = .ok (.aload_n 0, 1) := by decide +kernel
theorem dX5_seek_1 : decode cX5_seek 1 = .ok (.iconst 0, 1) := by decide +kernel
theorem dX5_seek_2 : decode cX5_seek 2 = .ok (.putfield 44, 3) := by decide +kernel
theorem dX5_seek_5 : decode cX5_seek 5 = .ok (.aload_n 0, 1) := by decide +kernel
theorem dX5_seek_6 : decode cX5_seek 6 = .ok (.iload_n 1, 1) := by decide +kernel
theorem dX5_seek_7 : decode cX5_seek 7 = .ok (.invokevirtual 92, 3) := by decide +kernel
theorem dX5_seek_10 : decode cX5_seek 10 = .ok (.aload_n 0, 1) := by decide +kernel
theorem dX5_seek_11 : decode cX5_seek 11 = .ok (.invokevirtual 112, 3) := by decide +kernel
theorem dX5_seek_14 : decode cX5_seek 14 = .ok (.aload_n 0, 1) := by decide +kernel
theorem dX5_seek_15 : decode cX5_seek 15 = .ok (.aload_n 0, 1) := by decide +kernel
theorem dX5_seek_16 : decode cX5_seek 16 = .ok (.getfield 25, 3) := by decide +kernel
theorem dX5_seek_19 : decode cX5_seek 19 = .ok (.aload_n 0, 1) := by decide +kernel
theorem dX5_seek_20 : decode cX5_seek 20 = .ok (.getfield 74, 3) := by decide +kernel
theorem dX5_seek_23 : decode cX5_seek 23 = .ok (.iaload, 1) := by decide +kernel
theorem dX5_seek_24 : decode cX5_seek 24 = .ok (.aload_n 0, 1) := by decide +kernel
theorem dX5_seek_25 : decode cX5_seek 25 = .ok (.iload_n 1, 1) := by decide +kernel
theorem dX5_seek_26 : decode cX5_seek 26 = .ok (.invokevirtual 95, 3) := by decide +kernel
theorem dX5_seek_29 : decode cX5_seek 29 = .ok (.invokevirtual 153, 3) := by decide +kernel
theorem dX5_seek_32 : decode cX5_seek 32 = .ok (.ireturn, 1) := by decide +kernel
theorem dX5_next_0 : decode cX5_next 0 = .ok (.aload_n 0, 1) := by decide +kernel
theorem dX5_next_1 : decode cX5_next 1 = .ok (.aload_n 0, 1) := by decide +kernel
theorem dX5_next_2 : decode cX5_next 2 = .ok (.getfield 108, 3) := by decide +kernel
theorem dX5_next_5 : decode cX5_next 5 = .ok (.ifCond .eq 7, 3) := by decide +kernel
theorem dX5_next_8 : decode cX5_next 8 = .ok (.iconst 0, 1) := by decide +kernel
theorem dX5_next_9 : decode cX5_next 9 = .ok (.goto 4, 3) := by decide +kernel
theorem dX5_next_12 : decode cX5_next 12 = .ok (.iconst 1, 1) := by decide +kernel
theorem dX5_next_13 : decode cX5_next 13 = .ok (.putfield 44, 3) := by decide +kernel
theorem dX5_next_16 : decode cX5_next 16 = .ok (.aload_n 0, 1) := by decide +kernel
theorem dX5_next_17 : decode cX5_next 17 = .ok (.getfield 44, 3) := by decide +kernel
theorem dX5_next_20 : decode cX5_next 20 = .ok (.ifCond .le 5, 3) := by decide +kernel
theorem dX5_next_23 : decode cX5_next 23 = .ok (.iconst 0, 1) := by decide +kernel
theorem dX5_next_24 : decode cX5_next 24 = .ok (.ireturn, 1) := by decide +kernel
theorem dX5_next_25 : decode cX5_next 25 = .ok (.aload_n 0, 1) := by decide +kernel
theorem dX5_next_26 : decode cX5_next 26 = .ok (.aload_n 0, 1) := by decide +kernel
theorem dX5_next_27 : decode cX5_next 27 = .ok (.getfield 141, 3) := by decide +kernel
theorem dX5_next_30 : decode cX5_next 30 = .ok (.iconst 0, 1) := by decide +kernel
theorem dX5_next_31 : decode cX5_next 31 = .ok (.invokevirtual 77, 3) := by decide +kernel
theorem dX5_next_34 : decode cX5_next 34 = .ok (.aload_n 0, 1) := by decide +kernel
theorem dX5_next_35 : decode cX5_next 35 = .ok (.aload_n 0, 1) := by decide +kernel
theorem dX5_next_36 : decode cX5_next 36 = .ok (.getfield 141, 3) := by decide +kernel
theorem dX5_next_39 : decode cX5_next 39 = .ok (.aload_n 0, 1) := by decide +kernel
theorem dX5_next_40 : decode cX5_next 40 = .ok (.getfield 144, 3) := by decide +kernel
theorem dX5_next_43 : decode cX5_next 43 = .ok (.iconst 1, 1) := by decide +kernel
theorem dX5_next_44 : decode cX5_next 44 = .ok (.iadd, 1) := by decide +kernel
theorem dX5_next_45 : decode cX5_next 45 = .ok (.invokevirtual 153, 3) := by decide +kernel
theorem dX5_next_48 : decode cX5_next 48 = .ok (.ireturn, 1) := by decide +kernel
theorem dX5_cursor_0 : decode cX5_cursor 0 = .ok (.aload_n 0, 1) := by decide +kernel
theorem dX5_cursor_1 : decode cX5_cursor 1 = .ok (.aload_n 0, 1) := by decide +kernel
theorem dX5_cursor_2 : decode cX5_cursor 2 = .ok (.getfield 108, 3) := by decide +kernel
theorem dX5_cursor_5 : decode cX5_cursor 5 = .ok (.ifCond .eq 7, 3) := by decide +kernel
theorem dX5_cursor_8 : decode cX5_cursor 8 = .ok (.iconst 0, 1) := by decide +kernel
theorem dX5_cursor_9 : decode cX5_cursor 9 = .ok (.goto 4, 3) := by decide +kernel
theorem dX5_cursor_12 : decode cX5_cursor 12 = .ok (.iconst 1, 1) := by decide +kernel
theorem dX5_cursor_13 : decode cX5_cursor 13 = .ok (.putfield 44, 3) := by decide +kernel
theorem dX5_cursor_16 : decode cX5_cursor 16 = .ok (.aload_n 0, 1) := by decide +kernel
theorem dX5_cursor_17 : decode cX5_cursor 17 = .ok (.getfield 44, 3) := by decide +kernel
theorem dX5_cursor_20 : decode cX5_cursor 20 = .ok (.ifCond .le 7, 3) := by decide +kernel
theorem dX5_cursor_23 : decode cX5_cursor 23 = .ok (.iconst 0, 1) := by decide +kernel
theorem dX5_cursor_24 : decode cX5_cursor 24 = .ok (.goto 18, 3) := by decide +kernel
theorem dX5_cursor_27 : decode cX5_cursor 27 = .ok (.iload_n 1, 1) := by decide +kernel
theorem dX5_cursor_28 : decode cX5_cursor 28 = .ok (.ifCond .eq 10, 3) := by decide +kernel
theorem dX5_cursor_31 : decode cX5_cursor 31 = .ok (.aload_n 0, 1) := by decide +kernel
theorem dX5_cursor_32 : decode cX5_cursor 32 = .ok (.getfield 150, 3) := by decide +kernel
theorem dX5_cursor_35 : decode cX5_cursor 35 = .ok (.goto 7, 3) := by decide +kernel
theorem dX5_cursor_38 : decode cX5_cursor 38 = .ok (.aload_n 0, 1) := by decide +kernel
theorem dX5_cursor_39 : decode cX5_cursor 39 = .ok (.getfield 147, 3) := by decide +kernel
theorem dX5_cursor_42 : decode cX5_cursor 42 = .ok (.ireturn, 1) := by decide +kernel
theorem dX5_flush_0 : decode cX5_flush 0 = .ok (.aload_n 0, 1) := by decide +kernel
theorem dX5_flush_1 : decode cX5_flush 1 = .ok (.iconst 0, 1) := by decide +kernel
theorem dX5_flush_2 : decode cX5_flush 2 = .ok (.putfield 44, 3) := by decide +kernel
theorem dX5_flush_5 : decode cX5_flush 5 = .ok (.iconst 0, 1) := by decide +kernel
theorem dX5_flush_6 : decode cX5_flush 6 = .ok (.istore_n 1, 1) := by decide +kernel
theorem dX5_flush_7 : decode cX5_flush 7 = .ok (.iconst 0, 1) := by decide +kernel
theorem dX5_flush_8 : decode cX5_flush 8 = .ok (.istore_n 2, 1) := by decide +kernel
theorem dX5_flush_9 : decode cX5_flush 9 = .ok (.iload_n 2, 1) := by decide +kernel
theorem dX5_flush_10 : decode cX5_flush 10 = .ok (.bipush 12, 2) := by decide +kernel
theorem dX5_flush_12 : decode cX5_flush 12 = .ok (.if_icmp .ge 33, 3) := by decide +kernel
theorem dX5_flush_15 : decode cX5_flush 15 = .ok (.aload_n 0, 1) := by decide +kernel
theorem dX5_flush_16 : decode cX5_flush 16 = .ok (.getfield 38, 3) := by decide +kernel
theorem dX5_flush_19 : decode cX5_flush 19 = .ok (.iload_n 2, 1) := by decide +kernel
theorem dX5_flush_20 : decode cX5_flush 20 = .ok (.baload, 1) := by decide +kernel
theorem dX5_flush_21 : decode cX5_flush 21 = .ok (.ifCond .eq 9, 3) := by decide +kernel
theorem dX5_flush_24 : decode cX5_flush 24 = .ok (.iload_n 1, 1) := by decide +kernel
theorem dX5_flush_25 : decode cX5_flush 25 = .ok (.iconst 1, 1) := by decide +kernel
theorem dX5_flush_26 : decode cX5_flush 26 = .ok (.iadd, 1) := by decide +kernel
theorem dX5_flush_27 : decode cX5_flush 27 = .ok (.goto 4, 3) := by decide +kernel
theorem dX5_flush_30 : decode cX5_flush 30 = .ok (.iload_n 1, 1) := by decide +kernel
theorem dX5_flush_31 : decode cX5_flush 31 = .ok (.istore_n 1, 1) := by decide +kernel
theorem dX5_flush_32 : decode cX5_flush 32 = .ok (.aload_n 0, 1) := by decide +kernel
theorem dX5_flush_33 : decode cX5_flush 33 = .ok (.getfield 38, 3) := by decide +kernel
theorem dX5_flush_36 : decode cX5_flush 36 = .ok (.iload_n 2, 1) := by decide +kernel
theorem dX5_flush_37 : decode cX5_flush 37 = .ok (.iconst 0, 1) := by decide +kernel
theorem dX5_flush_38 : decode cX5_flush 38 = .ok (.bastore, 1) := by decide +kernel
theorem dX5_flush_39 : decode cX5_flush 39 = .ok (.iinc 2 1, 3) := by decide +kernel
theorem dX5_flush_42 : decode cX5_flush 42 = .ok (.goto (-33), 3) := by decide +kernel
theorem dX5_flush_45 : decode cX5_flush 45 = .ok (.aload_n 0, 1) := by decide +kernel
theorem dX5_flush_46 : decode cX5_flush 46 = .ok (.dup, 1) := by decide +kernel
theorem dX5_flush_47 : decode cX5_flush 47 = .ok (.getfield 54, 3) := by decide +kernel
theorem dX5_flush_50 : decode cX5_flush 50 = .ok (.iload_n 1, 1) := by decide +kernel
theorem dX5_flush_51 : decode cX5_flush 51 = .ok (.iadd, 1) := by decide +kernel
theorem dX5_flush_52 : decode cX5_flush 52 = .ok (.putfield 54, 3) := by decide +kernel
theorem dX5_flush_55 : decode cX5_flush 55 = .ok (.iload_n 1, 1) := by decide +kernel
theorem dX5_flush_56 : decode cX5_flush 56 = .ok (.ireturn, 1) := by decide +kernel
theorem dX5_drop_0 : decode cX5_drop 0 = .ok (.aload_n 0, 1) := by decide +kernel
theorem dX5_drop_1 : decode cX5_drop 1 = .ok (.iconst 0, 1) := by decide +kernel
theorem dX5_drop_2 : decode cX5_drop 2 = .ok (.putfield 44, 3) := by decide +kernel
theorem dX5_drop_5 : decode cX5_drop 5 = .ok (.iconst 0, 1) := by decide +kernel
theorem dX5_drop_6 : decode cX5_drop 6 = .ok (.istore_n 1, 1) := by decide +kernel
theorem dX5_drop_7 : decode cX5_drop 7 = .ok (.iconst 0, 1) := by decide +kernel
theorem dX5_drop_8 : decode cX5_drop 8 = .ok (.istore_n 2, 1) := by decide +kernel
theorem dX5_drop_9 : decode cX5_drop 9 = .ok (.iload_n 2, 1) := by decide +kernel
theorem dX5_drop_10 : decode cX5_drop 10 = .ok (.bipush 12, 2) := by decide +kernel
theorem dX5_drop_12 : decode cX5_drop 12 = .ok (.if_icmp .ge 48, 3) := by decide +kernel
theorem dX5_drop_15 : decode cX5_drop 15 = .ok (.aload_n 0, 1) := by decide +kernel
theorem dX5_drop_16 : decode cX5_drop 16 = .ok (.aload_n 0, 1) := by decide +kernel
theorem dX5_drop_17 : decode cX5_drop 17 = .ok (.getfield 38, 3) := by decide +kernel
theorem dX5_drop_20 : decode cX5_drop 20 = .ok (.iload_n 2, 1) := by decide +kernel
theorem dX5_drop_21 : decode cX5_drop 21 = .ok (.baload, 1) := by decide +kernel
theorem dX5_drop_22 : decode cX5_drop 22 = .ok (.ifCond .eq 7, 3) := by decide +kernel
theorem dX5_drop_25 : decode cX5_drop 25 = .ok (.iconst 1, 1) := by decide +kernel
theorem dX5_drop_26 : decode cX5_drop 26 = .ok (.goto 7, 3) := by decide +kernel
theorem dX5_drop_29 : decode cX5_drop 29 = .ok (.aload_n 0, 1) := by decide +kernel
theorem dX5_drop_30 : decode cX5_drop 30 = .ok (.getfield 44, 3) := by decide +kernel
theorem dX5_drop_33 : decode cX5_drop 33 = .ok (.putfield 44, 3) := by decide +kernel
theorem dX5_drop_36 : decode cX5_drop 36 = .ok (.aload_n 0, 1) := by decide +kernel
theorem dX5_drop_37 : decode cX5_drop 37 = .ok (.getfield 31, 3) := by decide +kernel
theorem dX5_drop_40 : decode cX5_drop 40 = .ok (.iload_n 2, 1) := by decide +kernel
theorem dX5_drop_41 : decode cX5_drop 41 = .ok (.iaload, 1) := by decide +kernel
theorem dX5_drop_42 : decode cX5_drop 42 = .ok (.iconst (-1), 1) := by decide +kernel
theorem dX5_drop_43 : decode cX5_drop 43 = .ok (.if_icmp .eq 9, 3) := by decide +kernel
theorem dX5_drop_46 : decode cX5_drop 46 = .ok (.iload_n 1, 1) := by decide +kernel
theorem dX5_drop_47 : decode cX5_drop 47 = .ok (.iconst 1, 1) := by decide +kernel
theorem dX5_drop_48 : decode cX5_drop 48 = .ok (.iadd, 1) := by decide +kernel
theorem dX5_drop_49 : decode cX5_drop 49 = .ok (.goto 4, 3) := by decide +kernel
theorem dX5_drop_52 : decode cX5_drop 52 = .ok (.iload_n 1, 1) := by decide +kernel
theorem dX5_drop_53 : decode cX5_drop 53 = .ok (.istore_n 1, 1) := by decide +kernel
theorem dX5_drop_54 : decode cX5_drop 54 = .ok (.iinc 2 1, 3) := by decide +kernel
theorem dX5_drop_57 : decode cX5_drop 57 = .ok (.goto (-48), 3) := by decide +kernel
theorem dX5_drop_60 : decode cX5_drop 60 = .ok (.aload_n 0, 1) := by decide +kernel
theorem dX5_drop_61 : decode cX5_drop 61 = .ok (.getfield 44, 3) := by decide +kernel
theorem dX5_drop_64 : decode cX5_drop 64 = .ok (.ifCond .le 5, 3) := by decide +kernel
theorem dX5_drop_67 : decode cX5_drop 67 = .ok (.iconst 0, 1) := by decide +kernel
theorem dX5_drop_68 : decode cX5_drop 68 = .ok (.ireturn, 1) := by decide +kernel
theorem dX5_drop_69 : decode cX5_drop 69 = .ok (.iconst 0, 1) := by decide +kernel
theorem dX5_drop_70 : decode cX5_drop 70 = .ok (.istore_n 2, 1) := by decide +kernel
theorem dX5_drop_71 : decode cX5_drop 71 = .ok (.iload_n 2, 1) := by decide +kernel
theorem dX5_drop_72 : decode cX5_drop 72 = .ok (.bipush 12, 2) := by decide +kernel
theorem dX5_drop_74 : decode cX5_drop 74 = .ok (.if_icmp .ge 23, 3) := by decide +kernel
theorem dX5_drop_77 : decode cX5_drop 77 = .ok (.aload_n 0, 1) := by decide +kernel
theorem dX5_drop_78 : decode cX5_drop 78 = .ok (.getfield 31, 3) := by decide +kernel
theorem dX5_drop_81 : decode cX5_drop 81 = .ok (.iload_n 2, 1) := by decide +kernel
theorem dX5_drop_82 : decode cX5_drop 82 = .ok (.iconst (-1), 1) := by decide +kernel
theorem dX5_drop_83 : decode cX5_drop 83 = .ok (.iastore, 1) := by decide +kernel
theorem dX5_drop_84 : decode cX5_drop 84 = .ok (.aload_n 0, 1) := by decide +kernel
theorem dX5_drop_85 : decode cX5_drop 85 = .ok (.getfield 34, 3) := by decide +kernel
theorem dX5_drop_88 : decode cX5_drop 88 = .ok (.iload_n 2, 1) := by decide +kernel
theorem dX5_drop_89 : decode cX5_drop 89 = .ok (.iconst 0, 1) := by decide +kernel
theorem dX5_drop_90 : decode cX5_drop 90 = .ok (.bastore, 1) := by decide +kernel
theorem dX5_drop_91 : decode cX5_drop 91 = .ok (.iinc 2 1, 3) := by decide +kernel
theorem dX5_drop_94 : decode cX5_drop 94 = .ok (.goto (-23), 3) := by decide +kernel
theorem dX5_drop_97 : decode cX5_drop 97 = .ok (.aload_n 0, 1) := by decide +kernel
theorem dX5_drop_98 : decode cX5_drop 98 = .ok (.iconst 0, 1) := by decide +kernel
theorem dX5_drop_99 : decode cX5_drop 99 = .ok (.putfield 48, 3) := by decide +kernel
theorem dX5_drop_102 : decode cX5_drop 102 = .ok (.aload_n 0, 1) := by decide +kernel
theorem dX5_drop_103 : decode cX5_drop 103 = .ok (.iconst 0, 1) := by decide +kernel
theorem dX5_drop_104 : decode cX5_drop 104 = .ok (.putfield 108, 3) := by decide +kernel
theorem dX5_drop_107 : decode cX5_drop 107 = .ok (.iload_n 1, 1) := by decide +kernel
theorem dX5_drop_108 : decode cX5_drop 108 = .ok (.ireturn, 1) := by decide +kernel
theorem dX5_page_0 : decode cX5_page 0 = .ok (.aload_n 0, 1) := by decide +kernel
theorem dX5_page_1 : decode cX5_page 1 = .ok (.iload_n 1, 1) := by decide +kernel
theorem dX5_page_2 : decode cX5_page 2 = .ok (.ifCond .lt 9, 3) := by decide +kernel
theorem dX5_page_5 : decode cX5_page 5 = .ok (.iload_n 1, 1) := by decide +kernel
theorem dX5_page_6 : decode cX5_page 6 = .ok (.bipush 40, 2) := by decide +kernel
theorem dX5_page_8 : decode cX5_page 8 = .ok (.if_icmp .lt 7, 3) := by decide +kernel
theorem dX5_page_11 : decode cX5_page 11 = .ok (.iconst 1, 1) := by decide +kernel
theorem dX5_page_12 : decode cX5_page 12 = .ok (.goto 17, 3) := by decide +kernel
theorem dX5_page_15 : decode cX5_page 15 = .ok (.iload_n 2, 1) := by decide +kernel
theorem dX5_page_16 : decode cX5_page 16 = .ok (.ifCond .lt 8, 3) := by decide +kernel
theorem dX5_page_19 : decode cX5_page 19 = .ok (.iload_n 2, 1) := by decide +kernel
theorem dX5_page_20 : decode cX5_page 20 = .ok (.iconst 2, 1) := by decide +kernel
theorem dX5_page_21 : decode cX5_page 21 = .ok (.if_icmp .le 7, 3) := by decide +kernel
theorem dX5_page_24 : decode cX5_page 24 = .ok (.iconst 2, 1) := by decide +kernel
theorem dX5_page_25 : decode cX5_page 25 = .ok (.goto 4, 3) := by decide +kernel
theorem dX5_page_28 : decode cX5_page 28 = .ok (.iconst 0, 1) := by decide +kernel
theorem dX5_page_29 : decode cX5_page 29 = .ok (.putfield 44, 3) := by decide +kernel
theorem dX5_page_32 : decode cX5_page 32 = .ok (.aload_n 0, 1) := by decide +kernel
theorem dX5_page_33 : decode cX5_page 33 = .ok (.getfield 44, 3) := by decide +kernel
theorem dX5_page_36 : decode cX5_page 36 = .ok (.ifCond .le 7, 3) := by decide +kernel
theorem dX5_page_39 : decode cX5_page 39 = .ok (.iconst 0, 1) := by decide +kernel
theorem dX5_page_40 : decode cX5_page 40 = .ok (.goto 36, 3) := by decide +kernel
theorem dX5_page_43 : decode cX5_page 43 = .ok (.iload_n 2, 1) := by decide +kernel
theorem dX5_page_44 : decode cX5_page 44 = .ok (.ifCond .ne 12, 3) := by decide +kernel
theorem dX5_page_47 : decode cX5_page 47 = .ok (.aload_n 0, 1) := by decide +kernel
theorem dX5_page_48 : decode cX5_page 48 = .ok (.getfield 7, 3) := by decide +kernel
theorem dX5_page_51 : decode cX5_page 51 = .ok (.iload_n 1, 1) := by decide +kernel
theorem dX5_page_52 : decode cX5_page 52 = .ok (.iaload, 1) := by decide +kernel
theorem dX5_page_53 : decode cX5_page 53 = .ok (.goto 23, 3) := by decide +kernel
theorem dX5_page_56 : decode cX5_page 56 = .ok (.iload_n 2, 1) := by decide +kernel
theorem dX5_page_57 : decode cX5_page 57 = .ok (.iconst 1, 1) := by decide +kernel
theorem dX5_page_58 : decode cX5_page 58 = .ok (.if_icmp .ne 12, 3) := by decide +kernel
theorem dX5_page_61 : decode cX5_page 61 = .ok (.aload_n 0, 1) := by decide +kernel
theorem dX5_page_62 : decode cX5_page 62 = .ok (.getfield 13, 3) := by decide +kernel
theorem dX5_page_65 : decode cX5_page 65 = .ok (.iload_n 1, 1) := by decide +kernel
theorem dX5_page_66 : decode cX5_page 66 = .ok (.iaload, 1) := by decide +kernel
theorem dX5_page_67 : decode cX5_page 67 = .ok (.goto 9, 3) := by decide +kernel
theorem dX5_page_70 : decode cX5_page 70 = .ok (.aload_n 0, 1) := by decide +kernel
theorem dX5_page_71 : decode cX5_page 71 = .ok (.getfield 22, 3) := by decide +kernel
theorem dX5_page_74 : decode cX5_page 74 = .ok (.iload_n 1, 1) := by decide +kernel
theorem dX5_page_75 : decode cX5_page 75 = .ok (.iaload, 1) := by decide +kernel
theorem dX5_page_76 : decode cX5_page 76 = .ok (.ireturn, 1) := by decide +kernel
theorem dX5_item_0 : decode cX5_item 0 = .ok (.aload_n 0, 1) := by decide +kernel
theorem dX5_item_1 : decode cX5_item 1 = .ok (.iload_n 1, 1) := by decide +kernel
theorem dX5_item_2 : decode cX5_item 2 = .ok (.ifCond .lt 23, 3) := by decide +kernel
theorem dX5_item_5 : decode cX5_item 5 = .ok (.iload_n 1, 1) := by decide +kernel
theorem dX5_item_6 : decode cX5_item 6 = .ok (.bipush 40, 2) := by decide +kernel
theorem dX5_item_8 : decode cX5_item 8 = .ok (.if_icmp .ge 17, 3) := by decide +kernel
theorem dX5_item_11 : decode cX5_item 11 = .ok (.iload_n 2, 1) := by decide +kernel
theorem dX5_item_12 : decode cX5_item 12 = .ok (.ifCond .lt 13, 3) := by decide +kernel
theorem dX5_item_15 : decode cX5_item 15 = .ok (.iload_n 2, 1) := by decide +kernel
theorem dX5_item_16 : decode cX5_item 16 = .ok (.aload_n 0, 1) := by decide +kernel
theorem dX5_item_17 : decode cX5_item 17 = .ok (.getfield 13, 3) := by decide +kernel
theorem dX5_item_20 : decode cX5_item 20 = .ok (.iload_n 1, 1) := by decide +kernel
theorem dX5_item_21 : decode cX5_item 21 = .ok (.iaload, 1) := by decide +kernel
theorem dX5_item_22 : decode cX5_item 22 = .ok (.if_icmp .lt 7, 3) := by decide +kernel
theorem dX5_item_25 : decode cX5_item 25 = .ok (.iconst 1, 1) := by decide +kernel
theorem dX5_item_26 : decode cX5_item 26 = .ok (.goto 4, 3) := by decide +kernel
theorem dX5_item_29 : decode cX5_item 29 = .ok (.iconst 0, 1) := by decide +kernel
theorem dX5_item_30 : decode cX5_item 30 = .ok (.putfield 44, 3) := by decide +kernel
theorem dX5_item_33 : decode cX5_item 33 = .ok (.aload_n 0, 1) := by decide +kernel
theorem dX5_item_34 : decode cX5_item 34 = .ok (.getfield 44, 3) := by decide +kernel
theorem dX5_item_37 : decode cX5_item 37 = .ok (.ifCond .le 7, 3) := by decide +kernel
theorem dX5_item_40 : decode cX5_item 40 = .ok (.iconst 0, 1) := by decide +kernel
theorem dX5_item_41 : decode cX5_item 41 = .ok (.goto 30, 3) := by decide +kernel
theorem dX5_item_44 : decode cX5_item 44 = .ok (.iload_n 3, 1) := by decide +kernel
theorem dX5_item_45 : decode cX5_item 45 = .ok (.ifCond .eq 16, 3) := by decide +kernel
theorem dX5_item_48 : decode cX5_item 48 = .ok (.aload_n 0, 1) := by decide +kernel
theorem dX5_item_49 : decode cX5_item 49 = .ok (.getfield 19, 3) := by decide +kernel
theorem dX5_item_52 : decode cX5_item 52 = .ok (.iconst 5, 1) := by decide +kernel
theorem dX5_item_53 : decode cX5_item 53 = .ok (.iload_n 1, 1) := by decide +kernel
theorem dX5_item_54 : decode cX5_item 54 = .ok (.imul, 1) := by decide +kernel
theorem dX5_item_55 : decode cX5_item 55 = .ok (.iload_n 2, 1) := by decide +kernel
theorem dX5_item_56 : decode cX5_item 56 = .ok (.iadd, 1) := by decide +kernel
theorem dX5_item_57 : decode cX5_item 57 = .ok (.iaload, 1) := by decide +kernel
theorem dX5_item_58 : decode cX5_item 58 = .ok (.goto 13, 3) := by decide +kernel
theorem dX5_item_61 : decode cX5_item 61 = .ok (.aload_n 0, 1) := by decide +kernel
theorem dX5_item_62 : decode cX5_item 62 = .ok (.getfield 16, 3) := by decide +kernel
theorem dX5_item_65 : decode cX5_item 65 = .ok (.iconst 5, 1) := by decide +kernel
theorem dX5_item_66 : decode cX5_item 66 = .ok (.iload_n 1, 1) := by decide +kernel
theorem dX5_item_67 : decode cX5_item 67 = .ok (.imul, 1) := by decide +kernel
theorem dX5_item_68 : decode cX5_item 68 = .ok (.iload_n 2, 1) := by decide +kernel
theorem dX5_item_69 : decode cX5_item 69 = .ok (.iadd, 1) := by decide +kernel
theorem dX5_item_70 : decode cX5_item 70 = .ok (.iaload, 1) := by decide +kernel
theorem dX5_item_71 : decode cX5_item 71 = .ok (.ireturn, 1) := by decide +kernel
theorem dX5_frame_0 : decode cX5_frame 0 = .ok (.aload_n 0, 1) := by decide +kernel
theorem dX5_frame_1 : decode cX5_frame 1 = .ok (.iload_n 1, 1) := by decide +kernel
theorem dX5_frame_2 : decode cX5_frame 2 = .ok (.ifCond .lt 9, 3) := by decide +kernel
theorem dX5_frame_5 : decode cX5_frame 5 = .ok (.iload_n 1, 1) := by decide +kernel
theorem dX5_frame_6 : decode cX5_frame 6 = .ok (.bipush 12, 2) := by decide +kernel
theorem dX5_frame_8 : decode cX5_frame 8 = .ok (.if_icmp .lt 7, 3) := by decide +kernel
theorem dX5_frame_11 : decode cX5_frame 11 = .ok (.iconst 1, 1) := by decide +kernel
theorem dX5_frame_12 : decode cX5_frame 12 = .ok (.goto 17, 3) := by decide +kernel
theorem dX5_frame_15 : decode cX5_frame 15 = .ok (.iload_n 2, 1) := by decide +kernel
theorem dX5_frame_16 : decode cX5_frame 16 = .ok (.ifCond .lt 8, 3) := by decide +kernel
theorem dX5_frame_19 : decode cX5_frame 19 = .ok (.iload_n 2, 1) := by decide +kernel
theorem dX5_frame_20 : decode cX5_frame 20 = .ok (.iconst 2, 1) := by decide +kernel
theorem dX5_frame_21 : decode cX5_frame 21 = .ok (.if_icmp .le 7, 3) := by decide +kernel
theorem dX5_frame_24 : decode cX5_frame 24 = .ok (.iconst 2, 1) := by decide +kernel
theorem dX5_frame_25 : decode cX5_frame 25 = .ok (.goto 4, 3) := by decide +kernel
theorem dX5_frame_28 : decode cX5_frame 28 = .ok (.iconst 0, 1) := by decide +kernel
theorem dX5_frame_29 : decode cX5_frame 29 = .ok (.putfield 44, 3) := by decide +kernel
theorem dX5_frame_32 : decode cX5_frame 32 = .ok (.aload_n 0, 1) := by decide +kernel
theorem dX5_frame_33 : decode cX5_frame 33 = .ok (.getfield 44, 3) := by decide +kernel
theorem dX5_frame_36 : decode cX5_frame 36 = .ok (.ifCond .le 7, 3) := by decide +kernel
theorem dX5_frame_39 : decode cX5_frame 39 = .ok (.iconst 0, 1) := by decide +kernel
theorem dX5_frame_40 : decode cX5_frame 40 = .ok (.goto 52, 3) := by decide +kernel
theorem dX5_frame_43 : decode cX5_frame 43 = .ok (.iload_n 2, 1) := by decide +kernel
theorem dX5_frame_44 : decode cX5_frame 44 = .ok (.ifCond .ne 12, 3) := by decide +kernel
theorem dX5_frame_47 : decode cX5_frame 47 = .ok (.aload_n 0, 1) := by decide +kernel
theorem dX5_frame_48 : decode cX5_frame 48 = .ok (.getfield 31, 3) := by decide +kernel
theorem dX5_frame_51 : decode cX5_frame 51 = .ok (.iload_n 1, 1) := by decide +kernel
theorem dX5_frame_52 : decode cX5_frame 52 = .ok (.iaload, 1) := by decide +kernel
theorem dX5_frame_53 : decode cX5_frame 53 = .ok (.goto 39, 3) := by decide +kernel
theorem dX5_frame_56 : decode cX5_frame 56 = .ok (.iload_n 2, 1) := by decide +kernel
theorem dX5_frame_57 : decode cX5_frame 57 = .ok (.iconst 1, 1) := by decide +kernel
theorem dX5_frame_58 : decode cX5_frame 58 = .ok (.if_icmp .ne 20, 3) := by decide +kernel
theorem dX5_frame_61 : decode cX5_frame 61 = .ok (.aload_n 0, 1) := by decide +kernel
theorem dX5_frame_62 : decode cX5_frame 62 = .ok (.getfield 34, 3) := by decide +kernel
theorem dX5_frame_65 : decode cX5_frame 65 = .ok (.iload_n 1, 1) := by decide +kernel
theorem dX5_frame_66 : decode cX5_frame 66 = .ok (.baload, 1) := by decide +kernel
theorem dX5_frame_67 : decode cX5_frame 67 = .ok (.ifCond .eq 7, 3) := by decide +kernel
theorem dX5_frame_70 : decode cX5_frame 70 = .ok (.iconst 1, 1) := by decide +kernel
theorem dX5_frame_71 : decode cX5_frame 71 = .ok (.goto 21, 3) := by decide +kernel
theorem dX5_frame_74 : decode cX5_frame 74 = .ok (.iconst 0, 1) := by decide +kernel
theorem dX5_frame_75 : decode cX5_frame 75 = .ok (.goto 17, 3) := by decide +kernel
theorem dX5_frame_78 : decode cX5_frame 78 = .ok (.aload_n 0, 1) := by decide +kernel
theorem dX5_frame_79 : decode cX5_frame 79 = .ok (.getfield 38, 3) := by decide +kernel
theorem dX5_frame_82 : decode cX5_frame 82 = .ok (.iload_n 1, 1) := by decide +kernel
theorem dX5_frame_83 : decode cX5_frame 83 = .ok (.baload, 1) := by decide +kernel
theorem dX5_frame_84 : decode cX5_frame 84 = .ok (.ifCond .eq 7, 3) := by decide +kernel
theorem dX5_frame_87 : decode cX5_frame 87 = .ok (.iconst 1, 1) := by decide +kernel
theorem dX5_frame_88 : decode cX5_frame 88 = .ok (.goto 4, 3) := by decide +kernel
theorem dX5_frame_91 : decode cX5_frame 91 = .ok (.iconst 0, 1) := by decide +kernel
theorem dX5_frame_92 : decode cX5_frame 92 = .ok (.ireturn, 1) := by decide +kernel
theorem dX5_levels_0 : decode cX5_levels 0 = .ok (.iconst 1, 1) := by decide +kernel
theorem dX5_levels_1 : decode cX5_levels 1 = .ok (.istore_n 1, 1) := by decide +kernel
theorem dX5_levels_2 : decode cX5_levels 2 = .ok (.aload_n 0, 1) := by decide +kernel
theorem dX5_levels_3 : decode cX5_levels 3 = .ok (.getfield 71, 3) := by decide +kernel
theorem dX5_levels_6 : decode cX5_levels 6 = .ok (.istore_n 2, 1) := by decide +kernel
theorem dX5_levels_7 : decode cX5_levels 7 = .ok (.aload_n 0, 1) := by decide +kernel
theorem dX5_levels_8 : decode cX5_levels 8 = .ok (.getfield 7, 3) := by decide +kernel
theorem dX5_levels_11 : decode cX5_levels 11 = .ok (.iload_n 2, 1) := by decide +kernel
theorem dX5_levels_12 : decode cX5_levels 12 = .ok (.iaload, 1) := by decide +kernel
theorem dX5_levels_13 : decode cX5_levels 13 = .ok (.iconst 2, 1) := by decide +kernel
theorem dX5_levels_14 : decode cX5_levels 14 = .ok (.if_icmp .ne 18, 3) := by decide +kernel
theorem dX5_levels_17 : decode cX5_levels 17 = .ok (.aload_n 0, 1) := by decide +kernel
theorem dX5_levels_18 : decode cX5_levels 18 = .ok (.getfield 19, 3) := by decide +kernel
theorem dX5_levels_21 : decode cX5_levels 21 = .ok (.iconst 5, 1) := by decide +kernel
theorem dX5_levels_22 : decode cX5_levels 22 = .ok (.iload_n 2, 1) := by decide +kernel
theorem dX5_levels_23 : decode cX5_levels 23 = .ok (.imul, 1) := by decide +kernel
theorem dX5_levels_24 : decode cX5_levels 24 = .ok (.iaload, 1) := by decide +kernel
theorem dX5_levels_25 : decode cX5_levels 25 = .ok (.istore_n 2, 1) := by decide +kernel
theorem dX5_levels_26 : decode cX5_levels 26 = .ok (.iinc 1 1, 3) := by decide +kernel
theorem dX5_levels_29 : decode cX5_levels 29 = .ok (.goto (-22), 3) := by decide +kernel
theorem dX5_levels_32 : decode cX5_levels 32 = .ok (.iload_n 1, 1) := by decide +kernel
theorem dX5_levels_33 : decode cX5_levels 33 = .ok (.ireturn, 1) := by decide +kernel
theorem dX5_told_0 : decode cX5_told 0 = .ok (.aload_n 0, 1) := by decide +kernel
theorem dX5_told_1 : decode cX5_told 1 = .ok (.iconst 0, 1) := by decide +kernel
theorem dX5_told_2 : decode cX5_told 2 = .ok (.putfield 44, 3) := by decide +kernel
theorem dX5_told_5 : decode cX5_told 5 = .ok (.iload_n 1, 1) := by decide +kernel
theorem dX5_told_6 : decode cX5_told 6 = .ok (.tableswitch 86 0 7 #[46, 51, 56, 61, 66, 71, 76, 81], 46) := by decide +kernel
theorem dX5_told_52 : decode cX5_told 52 = .ok (.aload_n 0, 1) := by decide +kernel
theorem dX5_told_53 : decode cX5_told 53 = .ok (.getfield 115, 3) := by decide +kernel
theorem dX5_told_56 : decode cX5_told 56 = .ok (.ireturn, 1) := by decide +kernel
theorem dX5_told_57 : decode cX5_told 57 = .ok (.aload_n 0, 1) := by decide +kernel
theorem dX5_told_58 : decode cX5_told 58 = .ok (.getfield 71, 3) := by decide +kernel
theorem dX5_told_61 : decode cX5_told 61 = .ok (.ireturn, 1) := by decide +kernel
theorem dX5_told_62 : decode cX5_told 62 = .ok (.aload_n 0, 1) := by decide +kernel
theorem dX5_told_63 : decode cX5_told 63 = .ok (.invokevirtual 156, 3) := by decide +kernel
theorem dX5_told_66 : decode cX5_told 66 = .ok (.ireturn, 1) := by decide +kernel
theorem dX5_told_67 : decode cX5_told 67 = .ok (.aload_n 0, 1) := by decide +kernel
theorem dX5_told_68 : decode cX5_told 68 = .ok (.invokevirtual 102, 3) := by decide +kernel
theorem dX5_told_71 : decode cX5_told 71 = .ok (.ireturn, 1) := by decide +kernel
theorem dX5_told_72 : decode cX5_told 72 = .ok (.aload_n 0, 1) := by decide +kernel
theorem dX5_told_73 : decode cX5_told 73 = .ok (.getfield 61, 3) := by decide +kernel
theorem dX5_told_76 : decode cX5_told 76 = .ok (.ireturn, 1) := by decide +kernel
theorem dX5_told_77 : decode cX5_told 77 = .ok (.aload_n 0, 1) := by decide +kernel
theorem dX5_told_78 : decode cX5_told 78 = .ok (.getfield 68, 3) := by decide +kernel
theorem dX5_told_81 : decode cX5_told 81 = .ok (.ireturn, 1) := by decide +kernel
theorem dX5_told_82 : decode cX5_told 82 = .ok (.aload_n 0, 1) := by decide +kernel
theorem dX5_told_83 : decode cX5_told 83 = .ok (.getfield 54, 3) := by decide +kernel
theorem dX5_told_86 : decode cX5_told 86 = .ok (.ireturn, 1) := by decide +kernel
theorem dX5_told_87 : decode cX5_told 87 = .ok (.aload_n 0, 1) := by decide +kernel
theorem dX5_told_88 : decode cX5_told 88 = .ok (.getfield 48, 3) := by decide +kernel
theorem dX5_told_91 : decode cX5_told 91 = .ok (.ireturn, 1) := by decide +kernel
theorem dX5_told_92 : decode cX5_told 92 = .ok (.iconst (-1), 1) := by decide +kernel
theorem dX5_told_93 : decode cX5_told 93 = .ok (.ireturn, 1) := by decide +kernel
theorem dX5_astray_0 : decode cX5_astray 0 = .ok (.aload_n 0, 1) := by decide +kernel
theorem dX5_astray_1 : decode cX5_astray 1 = .ok (.iconst 0, 1) := by decide +kernel
theorem dX5_astray_2 : decode cX5_astray 2 = .ok (.putfield 44, 3) := by decide +kernel
theorem dX5_astray_5 : decode cX5_astray 5 = .ok (.iconst 0, 1) := by decide +kernel
theorem dX5_astray_6 : decode cX5_astray 6 = .ok (.istore_n 1, 1) := by decide +kernel
theorem dX5_astray_7 : decode cX5_astray 7 = .ok (.iconst 0, 1) := by decide +kernel
theorem dX5_astray_8 : decode cX5_astray 8 = .ok (.istore_n 2, 1) := by decide +kernel
theorem dX5_astray_9 : decode cX5_astray 9 = .ok (.iload_n 2, 1) := by decide +kernel
theorem dX5_astray_10 : decode cX5_astray 10 = .ok (.bipush 40, 2) := by decide +kernel
theorem dX5_astray_12 : decode cX5_astray 12 = .ok (.if_icmp .ge 200, 3) := by decide +kernel
theorem dX5_astray_15 : decode cX5_astray 15 = .ok (.iconst 1, 1) := by decide +kernel
theorem dX5_astray_16 : decode cX5_astray 16 = .ok (.istore_n 3, 1) := by decide +kernel
theorem dX5_astray_17 : decode cX5_astray 17 = .ok (.aload_n 0, 1) := by decide +kernel
theorem dX5_astray_18 : decode cX5_astray 18 = .ok (.getfield 7, 3) := by decide +kernel
theorem dX5_astray_21 : decode cX5_astray 21 = .ok (.iload_n 2, 1) := by decide +kernel
theorem dX5_astray_22 : decode cX5_astray 22 = .ok (.iaload, 1) := by decide +kernel
theorem dX5_astray_23 : decode cX5_astray 23 = .ok (.iconst 1, 1) := by decide +kernel
theorem dX5_astray_24 : decode cX5_astray 24 = .ok (.if_icmp .ne 7, 3) := by decide +kernel
theorem dX5_astray_27 : decode cX5_astray 27 = .ok (.iconst 1, 1) := by decide +kernel
theorem dX5_astray_28 : decode cX5_astray 28 = .ok (.goto 4, 3) := by decide +kernel
theorem dX5_astray_31 : decode cX5_astray 31 = .ok (.iconst 2, 1) := by decide +kernel
theorem dX5_astray_32 : decode cX5_astray 32 = .ok (.istore 4, 2) := by decide +kernel
theorem dX5_astray_34 : decode cX5_astray 34 = .ok (.iload 4, 2) := by decide +kernel
theorem dX5_astray_36 : decode cX5_astray 36 = .ok (.aload_n 0, 1) := by decide +kernel
theorem dX5_astray_37 : decode cX5_astray 37 = .ok (.getfield 13, 3) := by decide +kernel
theorem dX5_astray_40 : decode cX5_astray 40 = .ok (.iload_n 2, 1) := by decide +kernel
theorem dX5_astray_41 : decode cX5_astray 41 = .ok (.iaload, 1) := by decide +kernel
theorem dX5_astray_42 : decode cX5_astray 42 = .ok (.if_icmp .ge 46, 3) := by decide +kernel
theorem dX5_astray_45 : decode cX5_astray 45 = .ok (.iload_n 3, 1) := by decide +kernel
theorem dX5_astray_46 : decode cX5_astray 46 = .ok (.ifCond .eq 34, 3) := by decide +kernel
theorem dX5_astray_49 : decode cX5_astray 49 = .ok (.aload_n 0, 1) := by decide +kernel
theorem dX5_astray_50 : decode cX5_astray 50 = .ok (.getfield 16, 3) := by decide +kernel
theorem dX5_astray_53 : decode cX5_astray 53 = .ok (.iconst 5, 1) := by decide +kernel
theorem dX5_astray_54 : decode cX5_astray 54 = .ok (.iload_n 2, 1) := by decide +kernel
theorem dX5_astray_55 : decode cX5_astray 55 = .ok (.imul, 1) := by decide +kernel
theorem dX5_astray_56 : decode cX5_astray 56 = .ok (.iload 4, 2) := by decide +kernel
theorem dX5_astray_58 : decode cX5_astray 58 = .ok (.iadd, 1) := by decide +kernel
theorem dX5_astray_59 : decode cX5_astray 59 = .ok (.iconst 1, 1) := by decide +kernel
theorem dX5_astray_60 : decode cX5_astray 60 = .ok (.isub, 1) := by decide +kernel
theorem dX5_astray_61 : decode cX5_astray 61 = .ok (.iaload, 1) := by decide +kernel
theorem dX5_astray_62 : decode cX5_astray 62 = .ok (.aload_n 0, 1) := by decide +kernel
theorem dX5_astray_63 : decode cX5_astray 63 = .ok (.getfield 16, 3) := by decide +kernel
theorem dX5_astray_66 : decode cX5_astray 66 = .ok (.iconst 5, 1) := by decide +kernel
theorem dX5_astray_67 : decode cX5_astray 67 = .ok (.iload_n 2, 1) := by decide +kernel
theorem dX5_astray_68 : decode cX5_astray 68 = .ok (.imul, 1) := by decide +kernel
theorem dX5_astray_69 : decode cX5_astray 69 = .ok (.iload 4, 2) := by decide +kernel
theorem dX5_astray_71 : decode cX5_astray 71 = .ok (.iadd, 1) := by decide +kernel
theorem dX5_astray_72 : decode cX5_astray 72 = .ok (.iaload, 1) := by decide +kernel
theorem dX5_astray_73 : decode cX5_astray 73 = .ok (.if_icmp .ge 7, 3) := by decide +kernel
theorem dX5_astray_76 : decode cX5_astray 76 = .ok (.iconst 1, 1) := by decide +kernel
theorem dX5_astray_77 : decode cX5_astray 77 = .ok (.goto 4, 3) := by decide +kernel
theorem dX5_astray_80 : decode cX5_astray 80 = .ok (.iconst 0, 1) := by decide +kernel
theorem dX5_astray_81 : decode cX5_astray 81 = .ok (.istore_n 3, 1) := by decide +kernel
theorem dX5_astray_82 : decode cX5_astray 82 = .ok (.iinc 4 1, 3) := by decide +kernel
theorem dX5_astray_85 : decode cX5_astray 85 = .ok (.goto (-51), 3) := by decide +kernel
theorem dX5_astray_88 : decode cX5_astray 88 = .ok (.iconst 0, 1) := by decide +kernel
theorem dX5_astray_89 : decode cX5_astray 89 = .ok (.istore 4, 2) := by decide +kernel
theorem dX5_astray_91 : decode cX5_astray 91 = .ok (.iload 4, 2) := by decide +kernel
theorem dX5_astray_93 : decode cX5_astray 93 = .ok (.aload_n 0, 1) := by decide +kernel
theorem dX5_astray_94 : decode cX5_astray 94 = .ok (.getfield 13, 3) := by decide +kernel
theorem dX5_astray_97 : decode cX5_astray 97 = .ok (.iload_n 2, 1) := by decide +kernel
theorem dX5_astray_98 : decode cX5_astray 98 = .ok (.iaload, 1) := by decide +kernel
theorem dX5_astray_99 : decode cX5_astray 99 = .ok (.if_icmp .ge 48, 3) := by decide +kernel
theorem dX5_astray_102 : decode cX5_astray 102 = .ok (.aload_n 0, 1) := by decide +kernel
theorem dX5_astray_103 : decode cX5_astray 103 = .ok (.getfield 7, 3) := by decide +kernel
theorem dX5_astray_106 : decode cX5_astray 106 = .ok (.iload_n 2, 1) := by decide +kernel
theorem dX5_astray_107 : decode cX5_astray 107 = .ok (.iaload, 1) := by decide +kernel
theorem dX5_astray_108 : decode cX5_astray 108 = .ok (.iconst 2, 1) := by decide +kernel
theorem dX5_astray_109 : decode cX5_astray 109 = .ok (.if_icmp .ne 38, 3) := by decide +kernel
theorem dX5_astray_112 : decode cX5_astray 112 = .ok (.iload_n 3, 1) := by decide +kernel
theorem dX5_astray_113 : decode cX5_astray 113 = .ok (.ifCond .eq 26, 3) := by decide +kernel
theorem dX5_astray_116 : decode cX5_astray 116 = .ok (.aload_n 0, 1) := by decide +kernel
theorem dX5_astray_117 : decode cX5_astray 117 = .ok (.getfield 7, 3) := by decide +kernel
theorem dX5_astray_120 : decode cX5_astray 120 = .ok (.aload_n 0, 1) := by decide +kernel
theorem dX5_astray_121 : decode cX5_astray 121 = .ok (.getfield 19, 3) := by decide +kernel
theorem dX5_astray_124 : decode cX5_astray 124 = .ok (.iconst 5, 1) := by decide +kernel
theorem dX5_astray_125 : decode cX5_astray 125 = .ok (.iload_n 2, 1) := by decide +kernel
theorem dX5_astray_126 : decode cX5_astray 126 = .ok (.imul, 1) := by decide +kernel
theorem dX5_astray_127 : decode cX5_astray 127 = .ok (.iload 4, 2) := by decide +kernel
theorem dX5_astray_129 : decode cX5_astray 129 = .ok (.iadd, 1) := by decide +kernel
theorem dX5_astray_130 : decode cX5_astray 130 = .ok (.iaload, 1) := by decide +kernel
theorem dX5_astray_131 : decode cX5_astray 131 = .ok (.iaload, 1) := by decide +kernel
theorem dX5_astray_132 : decode cX5_astray 132 = .ok (.ifCond .eq 7, 3) := by decide +kernel
theorem dX5_astray_135 : decode cX5_astray 135 = .ok (.iconst 1, 1) := by decide +kernel
theorem dX5_astray_136 : decode cX5_astray 136 = .ok (.goto 4, 3) := by decide +kernel
theorem dX5_astray_139 : decode cX5_astray 139 = .ok (.iconst 0, 1) := by decide +kernel
theorem dX5_astray_140 : decode cX5_astray 140 = .ok (.istore_n 3, 1) := by decide +kernel
theorem dX5_astray_141 : decode cX5_astray 141 = .ok (.iinc 4 1, 3) := by decide +kernel
theorem dX5_astray_144 : decode cX5_astray 144 = .ok (.goto (-53), 3) := by decide +kernel
theorem dX5_astray_147 : decode cX5_astray 147 = .ok (.iconst 0, 1) := by decide +kernel
theorem dX5_astray_148 : decode cX5_astray 148 = .ok (.istore 4, 2) := by decide +kernel
theorem dX5_astray_150 : decode cX5_astray 150 = .ok (.iconst 0, 1) := by decide +kernel
theorem dX5_astray_151 : decode cX5_astray 151 = .ok (.istore 5, 2) := by decide +kernel
theorem dX5_astray_153 : decode cX5_astray 153 = .ok (.iload 5, 2) := by decide +kernel
theorem dX5_astray_155 : decode cX5_astray 155 = .ok (.bipush 12, 2) := by decide +kernel
theorem dX5_astray_157 : decode cX5_astray 157 = .ok (.if_icmp .ge 31, 3) := by decide +kernel
theorem dX5_astray_160 : decode cX5_astray 160 = .ok (.aload_n 0, 1) := by decide +kernel
theorem dX5_astray_161 : decode cX5_astray 161 = .ok (.getfield 31, 3) := by decide +kernel
theorem dX5_astray_164 : decode cX5_astray 164 = .ok (.iload 5, 2) := by decide +kernel
theorem dX5_astray_166 : decode cX5_astray 166 = .ok (.iaload, 1) := by decide +kernel
theorem dX5_astray_167 : decode cX5_astray 167 = .ok (.iload_n 2, 1) := by decide +kernel
theorem dX5_astray_168 : decode cX5_astray 168 = .ok (.if_icmp .ne 10, 3) := by decide +kernel
theorem dX5_astray_171 : decode cX5_astray 171 = .ok (.iload 4, 2) := by decide +kernel
theorem dX5_astray_173 : decode cX5_astray 173 = .ok (.iconst 1, 1) := by decide +kernel
theorem dX5_astray_174 : decode cX5_astray 174 = .ok (.iadd, 1) := by decide +kernel
theorem dX5_astray_175 : decode cX5_astray 175 = .ok (.goto 5, 3) := by decide +kernel
theorem dX5_astray_178 : decode cX5_astray 178 = .ok (.iload 4, 2) := by decide +kernel
theorem dX5_astray_180 : decode cX5_astray 180 = .ok (.istore 4, 2) := by decide +kernel
theorem dX5_astray_182 : decode cX5_astray 182 = .ok (.iinc 5 1, 3) := by decide +kernel
theorem dX5_astray_185 : decode cX5_astray 185 = .ok (.goto (-32), 3) := by decide +kernel
theorem dX5_astray_188 : decode cX5_astray 188 = .ok (.iload_n 3, 1) := by decide +kernel
theorem dX5_astray_189 : decode cX5_astray 189 = .ok (.ifCond .eq 13, 3) := by decide +kernel
theorem dX5_astray_192 : decode cX5_astray 192 = .ok (.iload 4, 2) := by decide +kernel
theorem dX5_astray_194 : decode cX5_astray 194 = .ok (.iconst 2, 1) := by decide +kernel
theorem dX5_astray_195 : decode cX5_astray 195 = .ok (.if_icmp .ge 7, 3) := by decide +kernel
theorem dX5_astray_198 : decode cX5_astray 198 = .ok (.iload_n 1, 1) := by decide +kernel
theorem dX5_astray_199 : decode cX5_astray 199 = .ok (.goto 6, 3) := by decide +kernel
theorem dX5_astray_202 : decode cX5_astray 202 = .ok (.iload_n 1, 1) := by decide +kernel
theorem dX5_astray_203 : decode cX5_astray 203 = .ok (.iconst 1, 1) := by decide +kernel
theorem dX5_astray_204 : decode cX5_astray 204 = .ok (.iadd, 1) := by decide +kernel
theorem dX5_astray_205 : decode cX5_astray 205 = .ok (.istore_n 1, 1) := by decide +kernel
theorem dX5_astray_206 : decode cX5_astray 206 = .ok (.iinc 2 1, 3) := by decide +kernel
theorem dX5_astray_209 : decode cX5_astray 209 = .ok (.goto (-200), 3) := by decide +kernel
theorem dX5_astray_212 : decode cX5_astray 212 = .ok (.iload_n 1, 1) := by decide +kernel
theorem dX5_astray_213 : decode cX5_astray 213 = .ok (.ireturn, 1) := by decide +kernel
theorem dJ9_floorMod_7cf53_0 : decode cJ9_floorMod_7cf53 0 = .ok (.iload_n 0, 1) := by decide +kernel
theorem dJ9_floorMod_7cf53_1 : decode cJ9_floorMod_7cf53 1 = .ok (.iload_n 1, 1) := by decide +kernel
theorem dJ9_floorMod_7cf53_2 : decode cJ9_floorMod_7cf53 2 = .ok (.irem, 1) := by decide +kernel
theorem dJ9_floorMod_7cf53_3 : decode cJ9_floorMod_7cf53 3 = .ok (.istore_n 2, 1) := by decide +kernel
theorem dJ9_floorMod_7cf53_4 : decode cJ9_floorMod_7cf53 4 = .ok (.iload_n 0, 1) := by decide +kernel
theorem dJ9_floorMod_7cf53_5 : decode cJ9_floorMod_7cf53 5 = .ok (.iload_n 1, 1) := by decide +kernel
theorem dJ9_floorMod_7cf53_6 : decode cJ9_floorMod_7cf53 6 = .ok (.ixor, 1) := by decide +kernel
theorem dJ9_floorMod_7cf53_7 : decode cJ9_floorMod_7cf53 7 = .ok (.ifCond .ge 11, 3) := by decide +kernel
theorem dJ9_floorMod_7cf53_10 : decode cJ9_floorMod_7cf53 10 = .ok (.iload_n 2, 1) := by decide +kernel
theorem dJ9_floorMod_7cf53_11 : decode cJ9_floorMod_7cf53 11 = .ok (.ifCond .eq 7, 3) := by decide +kernel
theorem dJ9_floorMod_7cf53_14 : decode cJ9_floorMod_7cf53 14 = .ok (.iload_n 2, 1) := by decide +kernel
theorem dJ9_floorMod_7cf53_15 : decode cJ9_floorMod_7cf53 15 = .ok (.iload_n 1, 1) := by decide +kernel
theorem dJ9_floorMod_7cf53_16 : decode cJ9_floorMod_7cf53 16 = .ok (.iadd, 1) := by decide +kernel
theorem dJ9_floorMod_7cf53_17 : decode cJ9_floorMod_7cf53 17 = .ok (.ireturn, 1) := by decide +kernel
theorem dJ9_floorMod_7cf53_18 : decode cJ9_floorMod_7cf53 18 = .ok (.iload_n 2, 1) := by decide +kernel
theorem dJ9_floorMod_7cf53_19 : decode cJ9_floorMod_7cf53 19 = .ok (.ireturn, 1) := by decide +kernel
theorem dJ7_fill_53178_0 : decode cJ7_fill_53178 0 = .ok (.iconst 0, 1) := by decide +kernel
theorem dJ7_fill_53178_1 : decode cJ7_fill_53178 1 = .ok (.istore_n 2, 1) := by decide +kernel
theorem dJ7_fill_53178_2 : decode cJ7_fill_53178 2 = .ok (.aload_n 0, 1) := by decide +kernel
theorem dJ7_fill_53178_3 : decode cJ7_fill_53178 3 = .ok (.arraylength, 1) := by decide +kernel
theorem dJ7_fill_53178_4 : decode cJ7_fill_53178 4 = .ok (.istore_n 3, 1) := by decide +kernel
theorem dJ7_fill_53178_5 : decode cJ7_fill_53178 5 = .ok (.iload_n 2, 1) := by decide +kernel
theorem dJ7_fill_53178_6 : decode cJ7_fill_53178 6 = .ok (.iload_n 3, 1) := by decide +kernel
theorem dJ7_fill_53178_7 : decode cJ7_fill_53178 7 = .ok (.if_icmp .ge 13, 3) := by decide +kernel
theorem dJ7_fill_53178_10 : decode cJ7_fill_53178 10 = .ok (.aload_n 0, 1) := by decide +kernel
theorem dJ7_fill_53178_11 : decode cJ7_fill_53178 11 = .ok (.iload_n 2, 1) := by decide +kernel
theorem dJ7_fill_53178_12 : decode cJ7_fill_53178 12 = .ok (.iload_n 1, 1) := by decide +kernel
theorem dJ7_fill_53178_13 : decode cJ7_fill_53178 13 = .ok (.iastore, 1) := by decide +kernel
theorem dJ7_fill_53178_14 : decode cJ7_fill_53178 14 = .ok (.iinc 2 1, 3) := by decide +kernel
theorem dJ7_fill_53178_17 : decode cJ7_fill_53178 17 = .ok (.goto (-12), 3) := by decide +kernel
theorem dJ7_fill_53178_20 : decode cJ7_fill_53178 20 = .ok (.return_, 1) := by decide +kernel
theorem dL_put_0 : decode cL_put 0 = .ok (.aload_n 3, 1) := by decide +kernel
theorem dL_put_1 : decode cL_put 1 = .ok (.iconst 0, 1) := by decide +kernel
theorem dL_put_2 : decode cL_put 2 = .ok (.aload_n 0, 1) := by decide +kernel
theorem dL_put_3 : decode cL_put 3 = .ok (.iload_n 1, 1) := by decide +kernel
theorem dL_put_4 : decode cL_put 4 = .ok (.iload_n 2, 1) := by decide +kernel
theorem dL_put_5 : decode cL_put 5 = .ok (.invokevirtual 7, 3) := by decide +kernel
theorem dL_put_8 : decode cL_put 8 = .ok (.ifCond .eq 7, 3) := by decide +kernel
theorem dL_put_11 : decode cL_put 11 = .ok (.lconst 1, 1) := by decide +kernel
theorem dL_put_12 : decode cL_put 12 = .ok (.goto 4, 3) := by decide +kernel
theorem dL_put_15 : decode cL_put 15 = .ok (.lconst 0, 1) := by decide +kernel
theorem dL_put_16 : decode cL_put 16 = .ok (.lastore, 1) := by decide +kernel
theorem dL_put_17 : decode cL_put 17 = .ok (.goto 7, 3) := by decide +kernel
theorem dL_put_20 : decode cL_put 20 = .ok (.astore 4, 2) := by decide +kernel
theorem dL_put_22 : decode cL_put 22 = .ok (.iconst 1, 1) := by decide +kernel
theorem dL_put_23 : decode cL_put 23 = .ok (.ireturn, 1) := by decide +kernel
theorem dL_put_24 : decode cL_put 24 = .ok (.iconst 0, 1) := by decide +kernel
theorem dL_put_25 : decode cL_put 25 = .ok (.ireturn, 1) := by decide +kernel
theorem dL_get_0 : decode cL_get 0 = .ok (.aload_n 2, 1) := by decide +kernel
theorem dL_get_1 : decode cL_get 1 = .ok (.iconst 0, 1) := by decide +kernel
theorem dL_get_2 : decode cL_get 2 = .ok (.aload_n 0, 1) := by decide +kernel
theorem dL_get_3 : decode cL_get 3 = .ok (.iload_n 1, 1) := by decide +kernel
theorem dL_get_4 : decode cL_get 4 = .ok (.invokevirtual 15, 3) := by decide +kernel
theorem dL_get_7 : decode cL_get 7 = .ok (.i2l, 1) := by decide +kernel
theorem dL_get_8 : decode cL_get 8 = .ok (.lastore, 1) := by decide +kernel
theorem dL_get_9 : decode cL_get 9 = .ok (.goto 6, 3) := by decide +kernel
theorem dL_get_12 : decode cL_get 12 = .ok (.astore_n 3, 1) := by decide +kernel
theorem dL_get_13 : decode cL_get 13 = .ok (.iconst 1, 1) := by decide +kernel
theorem dL_get_14 : decode cL_get 14 = .ok (.ireturn, 1) := by decide +kernel
theorem dL_get_15 : decode cL_get 15 = .ok (.iconst 0, 1) := by decide +kernel
theorem dL_get_16 : decode cL_get 16 = .ok (.ireturn, 1) := by decide +kernel
theorem dL_next_0 : decode cL_next 0 = .ok (.aload_n 1, 1) := by decide +kernel
theorem dL_next_1 : decode cL_next 1 = .ok (.iconst 0, 1) := by decide +kernel
theorem dL_next_2 : decode cL_next 2 = .ok (.aload_n 0, 1) := by decide +kernel
theorem dL_next_3 : decode cL_next 3 = .ok (.invokevirtual 21, 3) := by decide +kernel
theorem dL_next_6 : decode cL_next 6 = .ok (.ifCond .eq 7, 3) := by decide +kernel
theorem dL_next_9 : decode cL_next 9 = .ok (.lconst 1, 1) := by decide +kernel
theorem dL_next_10 : decode cL_next 10 = .ok (.goto 4, 3) := by decide +kernel
theorem dL_next_13 : decode cL_next 13 = .ok (.lconst 0, 1) := by decide +kernel
theorem dL_next_14 : decode cL_next 14 = .ok (.lastore, 1) := by decide +kernel
theorem dL_next_15 : decode cL_next 15 = .ok (.goto 6, 3) := by decide +kernel
theorem dL_next_18 : decode cL_next 18 = .ok (.astore_n 2, 1) := by decide +kernel
theorem dL_next_19 : decode cL_next 19 = .ok (.iconst 1, 1) := by decide +kernel
theorem dL_next_20 : decode cL_next 20 = .ok (.ireturn, 1) := by decide +kernel
theorem dL_next_21 : decode cL_next 21 = .ok (.iconst 0, 1) := by decide +kernel
theorem dL_next_22 : decode cL_next 22 = .ok (.ireturn, 1) := by decide +kernel
theorem dL_cursor_0 : decode cL_cursor 0 = .ok (.aload_n 2, 1) := by decide +kernel
theorem dL_cursor_1 : decode cL_cursor 1 = .ok (.iconst 0, 1) := by decide +kernel
theorem dL_cursor_2 : decode cL_cursor 2 = .ok (.aload_n 0, 1) := by decide +kernel
theorem dL_cursor_3 : decode cL_cursor 3 = .ok (.iload_n 1, 1) := by decide +kernel
theorem dL_cursor_4 : decode cL_cursor 4 = .ok (.invokevirtual 25, 3) := by decide +kernel
theorem dL_cursor_7 : decode cL_cursor 7 = .ok (.i2l, 1) := by decide +kernel
theorem dL_cursor_8 : decode cL_cursor 8 = .ok (.lastore, 1) := by decide +kernel
theorem dL_cursor_9 : decode cL_cursor 9 = .ok (.goto 6, 3) := by decide +kernel
theorem dL_cursor_12 : decode cL_cursor 12 = .ok (.astore_n 3, 1) := by decide +kernel
theorem dL_cursor_13 : decode cL_cursor 13 = .ok (.iconst 1, 1) := by decide +kernel
theorem dL_cursor_14 : decode cL_cursor 14 = .ok (.ireturn, 1) := by decide +kernel
theorem dL_cursor_15 : decode cL_cursor 15 = .ok (.iconst 0, 1) := by decide +kernel
theorem dL_cursor_16 : decode cL_cursor 16 = .ok (.ireturn, 1) := by decide +kernel
theorem dL_drop_0 : decode cL_drop 0 = .ok (.aload_n 1, 1) := by decide +kernel
theorem dL_drop_1 : decode cL_drop 1 = .ok (.iconst 0, 1) := by decide +kernel
theorem dL_drop_2 : decode cL_drop 2 = .ok (.aload_n 0, 1) := by decide +kernel
theorem dL_drop_3 : decode cL_drop 3 = .ok (.invokevirtual 29, 3) := by decide +kernel
theorem dL_drop_6 : decode cL_drop 6 = .ok (.i2l, 1) := by decide +kernel
theorem dL_drop_7 : decode cL_drop 7 = .ok (.lastore, 1) := by decide +kernel
theorem dL_drop_8 : decode cL_drop 8 = .ok (.goto 6, 3) := by decide +kernel
theorem dL_drop_11 : decode cL_drop 11 = .ok (.astore_n 2, 1) := by decide +kernel
theorem dL_drop_12 : decode cL_drop 12 = .ok (.iconst 1, 1) := by decide +kernel
theorem dL_drop_13 : decode cL_drop 13 = .ok (.ireturn, 1) := by decide +kernel
theorem dL_drop_14 : decode cL_drop 14 = .ok (.iconst 0, 1) := by decide +kernel
theorem dL_drop_15 : decode cL_drop 15 = .ok (.ireturn, 1) := by decide +kernel
theorem dL_page_0 : decode cL_page 0 = .ok (.aload_n 3, 1) := by decide +kernel
theorem dL_page_1 : decode cL_page 1 = .ok (.iconst 0, 1) := by decide +kernel
theorem dL_page_2 : decode cL_page 2 = .ok (.aload_n 0, 1) := by decide +kernel
theorem dL_page_3 : decode cL_page 3 = .ok (.iload_n 1, 1) := by decide +kernel
theorem dL_page_4 : decode cL_page 4 = .ok (.iload_n 2, 1) := by decide +kernel
theorem dL_page_5 : decode cL_page 5 = .ok (.invokevirtual 35, 3) := by decide +kernel
theorem dL_page_8 : decode cL_page 8 = .ok (.i2l, 1) := by decide +kernel
theorem dL_page_9 : decode cL_page 9 = .ok (.lastore, 1) := by decide +kernel
theorem dL_page_10 : decode cL_page 10 = .ok (.goto 11, 3) := by decide +kernel
theorem dL_page_13 : decode cL_page 13 = .ok (.astore 4, 2) := by decide +kernel
theorem dL_page_15 : decode cL_page 15 = .ok (.iconst 1, 1) := by decide +kernel
theorem dL_page_16 : decode cL_page 16 = .ok (.ireturn, 1) := by decide +kernel
theorem dL_page_17 : decode cL_page 17 = .ok (.astore 4, 2) := by decide +kernel
theorem dL_page_19 : decode cL_page 19 = .ok (.iconst 2, 1) := by decide +kernel
theorem dL_page_20 : decode cL_page 20 = .ok (.ireturn, 1) := by decide +kernel
theorem dL_page_21 : decode cL_page 21 = .ok (.iconst 0, 1) := by decide +kernel
theorem dL_page_22 : decode cL_page 22 = .ok (.ireturn, 1) := by decide +kernel
theorem dL_item_0 : decode cL_item 0 = .ok (.aload 4, 2) := by decide +kernel
theorem dL_item_2 : decode cL_item 2 = .ok (.iconst 0, 1) := by decide +kernel
theorem dL_item_3 : decode cL_item 3 = .ok (.aload_n 0, 1) := by decide +kernel
theorem dL_item_4 : decode cL_item 4 = .ok (.iload_n 1, 1) := by decide +kernel
theorem dL_item_5 : decode cL_item 5 = .ok (.iload_n 2, 1) := by decide +kernel
theorem dL_item_6 : decode cL_item 6 = .ok (.iload_n 3, 1) := by decide +kernel
theorem dL_item_7 : decode cL_item 7 = .ok (.invokevirtual 43, 3) := by decide +kernel
theorem dL_item_10 : decode cL_item 10 = .ok (.i2l, 1) := by decide +kernel
theorem dL_item_11 : decode cL_item 11 = .ok (.lastore, 1) := by decide +kernel
theorem dL_item_12 : decode cL_item 12 = .ok (.goto 7, 3) := by decide +kernel
theorem dL_item_15 : decode cL_item 15 = .ok (.astore 5, 2) := by decide +kernel
theorem dL_item_17 : decode cL_item 17 = .ok (.iconst 1, 1) := by decide +kernel
theorem dL_item_18 : decode cL_item 18 = .ok (.ireturn, 1) := by decide +kernel
theorem dL_item_19 : decode cL_item 19 = .ok (.iconst 0, 1) := by decide +kernel
theorem dL_item_20 : decode cL_item 20 = .ok (.ireturn, 1) := by decide +kernel
theorem dL_frame_0 : decode cL_frame 0 = .ok (.aload_n 3, 1) := by decide +kernel
theorem dL_frame_1 : decode cL_frame 1 = .ok (.iconst 0, 1) := by decide +kernel
theorem dL_frame_2 : decode cL_frame 2 = .ok (.aload_n 0, 1) := by decide +kernel
theorem dL_frame_3 : decode cL_frame 3 = .ok (.iload_n 1, 1) := by decide +kernel
theorem dL_frame_4 : decode cL_frame 4 = .ok (.iload_n 2, 1) := by decide +kernel
theorem dL_frame_5 : decode cL_frame 5 = .ok (.invokevirtual 47, 3) := by decide +kernel
theorem dL_frame_8 : decode cL_frame 8 = .ok (.i2l, 1) := by decide +kernel
theorem dL_frame_9 : decode cL_frame 9 = .ok (.lastore, 1) := by decide +kernel
theorem dL_frame_10 : decode cL_frame 10 = .ok (.goto 11, 3) := by decide +kernel
theorem dL_frame_13 : decode cL_frame 13 = .ok (.astore 4, 2) := by decide +kernel
theorem dL_frame_15 : decode cL_frame 15 = .ok (.iconst 1, 1) := by decide +kernel
theorem dL_frame_16 : decode cL_frame 16 = .ok (.ireturn, 1) := by decide +kernel
theorem dL_frame_17 : decode cL_frame 17 = .ok (.astore 4, 2) := by decide +kernel
theorem dL_frame_19 : decode cL_frame 19 = .ok (.iconst 2, 1) := by decide +kernel
theorem dL_frame_20 : decode cL_frame 20 = .ok (.ireturn, 1) := by decide +kernel
theorem dL_frame_21 : decode cL_frame 21 = .ok (.iconst 0, 1) := by decide +kernel
theorem dL_frame_22 : decode cL_frame 22 = .ok (.ireturn, 1) := by decide +kernel
theorem dL_law_0 : decode cL_law 0 = .ok (.new 8, 3) := by decide +kernel
theorem dL_law_3 : decode cL_law 3 = .ok (.dup, 1) := by decide +kernel
theorem dL_law_4 : decode cL_law 4 = .ok (.invokespecial 50, 3) := by decide +kernel
theorem dL_law_7 : decode cL_law 7 = .ok (.astore_n 1, 1) := by decide +kernel
theorem dL_law_8 : decode cL_law 8 = .ok (.new 51, 3) := by decide +kernel
theorem dL_law_11 : decode cL_law 11 = .ok (.dup, 1) := by decide +kernel
theorem dL_law_12 : decode cL_law 12 = .ok (.invokespecial 53, 3) := by decide +kernel
theorem dL_law_15 : decode cL_law 15 = .ok (.astore_n 2, 1) := by decide +kernel
theorem dL_law_16 : decode cL_law 16 = .ok (.iconst 1, 1) := by decide +kernel
theorem dL_law_17 : decode cL_law 17 = .ok (.newarray .long, 2) := by decide +kernel
theorem dL_law_19 : decode cL_law 19 = .ok (.astore_n 3, 1) := by decide +kernel
theorem dL_law_20 : decode cL_law 20 = .ok (.iconst 0, 1) := by decide +kernel
theorem dL_law_21 : decode cL_law 21 = .ok (.istore 4, 2) := by decide +kernel
theorem dL_law_23 : decode cL_law 23 = .ok (.iload 4, 2) := by decide +kernel
theorem dL_law_25 : decode cL_law 25 = .ok (.aload_n 0, 1) := by decide +kernel
theorem dL_law_26 : decode cL_law 26 = .ok (.arraylength, 1) := by decide +kernel
theorem dL_law_27 : decode cL_law 27 = .ok (.iconst 4, 1) := by decide +kernel
theorem dL_law_28 : decode cL_law 28 = .ok (.isub, 1) := by decide +kernel
theorem dL_law_29 : decode cL_law 29 = .ok (.if_icmp .gt 712, 3) := by decide +kernel
theorem dL_law_32 : decode cL_law 32 = .ok (.aload_n 0, 1) := by decide +kernel
theorem dL_law_33 : decode cL_law 33 = .ok (.iload 4, 2) := by decide +kernel
theorem dL_law_35 : decode cL_law 35 = .ok (.iaload, 1) := by decide +kernel
theorem dL_law_36 : decode cL_law 36 = .ok (.bipush 15, 2) := by decide +kernel
theorem dL_law_38 : decode cL_law 38 = .ok (.iand, 1) := by decide +kernel
theorem dL_law_39 : decode cL_law 39 = .ok (.tableswitch 696 0 12 #[65, 140, 196, 221, 246, 297, 369, 382, 426, 494, 590, 658, 683], 65) := by decide +kernel
theorem dL_law_104 : decode cL_law 104 = .ok (.aload_n 1, 1) := by decide +kernel
theorem dL_law_105 : decode cL_law 105 = .ok (.aload_n 0, 1) := by decide +kernel
theorem dL_law_106 : decode cL_law 106 = .ok (.iload 4, 2) := by decide +kernel
theorem dL_law_108 : decode cL_law 108 = .ok (.iconst 1, 1) := by decide +kernel
theorem dL_law_109 : decode cL_law 109 = .ok (.iadd, 1) := by decide +kernel
theorem dL_law_110 : decode cL_law 110 = .ok (.iaload, 1) := by decide +kernel
theorem dL_law_111 : decode cL_law 111 = .ok (.aload_n 0, 1) := by decide +kernel
theorem dL_law_112 : decode cL_law 112 = .ok (.iload 4, 2) := by decide +kernel
theorem dL_law_114 : decode cL_law 114 = .ok (.iconst 2, 1) := by decide +kernel
theorem dL_law_115 : decode cL_law 115 = .ok (.iadd, 1) := by decide +kernel
theorem dL_law_116 : decode cL_law 116 = .ok (.iaload, 1) := by decide +kernel
theorem dL_law_117 : decode cL_law 117 = .ok (.aload_n 3, 1) := by decide +kernel
theorem dL_law_118 : decode cL_law 118 = .ok (.invokestatic 54, 3) := by decide +kernel
theorem dL_law_121 : decode cL_law 121 = .ok (.istore 5, 2) := by decide +kernel
theorem dL_law_123 : decode cL_law 123 = .ok (.aload_n 2, 1) := by decide +kernel
theorem dL_law_124 : decode cL_law 124 = .ok (.aload_n 0, 1) := by decide +kernel
theorem dL_law_125 : decode cL_law 125 = .ok (.iload 4, 2) := by decide +kernel
theorem dL_law_127 : decode cL_law 127 = .ok (.iconst 1, 1) := by decide +kernel
theorem dL_law_128 : decode cL_law 128 = .ok (.iadd, 1) := by decide +kernel
theorem dL_law_129 : decode cL_law 129 = .ok (.iaload, 1) := by decide +kernel
theorem dL_law_130 : decode cL_law 130 = .ok (.aload_n 0, 1) := by decide +kernel
theorem dL_law_131 : decode cL_law 131 = .ok (.iload 4, 2) := by decide +kernel
theorem dL_law_133 : decode cL_law 133 = .ok (.iconst 2, 1) := by decide +kernel
theorem dL_law_134 : decode cL_law 134 = .ok (.iadd, 1) := by decide +kernel
theorem dL_law_135 : decode cL_law 135 = .ok (.iaload, 1) := by decide +kernel
theorem dL_law_136 : decode cL_law 136 = .ok (.invokevirtual 59, 3) := by decide +kernel
theorem dL_law_139 : decode cL_law 139 = .ok (.istore 6, 2) := by decide +kernel
theorem dL_law_141 : decode cL_law 141 = .ok (.aload_n 2, 1) := by decide +kernel
theorem dL_law_142 : decode cL_law 142 = .ok (.invokevirtual 60, 3) := by decide +kernel
theorem dL_law_145 : decode cL_law 145 = .ok (.iload 5, 2) := by decide +kernel
theorem dL_law_147 : decode cL_law 147 = .ok (.if_icmp .eq 5, 3) := by decide +kernel
theorem dL_law_150 : decode cL_law 150 = .ok (.iconst 0, 1) := by decide +kernel
theorem dL_law_151 : decode cL_law 151 = .ok (.ireturn, 1) := by decide +kernel
theorem dL_law_152 : decode cL_law 152 = .ok (.iload 5, 2) := by decide +kernel
theorem dL_law_154 : decode cL_law 154 = .ok (.ifCond .ne 22, 3) := by decide +kernel
theorem dL_law_157 : decode cL_law 157 = .ok (.aload_n 3, 1) := by decide +kernel
theorem dL_law_158 : decode cL_law 158 = .ok (.iconst 0, 1) := by decide +kernel
theorem dL_law_159 : decode cL_law 159 = .ok (.laload, 1) := by decide +kernel
theorem dL_law_160 : decode cL_law 160 = .ok (.iload 6, 2) := by decide +kernel
theorem dL_law_162 : decode cL_law 162 = .ok (.ifCond .eq 7, 3) := by decide +kernel
theorem dL_law_165 : decode cL_law 165 = .ok (.lconst 1, 1) := by decide +kernel
theorem dL_law_166 : decode cL_law 166 = .ok (.goto 4, 3) := by decide +kernel
theorem dL_law_169 : decode cL_law 169 = .ok (.lconst 0, 1) := by decide +kernel
theorem dL_law_170 : decode cL_law 170 = .ok (.lcmp, 1) := by decide +kernel
theorem dL_law_171 : decode cL_law 171 = .ok (.ifCond .eq 5, 3) := by decide +kernel
theorem dL_law_174 : decode cL_law 174 = .ok (.iconst 0, 1) := by decide +kernel
theorem dL_law_175 : decode cL_law 175 = .ok (.ireturn, 1) := by decide +kernel
theorem dL_law_176 : decode cL_law 176 = .ok (.goto 559, 3) := by decide +kernel
theorem dL_law_179 : decode cL_law 179 = .ok (.aload_n 1, 1) := by decide +kernel
theorem dL_law_180 : decode cL_law 180 = .ok (.aload_n 0, 1) := by decide +kernel
theorem dL_law_181 : decode cL_law 181 = .ok (.iload 4, 2) := by decide +kernel
theorem dL_law_183 : decode cL_law 183 = .ok (.iconst 1, 1) := by decide +kernel
theorem dL_law_184 : decode cL_law 184 = .ok (.iadd, 1) := by decide +kernel
theorem dL_law_185 : decode cL_law 185 = .ok (.iaload, 1) := by decide +kernel
theorem dL_law_186 : decode cL_law 186 = .ok (.aload_n 3, 1) := by decide +kernel
theorem dL_law_187 : decode cL_law 187 = .ok (.invokestatic 63, 3) := by decide +kernel
theorem dL_law_190 : decode cL_law 190 = .ok (.istore 5, 2) := by decide +kernel
theorem dL_law_192 : decode cL_law 192 = .ok (.aload_n 2, 1) := by decide +kernel
theorem dL_law_193 : decode cL_law 193 = .ok (.aload_n 0, 1) := by decide +kernel
theorem dL_law_194 : decode cL_law 194 = .ok (.iload 4, 2) := by decide +kernel
theorem dL_law_196 : decode cL_law 196 = .ok (.iconst 1, 1) := by decide +kernel
theorem dL_law_197 : decode cL_law 197 = .ok (.iadd, 1) := by decide +kernel
theorem dL_law_198 : decode cL_law 198 = .ok (.iaload, 1) := by decide +kernel
theorem dL_law_199 : decode cL_law 199 = .ok (.invokevirtual 66, 3) := by decide +kernel
theorem dL_law_202 : decode cL_law 202 = .ok (.istore 6, 2) := by decide +kernel
theorem dL_law_204 : decode cL_law 204 = .ok (.aload_n 2, 1) := by decide +kernel
theorem dL_law_205 : decode cL_law 205 = .ok (.invokevirtual 60, 3) := by decide +kernel
theorem dL_law_208 : decode cL_law 208 = .ok (.iload 5, 2) := by decide +kernel
theorem dL_law_210 : decode cL_law 210 = .ok (.if_icmp .eq 5, 3) := by decide +kernel
theorem dL_law_213 : decode cL_law 213 = .ok (.iconst 0, 1) := by decide +kernel
theorem dL_law_214 : decode cL_law 214 = .ok (.ireturn, 1) := by decide +kernel
theorem dL_law_215 : decode cL_law 215 = .ok (.iload 5, 2) := by decide +kernel
theorem dL_law_217 : decode cL_law 217 = .ok (.ifCond .ne 15, 3) := by decide +kernel
theorem dL_law_220 : decode cL_law 220 = .ok (.aload_n 3, 1) := by decide +kernel
theorem dL_law_221 : decode cL_law 221 = .ok (.iconst 0, 1) := by decide +kernel
theorem dL_law_222 : decode cL_law 222 = .ok (.laload, 1) := by decide +kernel
theorem dL_law_223 : decode cL_law 223 = .ok (.iload 6, 2) := by decide +kernel
theorem dL_law_225 : decode cL_law 225 = .ok (.i2l, 1) := by decide +kernel
theorem dL_law_226 : decode cL_law 226 = .ok (.lcmp, 1) := by decide +kernel
theorem dL_law_227 : decode cL_law 227 = .ok (.ifCond .eq 5, 3) := by decide +kernel
theorem dL_law_230 : decode cL_law 230 = .ok (.iconst 0, 1) := by decide +kernel
theorem dL_law_231 : decode cL_law 231 = .ok (.ireturn, 1) := by decide +kernel
theorem dL_law_232 : decode cL_law 232 = .ok (.goto 503, 3) := by decide +kernel
theorem dL_law_235 : decode cL_law 235 = .ok (.aload_n 1, 1) := by decide +kernel
theorem dL_law_236 : decode cL_law 236 = .ok (.aload_n 0, 1) := by decide +kernel
theorem dL_law_237 : decode cL_law 237 = .ok (.iload 4, 2) := by decide +kernel
theorem dL_law_239 : decode cL_law 239 = .ok (.iconst 1, 1) := by decide +kernel
theorem dL_law_240 : decode cL_law 240 = .ok (.iadd, 1) := by decide +kernel
theorem dL_law_241 : decode cL_law 241 = .ok (.iaload, 1) := by decide +kernel
theorem dL_law_242 : decode cL_law 242 = .ok (.invokevirtual 67, 3) := by decide +kernel
theorem dL_law_245 : decode cL_law 245 = .ok (.aload_n 2, 1) := by decide +kernel
theorem dL_law_246 : decode cL_law 246 = .ok (.aload_n 0, 1) := by decide +kernel
theorem dL_law_247 : decode cL_law 247 = .ok (.iload 4, 2) := by decide +kernel
theorem dL_law_249 : decode cL_law 249 = .ok (.iconst 1, 1) := by decide +kernel
theorem dL_law_250 : decode cL_law 250 = .ok (.iadd, 1) := by decide +kernel
theorem dL_law_251 : decode cL_law 251 = .ok (.iaload, 1) := by decide +kernel
theorem dL_law_252 : decode cL_law 252 = .ok (.invokevirtual 71, 3) := by decide +kernel
theorem dL_law_255 : decode cL_law 255 = .ok (.if_icmp .eq 480, 3) := by decide +kernel
theorem dL_law_258 : decode cL_law 258 = .ok (.iconst 0, 1) := by decide +kernel
theorem dL_law_259 : decode cL_law 259 = .ok (.ireturn, 1) := by decide +kernel
theorem dL_law_260 : decode cL_law 260 = .ok (.aload_n 1, 1) := by decide +kernel
theorem dL_law_261 : decode cL_law 261 = .ok (.aload_n 0, 1) := by decide +kernel
theorem dL_law_262 : decode cL_law 262 = .ok (.iload 4, 2) := by decide +kernel
theorem dL_law_264 : decode cL_law 264 = .ok (.iconst 1, 1) := by decide +kernel
theorem dL_law_265 : decode cL_law 265 = .ok (.iadd, 1) := by decide +kernel
theorem dL_law_266 : decode cL_law 266 = .ok (.iaload, 1) := by decide +kernel
theorem dL_law_267 : decode cL_law 267 = .ok (.invokevirtual 72, 3) := by decide +kernel
theorem dL_law_270 : decode cL_law 270 = .ok (.aload_n 2, 1) := by decide +kernel
theorem dL_law_271 : decode cL_law 271 = .ok (.aload_n 0, 1) := by decide +kernel
theorem dL_law_272 : decode cL_law 272 = .ok (.iload 4, 2) := by decide +kernel
theorem dL_law_274 : decode cL_law 274 = .ok (.iconst 1, 1) := by decide +kernel
theorem dL_law_275 : decode cL_law 275 = .ok (.iadd, 1) := by decide +kernel
theorem dL_law_276 : decode cL_law 276 = .ok (.iaload, 1) := by decide +kernel
theorem dL_law_277 : decode cL_law 277 = .ok (.invokevirtual 75, 3) := by decide +kernel
theorem dL_law_280 : decode cL_law 280 = .ok (.if_icmp .eq 455, 3) := by decide +kernel
theorem dL_law_283 : decode cL_law 283 = .ok (.iconst 0, 1) := by decide +kernel
theorem dL_law_284 : decode cL_law 284 = .ok (.ireturn, 1) := by decide +kernel
theorem dL_law_285 : decode cL_law 285 = .ok (.aload_n 1, 1) := by decide +kernel
theorem dL_law_286 : decode cL_law 286 = .ok (.aload_n 3, 1) := by decide +kernel
theorem dL_law_287 : decode cL_law 287 = .ok (.invokestatic 76, 3) := by decide +kernel
theorem dL_law_290 : decode cL_law 290 = .ok (.istore 5, 2) := by decide +kernel
theorem dL_law_292 : decode cL_law 292 = .ok (.aload_n 2, 1) := by decide +kernel
theorem dL_law_293 : decode cL_law 293 = .ok (.invokevirtual 79, 3) := by decide +kernel
theorem dL_law_296 : decode cL_law 296 = .ok (.istore 6, 2) := by decide +kernel
theorem dL_law_298 : decode cL_law 298 = .ok (.aload_n 2, 1) := by decide +kernel
theorem dL_law_299 : decode cL_law 299 = .ok (.invokevirtual 60, 3) := by decide +kernel
theorem dL_law_302 : decode cL_law 302 = .ok (.iload 5, 2) := by decide +kernel
theorem dL_law_304 : decode cL_law 304 = .ok (.if_icmp .eq 5, 3) := by decide +kernel
theorem dL_law_307 : decode cL_law 307 = .ok (.iconst 0, 1) := by decide +kernel
theorem dL_law_308 : decode cL_law 308 = .ok (.ireturn, 1) := by decide +kernel
theorem dL_law_309 : decode cL_law 309 = .ok (.iload 5, 2) := by decide +kernel
theorem dL_law_311 : decode cL_law 311 = .ok (.ifCond .ne 22, 3) := by decide +kernel
theorem dL_law_314 : decode cL_law 314 = .ok (.aload_n 3, 1) := by decide +kernel
theorem dL_law_315 : decode cL_law 315 = .ok (.iconst 0, 1) := by decide +kernel
theorem dL_law_316 : decode cL_law 316 = .ok (.laload, 1) := by decide +kernel
theorem dL_law_317 : decode cL_law 317 = .ok (.iload 6, 2) := by decide +kernel
theorem dL_law_319 : decode cL_law 319 = .ok (.ifCond .eq 7, 3) := by decide +kernel
theorem dL_law_322 : decode cL_law 322 = .ok (.lconst 1, 1) := by decide +kernel
theorem dL_law_323 : decode cL_law 323 = .ok (.goto 4, 3) := by decide +kernel
theorem dL_law_326 : decode cL_law 326 = .ok (.lconst 0, 1) := by decide +kernel
theorem dL_law_327 : decode cL_law 327 = .ok (.lcmp, 1) := by decide +kernel
theorem dL_law_328 : decode cL_law 328 = .ok (.ifCond .eq 5, 3) := by decide +kernel
theorem dL_law_331 : decode cL_law 331 = .ok (.iconst 0, 1) := by decide +kernel
theorem dL_law_332 : decode cL_law 332 = .ok (.ireturn, 1) := by decide +kernel
theorem dL_law_333 : decode cL_law 333 = .ok (.goto 402, 3) := by decide +kernel
theorem dL_law_336 : decode cL_law 336 = .ok (.aload_n 1, 1) := by decide +kernel
theorem dL_law_337 : decode cL_law 337 = .ok (.aload_n 0, 1) := by decide +kernel
theorem dL_law_338 : decode cL_law 338 = .ok (.iload 4, 2) := by decide +kernel
theorem dL_law_340 : decode cL_law 340 = .ok (.iconst 1, 1) := by decide +kernel
theorem dL_law_341 : decode cL_law 341 = .ok (.iadd, 1) := by decide +kernel
theorem dL_law_342 : decode cL_law 342 = .ok (.iaload, 1) := by decide +kernel
theorem dL_law_343 : decode cL_law 343 = .ok (.ifCond .eq 7, 3) := by decide +kernel
theorem dL_law_346 : decode cL_law 346 = .ok (.iconst 1, 1) := by decide +kernel
theorem dL_law_347 : decode cL_law 347 = .ok (.goto 4, 3) := by decide +kernel
theorem dL_law_350 : decode cL_law 350 = .ok (.iconst 0, 1) := by decide +kernel
theorem dL_law_351 : decode cL_law 351 = .ok (.aload_n 3, 1) := by decide +kernel
theorem dL_law_352 : decode cL_law 352 = .ok (.invokestatic 80, 3) := by decide +kernel
theorem dL_law_355 : decode cL_law 355 = .ok (.istore 5, 2) := by decide +kernel
theorem dL_law_357 : decode cL_law 357 = .ok (.aload_n 2, 1) := by decide +kernel
theorem dL_law_358 : decode cL_law 358 = .ok (.aload_n 0, 1) := by decide +kernel
theorem dL_law_359 : decode cL_law 359 = .ok (.iload 4, 2) := by decide +kernel
theorem dL_law_361 : decode cL_law 361 = .ok (.iconst 1, 1) := by decide +kernel
theorem dL_law_362 : decode cL_law 362 = .ok (.iadd, 1) := by decide +kernel
theorem dL_law_363 : decode cL_law 363 = .ok (.iaload, 1) := by decide +kernel
theorem dL_law_364 : decode cL_law 364 = .ok (.ifCond .eq 7, 3) := by decide +kernel
theorem dL_law_367 : decode cL_law 367 = .ok (.iconst 1, 1) := by decide +kernel
theorem dL_law_368 : decode cL_law 368 = .ok (.goto 4, 3) := by decide +kernel
theorem dL_law_371 : decode cL_law 371 = .ok (.iconst 0, 1) := by decide +kernel
theorem dL_law_372 : decode cL_law 372 = .ok (.invokevirtual 83, 3) := by decide +kernel
theorem dL_law_375 : decode cL_law 375 = .ok (.istore 6, 2) := by decide +kernel
theorem dL_law_377 : decode cL_law 377 = .ok (.aload_n 2, 1) := by decide +kernel
theorem dL_law_378 : decode cL_law 378 = .ok (.invokevirtual 60, 3) := by decide +kernel
theorem dL_law_381 : decode cL_law 381 = .ok (.iload 5, 2) := by decide +kernel
theorem dL_law_383 : decode cL_law 383 = .ok (.if_icmp .eq 5, 3) := by decide +kernel
theorem dL_law_386 : decode cL_law 386 = .ok (.iconst 0, 1) := by decide +kernel
theorem dL_law_387 : decode cL_law 387 = .ok (.ireturn, 1) := by decide +kernel
theorem dL_law_388 : decode cL_law 388 = .ok (.iload 5, 2) := by decide +kernel
theorem dL_law_390 : decode cL_law 390 = .ok (.ifCond .ne 15, 3) := by decide +kernel
theorem dL_law_393 : decode cL_law 393 = .ok (.aload_n 3, 1) := by decide +kernel
theorem dL_law_394 : decode cL_law 394 = .ok (.iconst 0, 1) := by decide +kernel
theorem dL_law_395 : decode cL_law 395 = .ok (.laload, 1) := by decide +kernel
theorem dL_law_396 : decode cL_law 396 = .ok (.iload 6, 2) := by decide +kernel
theorem dL_law_398 : decode cL_law 398 = .ok (.i2l, 1) := by decide +kernel
theorem dL_law_399 : decode cL_law 399 = .ok (.lcmp, 1) := by decide +kernel
theorem dL_law_400 : decode cL_law 400 = .ok (.ifCond .eq 5, 3) := by decide +kernel
theorem dL_law_403 : decode cL_law 403 = .ok (.iconst 0, 1) := by decide +kernel
theorem dL_law_404 : decode cL_law 404 = .ok (.ireturn, 1) := by decide +kernel
theorem dL_law_405 : decode cL_law 405 = .ok (.goto 330, 3) := by decide +kernel
theorem dL_law_408 : decode cL_law 408 = .ok (.aload_n 1, 1) := by decide +kernel
theorem dL_law_409 : decode cL_law 409 = .ok (.invokevirtual 84, 3) := by decide +kernel
theorem dL_law_412 : decode cL_law 412 = .ok (.aload_n 2, 1) := by decide +kernel
theorem dL_law_413 : decode cL_law 413 = .ok (.invokevirtual 87, 3) := by decide +kernel
theorem dL_law_416 : decode cL_law 416 = .ok (.if_icmp .eq 319, 3) := by decide +kernel
theorem dL_law_419 : decode cL_law 419 = .ok (.iconst 0, 1) := by decide +kernel
theorem dL_law_420 : decode cL_law 420 = .ok (.ireturn, 1) := by decide +kernel
theorem dL_law_421 : decode cL_law 421 = .ok (.aload_n 1, 1) := by decide +kernel
theorem dL_law_422 : decode cL_law 422 = .ok (.aload_n 3, 1) := by decide +kernel
theorem dL_law_423 : decode cL_law 423 = .ok (.invokestatic 88, 3) := by decide +kernel
theorem dL_law_426 : decode cL_law 426 = .ok (.istore 5, 2) := by decide +kernel
theorem dL_law_428 : decode cL_law 428 = .ok (.aload_n 2, 1) := by decide +kernel
theorem dL_law_429 : decode cL_law 429 = .ok (.invokevirtual 90, 3) := by decide +kernel
theorem dL_law_432 : decode cL_law 432 = .ok (.istore 6, 2) := by decide +kernel
theorem dL_law_434 : decode cL_law 434 = .ok (.aload_n 2, 1) := by decide +kernel
theorem dL_law_435 : decode cL_law 435 = .ok (.invokevirtual 60, 3) := by decide +kernel
theorem dL_law_438 : decode cL_law 438 = .ok (.iload 5, 2) := by decide +kernel
theorem dL_law_440 : decode cL_law 440 = .ok (.if_icmp .eq 5, 3) := by decide +kernel
theorem dL_law_443 : decode cL_law 443 = .ok (.iconst 0, 1) := by decide +kernel
theorem dL_law_444 : decode cL_law 444 = .ok (.ireturn, 1) := by decide +kernel
theorem dL_law_445 : decode cL_law 445 = .ok (.iload 5, 2) := by decide +kernel
theorem dL_law_447 : decode cL_law 447 = .ok (.ifCond .ne 15, 3) := by decide +kernel
theorem dL_law_450 : decode cL_law 450 = .ok (.aload_n 3, 1) := by decide +kernel
theorem dL_law_451 : decode cL_law 451 = .ok (.iconst 0, 1) := by decide +kernel
theorem dL_law_452 : decode cL_law 452 = .ok (.laload, 1) := by decide +kernel
theorem dL_law_453 : decode cL_law 453 = .ok (.iload 6, 2) := by decide +kernel
theorem dL_law_455 : decode cL_law 455 = .ok (.i2l, 1) := by decide +kernel
theorem dL_law_456 : decode cL_law 456 = .ok (.lcmp, 1) := by decide +kernel
theorem dL_law_457 : decode cL_law 457 = .ok (.ifCond .eq 5, 3) := by decide +kernel
theorem dL_law_460 : decode cL_law 460 = .ok (.iconst 0, 1) := by decide +kernel
theorem dL_law_461 : decode cL_law 461 = .ok (.ireturn, 1) := by decide +kernel
theorem dL_law_462 : decode cL_law 462 = .ok (.goto 273, 3) := by decide +kernel
theorem dL_law_465 : decode cL_law 465 = .ok (.aload_n 1, 1) := by decide +kernel
theorem dL_law_466 : decode cL_law 466 = .ok (.aload_n 0, 1) := by decide +kernel
theorem dL_law_467 : decode cL_law 467 = .ok (.iload 4, 2) := by decide +kernel
theorem dL_law_469 : decode cL_law 469 = .ok (.iconst 1, 1) := by decide +kernel
theorem dL_law_470 : decode cL_law 470 = .ok (.iadd, 1) := by decide +kernel
theorem dL_law_471 : decode cL_law 471 = .ok (.iaload, 1) := by decide +kernel
theorem dL_law_472 : decode cL_law 472 = .ok (.aload_n 0, 1) := by decide +kernel
theorem dL_law_473 : decode cL_law 473 = .ok (.iload 4, 2) := by decide +kernel
theorem dL_law_475 : decode cL_law 475 = .ok (.iconst 2, 1) := by decide +kernel
theorem dL_law_476 : decode cL_law 476 = .ok (.iadd, 1) := by decide +kernel
theorem dL_law_477 : decode cL_law 477 = .ok (.iaload, 1) := by decide +kernel
theorem dL_law_478 : decode cL_law 478 = .ok (.aload_n 3, 1) := by decide +kernel
theorem dL_law_479 : decode cL_law 479 = .ok (.invokestatic 91, 3) := by decide +kernel
theorem dL_law_482 : decode cL_law 482 = .ok (.istore 5, 2) := by decide +kernel
theorem dL_law_484 : decode cL_law 484 = .ok (.aload_n 2, 1) := by decide +kernel
theorem dL_law_485 : decode cL_law 485 = .ok (.aload_n 0, 1) := by decide +kernel
theorem dL_law_486 : decode cL_law 486 = .ok (.iload 4, 2) := by decide +kernel
theorem dL_law_488 : decode cL_law 488 = .ok (.iconst 1, 1) := by decide +kernel
theorem dL_law_489 : decode cL_law 489 = .ok (.iadd, 1) := by decide +kernel
theorem dL_law_490 : decode cL_law 490 = .ok (.iaload, 1) := by decide +kernel
theorem dL_law_491 : decode cL_law 491 = .ok (.aload_n 0, 1) := by decide +kernel
theorem dL_law_492 : decode cL_law 492 = .ok (.iload 4, 2) := by decide +kernel
theorem dL_law_494 : decode cL_law 494 = .ok (.iconst 2, 1) := by decide +kernel
theorem dL_law_495 : decode cL_law 495 = .ok (.iadd, 1) := by decide +kernel
theorem dL_law_496 : decode cL_law 496 = .ok (.iaload, 1) := by decide +kernel
theorem dL_law_497 : decode cL_law 497 = .ok (.invokevirtual 93, 3) := by decide +kernel
theorem dL_law_500 : decode cL_law 500 = .ok (.istore 6, 2) := by decide +kernel
theorem dL_law_502 : decode cL_law 502 = .ok (.aload_n 2, 1) := by decide +kernel
theorem dL_law_503 : decode cL_law 503 = .ok (.invokevirtual 60, 3) := by decide +kernel
theorem dL_law_506 : decode cL_law 506 = .ok (.iload 5, 2) := by decide +kernel
theorem dL_law_508 : decode cL_law 508 = .ok (.if_icmp .eq 5, 3) := by decide +kernel
theorem dL_law_511 : decode cL_law 511 = .ok (.iconst 0, 1) := by decide +kernel
theorem dL_law_512 : decode cL_law 512 = .ok (.ireturn, 1) := by decide +kernel
theorem dL_law_513 : decode cL_law 513 = .ok (.iload 5, 2) := by decide +kernel
theorem dL_law_515 : decode cL_law 515 = .ok (.ifCond .ne 15, 3) := by decide +kernel
theorem dL_law_518 : decode cL_law 518 = .ok (.aload_n 3, 1) := by decide +kernel
theorem dL_law_519 : decode cL_law 519 = .ok (.iconst 0, 1) := by decide +kernel
theorem dL_law_520 : decode cL_law 520 = .ok (.laload, 1) := by decide +kernel
theorem dL_law_521 : decode cL_law 521 = .ok (.iload 6, 2) := by decide +kernel
theorem dL_law_523 : decode cL_law 523 = .ok (.i2l, 1) := by decide +kernel
theorem dL_law_524 : decode cL_law 524 = .ok (.lcmp, 1) := by decide +kernel
theorem dL_law_525 : decode cL_law 525 = .ok (.ifCond .eq 5, 3) := by decide +kernel
theorem dL_law_528 : decode cL_law 528 = .ok (.iconst 0, 1) := by decide +kernel
theorem dL_law_529 : decode cL_law 529 = .ok (.ireturn, 1) := by decide +kernel
theorem dL_law_530 : decode cL_law 530 = .ok (.goto 205, 3) := by decide +kernel
theorem dL_law_533 : decode cL_law 533 = .ok (.aload_n 1, 1) := by decide +kernel
theorem dL_law_534 : decode cL_law 534 = .ok (.aload_n 0, 1) := by decide +kernel
theorem dL_law_535 : decode cL_law 535 = .ok (.iload 4, 2) := by decide +kernel
theorem dL_law_537 : decode cL_law 537 = .ok (.iconst 1, 1) := by decide +kernel
theorem dL_law_538 : decode cL_law 538 = .ok (.iadd, 1) := by decide +kernel
theorem dL_law_539 : decode cL_law 539 = .ok (.iaload, 1) := by decide +kernel
theorem dL_law_540 : decode cL_law 540 = .ok (.aload_n 0, 1) := by decide +kernel
theorem dL_law_541 : decode cL_law 541 = .ok (.iload 4, 2) := by decide +kernel
theorem dL_law_543 : decode cL_law 543 = .ok (.iconst 2, 1) := by decide +kernel
theorem dL_law_544 : decode cL_law 544 = .ok (.iadd, 1) := by decide +kernel
theorem dL_law_545 : decode cL_law 545 = .ok (.iaload, 1) := by decide +kernel
theorem dL_law_546 : decode cL_law 546 = .ok (.aload_n 0, 1) := by decide +kernel
theorem dL_law_547 : decode cL_law 547 = .ok (.iload 4, 2) := by decide +kernel
theorem dL_law_549 : decode cL_law 549 = .ok (.iconst 3, 1) := by decide +kernel
theorem dL_law_550 : decode cL_law 550 = .ok (.iadd, 1) := by decide +kernel
theorem dL_law_551 : decode cL_law 551 = .ok (.iaload, 1) := by decide +kernel
theorem dL_law_552 : decode cL_law 552 = .ok (.ifCond .eq 7, 3) := by decide +kernel
theorem dL_law_555 : decode cL_law 555 = .ok (.iconst 1, 1) := by decide +kernel
theorem dL_law_556 : decode cL_law 556 = .ok (.goto 4, 3) := by decide +kernel
theorem dL_law_559 : decode cL_law 559 = .ok (.iconst 0, 1) := by decide +kernel
theorem dL_law_560 : decode cL_law 560 = .ok (.aload_n 3, 1) := by decide +kernel
theorem dL_law_561 : decode cL_law 561 = .ok (.invokestatic 94, 3) := by decide +kernel
theorem dL_law_564 : decode cL_law 564 = .ok (.istore 5, 2) := by decide +kernel
theorem dL_law_566 : decode cL_law 566 = .ok (.aload_n 2, 1) := by decide +kernel
theorem dL_law_567 : decode cL_law 567 = .ok (.aload_n 0, 1) := by decide +kernel
theorem dL_law_568 : decode cL_law 568 = .ok (.iload 4, 2) := by decide +kernel
theorem dL_law_570 : decode cL_law 570 = .ok (.iconst 1, 1) := by decide +kernel
theorem dL_law_571 : decode cL_law 571 = .ok (.iadd, 1) := by decide +kernel
theorem dL_law_572 : decode cL_law 572 = .ok (.iaload, 1) := by decide +kernel
theorem dL_law_573 : decode cL_law 573 = .ok (.aload_n 0, 1) := by decide +kernel
theorem dL_law_574 : decode cL_law 574 = .ok (.iload 4, 2) := by decide +kernel
theorem dL_law_576 : decode cL_law 576 = .ok (.iconst 2, 1) := by decide +kernel
theorem dL_law_577 : decode cL_law 577 = .ok (.iadd, 1) := by decide +kernel
theorem dL_law_578 : decode cL_law 578 = .ok (.iaload, 1) := by decide +kernel
theorem dL_law_579 : decode cL_law 579 = .ok (.aload_n 0, 1) := by decide +kernel
theorem dL_law_580 : decode cL_law 580 = .ok (.iload 4, 2) := by decide +kernel
theorem dL_law_582 : decode cL_law 582 = .ok (.iconst 3, 1) := by decide +kernel
theorem dL_law_583 : decode cL_law 583 = .ok (.iadd, 1) := by decide +kernel
theorem dL_law_584 : decode cL_law 584 = .ok (.iaload, 1) := by decide +kernel
theorem dL_law_585 : decode cL_law 585 = .ok (.ifCond .eq 7, 3) := by decide +kernel
theorem dL_law_588 : decode cL_law 588 = .ok (.iconst 1, 1) := by decide +kernel
theorem dL_law_589 : decode cL_law 589 = .ok (.goto 4, 3) := by decide +kernel
theorem dL_law_592 : decode cL_law 592 = .ok (.iconst 0, 1) := by decide +kernel
theorem dL_law_593 : decode cL_law 593 = .ok (.invokevirtual 97, 3) := by decide +kernel
theorem dL_law_596 : decode cL_law 596 = .ok (.istore 6, 2) := by decide +kernel
theorem dL_law_598 : decode cL_law 598 = .ok (.aload_n 2, 1) := by decide +kernel
theorem dL_law_599 : decode cL_law 599 = .ok (.invokevirtual 60, 3) := by decide +kernel
theorem dL_law_602 : decode cL_law 602 = .ok (.iload 5, 2) := by decide +kernel
theorem dL_law_604 : decode cL_law 604 = .ok (.if_icmp .eq 5, 3) := by decide +kernel
theorem dL_law_607 : decode cL_law 607 = .ok (.iconst 0, 1) := by decide +kernel
theorem dL_law_608 : decode cL_law 608 = .ok (.ireturn, 1) := by decide +kernel
theorem dL_law_609 : decode cL_law 609 = .ok (.iload 5, 2) := by decide +kernel
theorem dL_law_611 : decode cL_law 611 = .ok (.ifCond .ne 15, 3) := by decide +kernel
theorem dL_law_614 : decode cL_law 614 = .ok (.aload_n 3, 1) := by decide +kernel
theorem dL_law_615 : decode cL_law 615 = .ok (.iconst 0, 1) := by decide +kernel
theorem dL_law_616 : decode cL_law 616 = .ok (.laload, 1) := by decide +kernel
theorem dL_law_617 : decode cL_law 617 = .ok (.iload 6, 2) := by decide +kernel
theorem dL_law_619 : decode cL_law 619 = .ok (.i2l, 1) := by decide +kernel
theorem dL_law_620 : decode cL_law 620 = .ok (.lcmp, 1) := by decide +kernel
theorem dL_law_621 : decode cL_law 621 = .ok (.ifCond .eq 5, 3) := by decide +kernel
theorem dL_law_624 : decode cL_law 624 = .ok (.iconst 0, 1) := by decide +kernel
theorem dL_law_625 : decode cL_law 625 = .ok (.ireturn, 1) := by decide +kernel
theorem dL_law_626 : decode cL_law 626 = .ok (.goto 109, 3) := by decide +kernel
theorem dL_law_629 : decode cL_law 629 = .ok (.aload_n 1, 1) := by decide +kernel
theorem dL_law_630 : decode cL_law 630 = .ok (.aload_n 0, 1) := by decide +kernel
theorem dL_law_631 : decode cL_law 631 = .ok (.iload 4, 2) := by decide +kernel
theorem dL_law_633 : decode cL_law 633 = .ok (.iconst 1, 1) := by decide +kernel
theorem dL_law_634 : decode cL_law 634 = .ok (.iadd, 1) := by decide +kernel
theorem dL_law_635 : decode cL_law 635 = .ok (.iaload, 1) := by decide +kernel
theorem dL_law_636 : decode cL_law 636 = .ok (.aload_n 0, 1) := by decide +kernel
theorem dL_law_637 : decode cL_law 637 = .ok (.iload 4, 2) := by decide +kernel
theorem dL_law_639 : decode cL_law 639 = .ok (.iconst 2, 1) := by decide +kernel
theorem dL_law_640 : decode cL_law 640 = .ok (.iadd, 1) := by decide +kernel
theorem dL_law_641 : decode cL_law 641 = .ok (.iaload, 1) := by decide +kernel
theorem dL_law_642 : decode cL_law 642 = .ok (.aload_n 3, 1) := by decide +kernel
theorem dL_law_643 : decode cL_law 643 = .ok (.invokestatic 98, 3) := by decide +kernel
theorem dL_law_646 : decode cL_law 646 = .ok (.istore 5, 2) := by decide +kernel
theorem dL_law_648 : decode cL_law 648 = .ok (.aload_n 2, 1) := by decide +kernel
theorem dL_law_649 : decode cL_law 649 = .ok (.aload_n 0, 1) := by decide +kernel
theorem dL_law_650 : decode cL_law 650 = .ok (.iload 4, 2) := by decide +kernel
theorem dL_law_652 : decode cL_law 652 = .ok (.iconst 1, 1) := by decide +kernel
theorem dL_law_653 : decode cL_law 653 = .ok (.iadd, 1) := by decide +kernel
theorem dL_law_654 : decode cL_law 654 = .ok (.iaload, 1) := by decide +kernel
theorem dL_law_655 : decode cL_law 655 = .ok (.aload_n 0, 1) := by decide +kernel
theorem dL_law_656 : decode cL_law 656 = .ok (.iload 4, 2) := by decide +kernel
theorem dL_law_658 : decode cL_law 658 = .ok (.iconst 2, 1) := by decide +kernel
theorem dL_law_659 : decode cL_law 659 = .ok (.iadd, 1) := by decide +kernel
theorem dL_law_660 : decode cL_law 660 = .ok (.iaload, 1) := by decide +kernel
theorem dL_law_661 : decode cL_law 661 = .ok (.invokevirtual 100, 3) := by decide +kernel
theorem dL_law_664 : decode cL_law 664 = .ok (.istore 6, 2) := by decide +kernel
theorem dL_law_666 : decode cL_law 666 = .ok (.aload_n 2, 1) := by decide +kernel
theorem dL_law_667 : decode cL_law 667 = .ok (.invokevirtual 60, 3) := by decide +kernel
theorem dL_law_670 : decode cL_law 670 = .ok (.iload 5, 2) := by decide +kernel
theorem dL_law_672 : decode cL_law 672 = .ok (.if_icmp .eq 5, 3) := by decide +kernel
theorem dL_law_675 : decode cL_law 675 = .ok (.iconst 0, 1) := by decide +kernel
theorem dL_law_676 : decode cL_law 676 = .ok (.ireturn, 1) := by decide +kernel
theorem dL_law_677 : decode cL_law 677 = .ok (.iload 5, 2) := by decide +kernel
theorem dL_law_679 : decode cL_law 679 = .ok (.ifCond .ne 15, 3) := by decide +kernel
theorem dL_law_682 : decode cL_law 682 = .ok (.aload_n 3, 1) := by decide +kernel
theorem dL_law_683 : decode cL_law 683 = .ok (.iconst 0, 1) := by decide +kernel
theorem dL_law_684 : decode cL_law 684 = .ok (.laload, 1) := by decide +kernel
theorem dL_law_685 : decode cL_law 685 = .ok (.iload 6, 2) := by decide +kernel
theorem dL_law_687 : decode cL_law 687 = .ok (.i2l, 1) := by decide +kernel
theorem dL_law_688 : decode cL_law 688 = .ok (.lcmp, 1) := by decide +kernel
theorem dL_law_689 : decode cL_law 689 = .ok (.ifCond .eq 5, 3) := by decide +kernel
theorem dL_law_692 : decode cL_law 692 = .ok (.iconst 0, 1) := by decide +kernel
theorem dL_law_693 : decode cL_law 693 = .ok (.ireturn, 1) := by decide +kernel
theorem dL_law_694 : decode cL_law 694 = .ok (.goto 41, 3) := by decide +kernel
theorem dL_law_697 : decode cL_law 697 = .ok (.aload_n 1, 1) := by decide +kernel
theorem dL_law_698 : decode cL_law 698 = .ok (.aload_n 0, 1) := by decide +kernel
theorem dL_law_699 : decode cL_law 699 = .ok (.iload 4, 2) := by decide +kernel
theorem dL_law_701 : decode cL_law 701 = .ok (.iconst 1, 1) := by decide +kernel
theorem dL_law_702 : decode cL_law 702 = .ok (.iadd, 1) := by decide +kernel
theorem dL_law_703 : decode cL_law 703 = .ok (.iaload, 1) := by decide +kernel
theorem dL_law_704 : decode cL_law 704 = .ok (.invokevirtual 101, 3) := by decide +kernel
theorem dL_law_707 : decode cL_law 707 = .ok (.aload_n 2, 1) := by decide +kernel
theorem dL_law_708 : decode cL_law 708 = .ok (.aload_n 0, 1) := by decide +kernel
theorem dL_law_709 : decode cL_law 709 = .ok (.iload 4, 2) := by decide +kernel
theorem dL_law_711 : decode cL_law 711 = .ok (.iconst 1, 1) := by decide +kernel
theorem dL_law_712 : decode cL_law 712 = .ok (.iadd, 1) := by decide +kernel
theorem dL_law_713 : decode cL_law 713 = .ok (.iaload, 1) := by decide +kernel
theorem dL_law_714 : decode cL_law 714 = .ok (.invokevirtual 104, 3) := by decide +kernel
theorem dL_law_717 : decode cL_law 717 = .ok (.if_icmp .eq 18, 3) := by decide +kernel
theorem dL_law_720 : decode cL_law 720 = .ok (.iconst 0, 1) := by decide +kernel
theorem dL_law_721 : decode cL_law 721 = .ok (.ireturn, 1) := by decide +kernel
theorem dL_law_722 : decode cL_law 722 = .ok (.aload_n 1, 1) := by decide +kernel
theorem dL_law_723 : decode cL_law 723 = .ok (.invokevirtual 105, 3) := by decide +kernel
theorem dL_law_726 : decode cL_law 726 = .ok (.aload_n 2, 1) := by decide +kernel
theorem dL_law_727 : decode cL_law 727 = .ok (.invokevirtual 108, 3) := by decide +kernel
theorem dL_law_730 : decode cL_law 730 = .ok (.if_icmp .eq 5, 3) := by decide +kernel
theorem dL_law_733 : decode cL_law 733 = .ok (.iconst 0, 1) := by decide +kernel
theorem dL_law_734 : decode cL_law 734 = .ok (.ireturn, 1) := by decide +kernel
theorem dL_law_735 : decode cL_law 735 = .ok (.iinc 4 4, 3) := by decide +kernel
theorem dL_law_738 : decode cL_law 738 = .ok (.goto (-715), 3) := by decide +kernel
theorem dL_law_741 : decode cL_law 741 = .ok (.iconst 1, 1) := by decide +kernel
theorem dL_law_742 : decode cL_law 742 = .ok (.ireturn, 1) := by decide +kernel
end
section
theorem zz_last : True := trivial
end
