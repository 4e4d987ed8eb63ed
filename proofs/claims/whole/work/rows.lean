section
-- ===== PART A: goes FIRST, ahead of the names: the tables' words, and 'selects' of the private methods out of them =====
/-- a private method of a class that the tables say can be made, by its rows of tables_1 -/
def lw_okq (q : MethodName × Nat) : Prop := (q.1.cls ≠ "java/lang/invoke/MethodHandle" ∧ q.1.cls ≠ "java/lang/invoke/VarHandle") ∧ Cond.instantiable q.1.cls q.2 ∈ tables_1 ∧ Cond.privateMethod q.1 ∈ tables_1 ∧ Cond.instanceMethod q.1 ∈ tables_1
theorem lw_p0 : lw_okq (⟨"java/lang/Throwable", "fillInStackTrace", "(I)Ljava/lang/Throwable;"⟩, 6) := ⟨⟨by decide +kernel, by decide +kernel⟩, List.mem_of_getElem? (i := 190) (by decide +kernel), List.mem_of_getElem? (i := 188) (by decide +kernel), List.mem_of_getElem? (i := 189) (by decide +kernel)⟩
theorem lw_p1 : lw_okq (⟨"ShelfServer$Shelf", "isCollection", "(I)Z"⟩, 2) := ⟨⟨by decide +kernel, by decide +kernel⟩, List.mem_of_getElem? (i := 22) (by decide +kernel), List.mem_of_getElem? (i := 238) (by decide +kernel), List.mem_of_getElem? (i := 239) (by decide +kernel)⟩
theorem lw_p2 : lw_okq (⟨"ShelfServer$Shelf", "kindAt", "(I)I"⟩, 2) := ⟨⟨by decide +kernel, by decide +kernel⟩, List.mem_of_getElem? (i := 22) (by decide +kernel), List.mem_of_getElem? (i := 242) (by decide +kernel), List.mem_of_getElem? (i := 243) (by decide +kernel)⟩
theorem lw_p3 : lw_okq (⟨"ShelfServer$Shelf", "find", "(I)LShelfServer$Resource;"⟩, 2) := ⟨⟨by decide +kernel, by decide +kernel⟩, List.mem_of_getElem? (i := 22) (by decide +kernel), List.mem_of_getElem? (i := 246) (by decide +kernel), List.mem_of_getElem? (i := 247) (by decide +kernel)⟩
theorem lw_p4 : lw_okq (⟨"ShelfServer$Shelf", "indexOf", "(I)I"⟩, 2) := ⟨⟨by decide +kernel, by decide +kernel⟩, List.mem_of_getElem? (i := 22) (by decide +kernel), List.mem_of_getElem? (i := 250) (by decide +kernel), List.mem_of_getElem? (i := 251) (by decide +kernel)⟩
theorem lw_p5 : lw_okq (⟨"ShelfServer", "allowsWithParent", "(III)Z"⟩, 4) := ⟨⟨by decide +kernel, by decide +kernel⟩, List.mem_of_getElem? (i := 14) (by decide +kernel), List.mem_of_getElem? (i := 255) (by decide +kernel), List.mem_of_getElem? (i := 256) (by decide +kernel)⟩
theorem lw_p6 : lw_okq (⟨"ShelfServer$Locks", "allows", "(III)Z"⟩, 3) := ⟨⟨by decide +kernel, by decide +kernel⟩, List.mem_of_getElem? (i := 72) (by decide +kernel), List.mem_of_getElem? (i := 259) (by decide +kernel), List.mem_of_getElem? (i := 260) (by decide +kernel)⟩
theorem lw_p7 : lw_okq (⟨"ShelfServer$Locks", "tokensOver", "(I)I"⟩, 3) := ⟨⟨by decide +kernel, by decide +kernel⟩, List.mem_of_getElem? (i := 72) (by decide +kernel), List.mem_of_getElem? (i := 263) (by decide +kernel), List.mem_of_getElem? (i := 264) (by decide +kernel)⟩
theorem lw_p8 : lw_okq (⟨"ShelfServer$Locks", "find", "(I)LShelfServer$Lock;"⟩, 3) := ⟨⟨by decide +kernel, by decide +kernel⟩, List.mem_of_getElem? (i := 72) (by decide +kernel), List.mem_of_getElem? (i := 267) (by decide +kernel), List.mem_of_getElem? (i := 268) (by decide +kernel)⟩
theorem lw_p9 : lw_okq (⟨"ShelfServer$Lock", "covers", "(I)Z"⟩, 5) := ⟨⟨by decide +kernel, by decide +kernel⟩, List.mem_of_getElem? (i := 79) (by decide +kernel), List.mem_of_getElem? (i := 271) (by decide +kernel), List.mem_of_getElem? (i := 272) (by decide +kernel)⟩
theorem lw_p10 : lw_okq (⟨"ShelfServer$Shelf", "append", "(III)V"⟩, 2) := ⟨⟨by decide +kernel, by decide +kernel⟩, List.mem_of_getElem? (i := 22) (by decide +kernel), List.mem_of_getElem? (i := 278) (by decide +kernel), List.mem_of_getElem? (i := 279) (by decide +kernel)⟩
theorem lw_p11 : lw_okq (⟨"ShelfServer$Resource", "begin", "(III)V"⟩, 6) := ⟨⟨by decide +kernel, by decide +kernel⟩, List.mem_of_getElem? (i := 29) (by decide +kernel), List.mem_of_getElem? (i := 282) (by decide +kernel), List.mem_of_getElem? (i := 283) (by decide +kernel)⟩
theorem lw_p12 : lw_okq (⟨"ShelfServer", "outcomeOfWriting", "(IIII)I"⟩, 4) := ⟨⟨by decide +kernel, by decide +kernel⟩, List.mem_of_getElem? (i := 14) (by decide +kernel), List.mem_of_getElem? (i := 293) (by decide +kernel), List.mem_of_getElem? (i := 294) (by decide +kernel)⟩
theorem lw_p13 : lw_okq (⟨"ShelfServer$Shelf", "findFile", "(I)LShelfServer$Resource;"⟩, 2) := ⟨⟨by decide +kernel, by decide +kernel⟩, List.mem_of_getElem? (i := 22) (by decide +kernel), List.mem_of_getElem? (i := 297) (by decide +kernel), List.mem_of_getElem? (i := 298) (by decide +kernel)⟩
theorem lw_p14 : lw_okq (⟨"ShelfServer", "write", "(II)V"⟩, 4) := ⟨⟨by decide +kernel, by decide +kernel⟩, List.mem_of_getElem? (i := 14) (by decide +kernel), List.mem_of_getElem? (i := 301) (by decide +kernel), List.mem_of_getElem? (i := 302) (by decide +kernel)⟩
theorem lw_p15 : lw_okq (⟨"ShelfServer", "noteFailures", "(III)V"⟩, 4) := ⟨⟨by decide +kernel, by decide +kernel⟩, List.mem_of_getElem? (i := 14) (by decide +kernel), List.mem_of_getElem? (i := 312) (by decide +kernel), List.mem_of_getElem? (i := 313) (by decide +kernel)⟩
def lw_privs_1 : List (MethodName × Nat) := [(⟨"java/lang/Throwable", "fillInStackTrace", "(I)Ljava/lang/Throwable;"⟩, 6), (⟨"ShelfServer$Shelf", "isCollection", "(I)Z"⟩, 2), (⟨"ShelfServer$Shelf", "kindAt", "(I)I"⟩, 2), (⟨"ShelfServer$Shelf", "find", "(I)LShelfServer$Resource;"⟩, 2), (⟨"ShelfServer$Shelf", "indexOf", "(I)I"⟩, 2), (⟨"ShelfServer", "allowsWithParent", "(III)Z"⟩, 4), (⟨"ShelfServer$Locks", "allows", "(III)Z"⟩, 3), (⟨"ShelfServer$Locks", "tokensOver", "(I)I"⟩, 3), (⟨"ShelfServer$Locks", "find", "(I)LShelfServer$Lock;"⟩, 3), (⟨"ShelfServer$Lock", "covers", "(I)Z"⟩, 5), (⟨"ShelfServer$Shelf", "append", "(III)V"⟩, 2), (⟨"ShelfServer$Resource", "begin", "(III)V"⟩, 6), (⟨"ShelfServer", "outcomeOfWriting", "(IIII)I"⟩, 4), (⟨"ShelfServer$Shelf", "findFile", "(I)LShelfServer$Resource;"⟩, 2), (⟨"ShelfServer", "write", "(II)V"⟩, 4), (⟨"ShelfServer", "noteFailures", "(III)V"⟩, 4)]
theorem lw_r1 : ∀ q ∈ lw_privs_1, lw_okq q := List.forall_mem_cons.mpr ⟨lw_p0, List.forall_mem_cons.mpr ⟨lw_p1, List.forall_mem_cons.mpr ⟨lw_p2, List.forall_mem_cons.mpr ⟨lw_p3, List.forall_mem_cons.mpr ⟨lw_p4, List.forall_mem_cons.mpr ⟨lw_p5, List.forall_mem_cons.mpr ⟨lw_p6, List.forall_mem_cons.mpr ⟨lw_p7, List.forall_mem_cons.mpr ⟨lw_p8, List.forall_mem_cons.mpr ⟨lw_p9, List.forall_mem_cons.mpr ⟨lw_p10, List.forall_mem_cons.mpr ⟨lw_p11, List.forall_mem_cons.mpr ⟨lw_p12, List.forall_mem_cons.mpr ⟨lw_p13, List.forall_mem_cons.mpr ⟨lw_p14, List.forall_mem_cons.mpr ⟨lw_p15, fun _ h => absurd h List.not_mem_nil⟩⟩⟩⟩⟩⟩⟩⟩⟩⟩⟩⟩⟩⟩⟩⟩
theorem lw_p16 : lw_okq (⟨"ShelfServer", "insertFailure", "(I)V"⟩, 4) := ⟨⟨by decide +kernel, by decide +kernel⟩, List.mem_of_getElem? (i := 14) (by decide +kernel), List.mem_of_getElem? (i := 317) (by decide +kernel), List.mem_of_getElem? (i := 318) (by decide +kernel)⟩
theorem lw_p17 : lw_okq (⟨"ShelfServer$Shelf", "markTree", "(I)V"⟩, 2) := ⟨⟨by decide +kernel, by decide +kernel⟩, List.mem_of_getElem? (i := 22) (by decide +kernel), List.mem_of_getElem? (i := 321) (by decide +kernel), List.mem_of_getElem? (i := 322) (by decide +kernel)⟩
theorem lw_p18 : lw_okq (⟨"ShelfServer", "spareFailures", "()V"⟩, 4) := ⟨⟨by decide +kernel, by decide +kernel⟩, List.mem_of_getElem? (i := 14) (by decide +kernel), List.mem_of_getElem? (i := 328) (by decide +kernel), List.mem_of_getElem? (i := 329) (by decide +kernel)⟩
theorem lw_p19 : lw_okq (⟨"ShelfServer$Shelf", "spareUpFrom", "(I)V"⟩, 2) := ⟨⟨by decide +kernel, by decide +kernel⟩, List.mem_of_getElem? (i := 22) (by decide +kernel), List.mem_of_getElem? (i := 332) (by decide +kernel), List.mem_of_getElem? (i := 333) (by decide +kernel)⟩
theorem lw_p20 : lw_okq (⟨"ShelfServer", "removeMarked", "()V"⟩, 4) := ⟨⟨by decide +kernel, by decide +kernel⟩, List.mem_of_getElem? (i := 14) (by decide +kernel), List.mem_of_getElem? (i := 336) (by decide +kernel), List.mem_of_getElem? (i := 337) (by decide +kernel)⟩
theorem lw_p21 : lw_okq (⟨"ShelfServer$Locks", "dropAt", "(I)V"⟩, 3) := ⟨⟨by decide +kernel, by decide +kernel⟩, List.mem_of_getElem? (i := 72) (by decide +kernel), List.mem_of_getElem? (i := 340) (by decide +kernel), List.mem_of_getElem? (i := 341) (by decide +kernel)⟩
theorem lw_p22 : lw_okq (⟨"ShelfServer$Shelf", "removeMarked", "()V"⟩, 2) := ⟨⟨by decide +kernel, by decide +kernel⟩, List.mem_of_getElem? (i := 22) (by decide +kernel), List.mem_of_getElem? (i := 344) (by decide +kernel), List.mem_of_getElem? (i := 345) (by decide +kernel)⟩
theorem lw_p23 : lw_okq (⟨"ShelfServer", "outcomeOfTarget", "(IIIZI)I"⟩, 4) := ⟨⟨by decide +kernel, by decide +kernel⟩, List.mem_of_getElem? (i := 14) (by decide +kernel), List.mem_of_getElem? (i := 384) (by decide +kernel), List.mem_of_getElem? (i := 385) (by decide +kernel)⟩
theorem lw_p24 : lw_okq (⟨"ShelfServer$Shelf", "fits", "(II)Z"⟩, 2) := ⟨⟨by decide +kernel, by decide +kernel⟩, List.mem_of_getElem? (i := 22) (by decide +kernel), List.mem_of_getElem? (i := 388) (by decide +kernel), List.mem_of_getElem? (i := 389) (by decide +kernel)⟩
theorem lw_p25 : lw_okq (⟨"ShelfServer", "allowsTree", "(III)Z"⟩, 4) := ⟨⟨by decide +kernel, by decide +kernel⟩, List.mem_of_getElem? (i := 14) (by decide +kernel), List.mem_of_getElem? (i := 395) (by decide +kernel), List.mem_of_getElem? (i := 396) (by decide +kernel)⟩
theorem lw_p26 : lw_okq (⟨"ShelfServer$Shelf", "treeSize", "(I)I"⟩, 2) := ⟨⟨by decide +kernel, by decide +kernel⟩, List.mem_of_getElem? (i := 22) (by decide +kernel), List.mem_of_getElem? (i := 399) (by decide +kernel), List.mem_of_getElem? (i := 400) (by decide +kernel)⟩
theorem lw_p27 : lw_okq (⟨"ShelfServer", "removeTree", "(I)V"⟩, 4) := ⟨⟨by decide +kernel, by decide +kernel⟩, List.mem_of_getElem? (i := 14) (by decide +kernel), List.mem_of_getElem? (i := 403) (by decide +kernel), List.mem_of_getElem? (i := 404) (by decide +kernel)⟩
theorem lw_p28 : lw_okq (⟨"ShelfServer$Shelf", "appendCopyOfTree", "(II)V"⟩, 2) := ⟨⟨by decide +kernel, by decide +kernel⟩, List.mem_of_getElem? (i := 22) (by decide +kernel), List.mem_of_getElem? (i := 407) (by decide +kernel), List.mem_of_getElem? (i := 408) (by decide +kernel)⟩
theorem lw_p29 : lw_okq (⟨"ShelfServer", "dropLocksOfTree", "(I)V"⟩, 4) := ⟨⟨by decide +kernel, by decide +kernel⟩, List.mem_of_getElem? (i := 14) (by decide +kernel), List.mem_of_getElem? (i := 419) (by decide +kernel), List.mem_of_getElem? (i := 420) (by decide +kernel)⟩
theorem lw_p30 : lw_okq (⟨"ShelfServer$Shelf", "renameTree", "(II)V"⟩, 2) := ⟨⟨by decide +kernel, by decide +kernel⟩, List.mem_of_getElem? (i := 22) (by decide +kernel), List.mem_of_getElem? (i := 423) (by decide +kernel), List.mem_of_getElem? (i := 424) (by decide +kernel)⟩
theorem lw_p31 : lw_okq (⟨"ShelfServer$Shelf", "placeMember", "(II)V"⟩, 2) := ⟨⟨by decide +kernel, by decide +kernel⟩, List.mem_of_getElem? (i := 22) (by decide +kernel), List.mem_of_getElem? (i := 427) (by decide +kernel), List.mem_of_getElem? (i := 428) (by decide +kernel)⟩
def lw_privs_2 : List (MethodName × Nat) := [(⟨"ShelfServer", "insertFailure", "(I)V"⟩, 4), (⟨"ShelfServer$Shelf", "markTree", "(I)V"⟩, 2), (⟨"ShelfServer", "spareFailures", "()V"⟩, 4), (⟨"ShelfServer$Shelf", "spareUpFrom", "(I)V"⟩, 2), (⟨"ShelfServer", "removeMarked", "()V"⟩, 4), (⟨"ShelfServer$Locks", "dropAt", "(I)V"⟩, 3), (⟨"ShelfServer$Shelf", "removeMarked", "()V"⟩, 2), (⟨"ShelfServer", "outcomeOfTarget", "(IIIZI)I"⟩, 4), (⟨"ShelfServer$Shelf", "fits", "(II)Z"⟩, 2), (⟨"ShelfServer", "allowsTree", "(III)Z"⟩, 4), (⟨"ShelfServer$Shelf", "treeSize", "(I)I"⟩, 2), (⟨"ShelfServer", "removeTree", "(I)V"⟩, 4), (⟨"ShelfServer$Shelf", "appendCopyOfTree", "(II)V"⟩, 2), (⟨"ShelfServer", "dropLocksOfTree", "(I)V"⟩, 4), (⟨"ShelfServer$Shelf", "renameTree", "(II)V"⟩, 2), (⟨"ShelfServer$Shelf", "placeMember", "(II)V"⟩, 2)]
theorem lw_r2 : ∀ q ∈ lw_privs_2, lw_okq q := List.forall_mem_cons.mpr ⟨lw_p16, List.forall_mem_cons.mpr ⟨lw_p17, List.forall_mem_cons.mpr ⟨lw_p18, List.forall_mem_cons.mpr ⟨lw_p19, List.forall_mem_cons.mpr ⟨lw_p20, List.forall_mem_cons.mpr ⟨lw_p21, List.forall_mem_cons.mpr ⟨lw_p22, List.forall_mem_cons.mpr ⟨lw_p23, List.forall_mem_cons.mpr ⟨lw_p24, List.forall_mem_cons.mpr ⟨lw_p25, List.forall_mem_cons.mpr ⟨lw_p26, List.forall_mem_cons.mpr ⟨lw_p27, List.forall_mem_cons.mpr ⟨lw_p28, List.forall_mem_cons.mpr ⟨lw_p29, List.forall_mem_cons.mpr ⟨lw_p30, List.forall_mem_cons.mpr ⟨lw_p31, fun _ h => absurd h List.not_mem_nil⟩⟩⟩⟩⟩⟩⟩⟩⟩⟩⟩⟩⟩⟩⟩⟩
theorem lw_p32 : lw_okq (⟨"ShelfServer$Shelf", "shift", "(II)V"⟩, 2) := ⟨⟨by decide +kernel, by decide +kernel⟩, List.mem_of_getElem? (i := 22) (by decide +kernel), List.mem_of_getElem? (i := 431) (by decide +kernel), List.mem_of_getElem? (i := 432) (by decide +kernel)⟩
theorem lw_p33 : lw_okq (⟨"ShelfServer$Shelf", "memberIndex", "(II)I"⟩, 2) := ⟨⟨by decide +kernel, by decide +kernel⟩, List.mem_of_getElem? (i := 22) (by decide +kernel), List.mem_of_getElem? (i := 436) (by decide +kernel), List.mem_of_getElem? (i := 437) (by decide +kernel)⟩
theorem lw_p34 : lw_okq (⟨"ShelfServer$Shelf", "memberCount", "(I)I"⟩, 2) := ⟨⟨by decide +kernel, by decide +kernel⟩, List.mem_of_getElem? (i := 22) (by decide +kernel), List.mem_of_getElem? (i := 462) (by decide +kernel), List.mem_of_getElem? (i := 463) (by decide +kernel)⟩
theorem lw_p35 : lw_okq (⟨"ShelfServer$Locks", "bar", "(IZZ)Z"⟩, 3) := ⟨⟨by decide +kernel, by decide +kernel⟩, List.mem_of_getElem? (i := 72) (by decide +kernel), List.mem_of_getElem? (i := 507) (by decide +kernel), List.mem_of_getElem? (i := 508) (by decide +kernel)⟩
theorem lw_p36 : lw_okq (⟨"ShelfServer$Locks", "add", "(IIZZI)I"⟩, 3) := ⟨⟨by decide +kernel, by decide +kernel⟩, List.mem_of_getElem? (i := 72) (by decide +kernel), List.mem_of_getElem? (i := 514) (by decide +kernel), List.mem_of_getElem? (i := 515) (by decide +kernel)⟩
theorem lw_p37 : lw_okq (⟨"ShelfServer$Locks", "advance", "(I)I"⟩, 3) := ⟨⟨by decide +kernel, by decide +kernel⟩, List.mem_of_getElem? (i := 72) (by decide +kernel), List.mem_of_getElem? (i := 537) (by decide +kernel), List.mem_of_getElem? (i := 538) (by decide +kernel)⟩
theorem lw_p38 : lw_okq (⟨"ShelfServer$Resource", "addVersion", "()I"⟩, 6) := ⟨⟨by decide +kernel, by decide +kernel⟩, List.mem_of_getElem? (i := 29) (by decide +kernel), List.mem_of_getElem? (i := 565) (by decide +kernel), List.mem_of_getElem? (i := 566) (by decide +kernel)⟩
theorem lw_p39 : lw_okq (⟨"ShelfServer$Resource", "hasVersion", "(I)Z"⟩, 6) := ⟨⟨by decide +kernel, by decide +kernel⟩, List.mem_of_getElem? (i := 29) (by decide +kernel), List.mem_of_getElem? (i := 576) (by decide +kernel), List.mem_of_getElem? (i := 577) (by decide +kernel)⟩
theorem lw_p40 : lw_okq (⟨"ShelfServer$Resource", "takeVersion", "(I)V"⟩, 6) := ⟨⟨by decide +kernel, by decide +kernel⟩, List.mem_of_getElem? (i := 29) (by decide +kernel), List.mem_of_getElem? (i := 580) (by decide +kernel), List.mem_of_getElem? (i := 581) (by decide +kernel)⟩
theorem lw_p41 : lw_okq (⟨"ShelfServerModel", "isRight", "(III)Z"⟩, 20) := ⟨⟨by decide +kernel, by decide +kernel⟩, List.mem_of_getElem? (i := 585) (by decide +kernel), List.mem_of_getElem? (i := 661) (by decide +kernel), List.mem_of_getElem? (i := 662) (by decide +kernel)⟩
theorem lw_p42 : lw_okq (⟨"ShelfServerModel", "kinds", "(I)I"⟩, 20) := ⟨⟨by decide +kernel, by decide +kernel⟩, List.mem_of_getElem? (i := 585) (by decide +kernel), List.mem_of_getElem? (i := 677) (by decide +kernel), List.mem_of_getElem? (i := 678) (by decide +kernel)⟩
theorem lw_p43 : lw_okq (⟨"ShelfServerModel", "place", "(I)I"⟩, 20) := ⟨⟨by decide +kernel, by decide +kernel⟩, List.mem_of_getElem? (i := 585) (by decide +kernel), List.mem_of_getElem? (i := 681) (by decide +kernel), List.mem_of_getElem? (i := 682) (by decide +kernel)⟩
theorem lw_p44 : lw_okq (⟨"ShelfServerModel", "mayMake", "(III)Z"⟩, 20) := ⟨⟨by decide +kernel, by decide +kernel⟩, List.mem_of_getElem? (i := 585) (by decide +kernel), List.mem_of_getElem? (i := 685) (by decide +kernel), List.mem_of_getElem? (i := 686) (by decide +kernel)⟩
theorem lw_p45 : lw_okq (⟨"ShelfServerModel", "may", "(III)Z"⟩, 20) := ⟨⟨by decide +kernel, by decide +kernel⟩, List.mem_of_getElem? (i := 585) (by decide +kernel), List.mem_of_getElem? (i := 689) (by decide +kernel), List.mem_of_getElem? (i := 690) (by decide +kernel)⟩
theorem lw_p46 : lw_okq (⟨"ShelfServerModel", "set", "(I)I"⟩, 20) := ⟨⟨by decide +kernel, by decide +kernel⟩, List.mem_of_getElem? (i := 585) (by decide +kernel), List.mem_of_getElem? (i := 693) (by decide +kernel), List.mem_of_getElem? (i := 694) (by decide +kernel)⟩
theorem lw_p47 : lw_okq (⟨"ShelfServerModel", "covers", "(II)Z"⟩, 20) := ⟨⟨by decide +kernel, by decide +kernel⟩, List.mem_of_getElem? (i := 585) (by decide +kernel), List.mem_of_getElem? (i := 697) (by decide +kernel), List.mem_of_getElem? (i := 698) (by decide +kernel)⟩
def lw_privs_3 : List (MethodName × Nat) := [(⟨"ShelfServer$Shelf", "shift", "(II)V"⟩, 2), (⟨"ShelfServer$Shelf", "memberIndex", "(II)I"⟩, 2), (⟨"ShelfServer$Shelf", "memberCount", "(I)I"⟩, 2), (⟨"ShelfServer$Locks", "bar", "(IZZ)Z"⟩, 3), (⟨"ShelfServer$Locks", "add", "(IIZZI)I"⟩, 3), (⟨"ShelfServer$Locks", "advance", "(I)I"⟩, 3), (⟨"ShelfServer$Resource", "addVersion", "()I"⟩, 6), (⟨"ShelfServer$Resource", "hasVersion", "(I)Z"⟩, 6), (⟨"ShelfServer$Resource", "takeVersion", "(I)V"⟩, 6), (⟨"ShelfServerModel", "isRight", "(III)Z"⟩, 20), (⟨"ShelfServerModel", "kinds", "(I)I"⟩, 20), (⟨"ShelfServerModel", "place", "(I)I"⟩, 20), (⟨"ShelfServerModel", "mayMake", "(III)Z"⟩, 20), (⟨"ShelfServerModel", "may", "(III)Z"⟩, 20), (⟨"ShelfServerModel", "set", "(I)I"⟩, 20), (⟨"ShelfServerModel", "covers", "(II)Z"⟩, 20)]
theorem lw_r3 : ∀ q ∈ lw_privs_3, lw_okq q := List.forall_mem_cons.mpr ⟨lw_p32, List.forall_mem_cons.mpr ⟨lw_p33, List.forall_mem_cons.mpr ⟨lw_p34, List.forall_mem_cons.mpr ⟨lw_p35, List.forall_mem_cons.mpr ⟨lw_p36, List.forall_mem_cons.mpr ⟨lw_p37, List.forall_mem_cons.mpr ⟨lw_p38, List.forall_mem_cons.mpr ⟨lw_p39, List.forall_mem_cons.mpr ⟨lw_p40, List.forall_mem_cons.mpr ⟨lw_p41, List.forall_mem_cons.mpr ⟨lw_p42, List.forall_mem_cons.mpr ⟨lw_p43, List.forall_mem_cons.mpr ⟨lw_p44, List.forall_mem_cons.mpr ⟨lw_p45, List.forall_mem_cons.mpr ⟨lw_p46, List.forall_mem_cons.mpr ⟨lw_p47, fun _ h => absurd h List.not_mem_nil⟩⟩⟩⟩⟩⟩⟩⟩⟩⟩⟩⟩⟩⟩⟩⟩
theorem lw_p48 : lw_okq (⟨"ShelfServerModel", "isOn", "(I)Z"⟩, 20) := ⟨⟨by decide +kernel, by decide +kernel⟩, List.mem_of_getElem? (i := 585) (by decide +kernel), List.mem_of_getElem? (i := 701) (by decide +kernel), List.mem_of_getElem? (i := 702) (by decide +kernel)⟩
theorem lw_p49 : lw_okq (⟨"ShelfServerModel", "count", "()I"⟩, 20) := ⟨⟨by decide +kernel, by decide +kernel⟩, List.mem_of_getElem? (i := 585) (by decide +kernel), List.mem_of_getElem? (i := 708) (by decide +kernel), List.mem_of_getElem? (i := 709) (by decide +kernel)⟩
theorem lw_p50 : lw_okq (⟨"ShelfServerModel", "makes", "(III)I"⟩, 20) := ⟨⟨by decide +kernel, by decide +kernel⟩, List.mem_of_getElem? (i := 585) (by decide +kernel), List.mem_of_getElem? (i := 712) (by decide +kernel), List.mem_of_getElem? (i := 713) (by decide +kernel)⟩
theorem lw_p51 : lw_okq (⟨"ShelfServerModel", "puts", "(IIII)I"⟩, 20) := ⟨⟨by decide +kernel, by decide +kernel⟩, List.mem_of_getElem? (i := 585) (by decide +kernel), List.mem_of_getElem? (i := 720) (by decide +kernel), List.mem_of_getElem? (i := 721) (by decide +kernel)⟩
theorem lw_p52 : lw_okq (⟨"ShelfServerModel", "isOf", "(II)Z"⟩, 20) := ⟨⟨by decide +kernel, by decide +kernel⟩, List.mem_of_getElem? (i := 585) (by decide +kernel), List.mem_of_getElem? (i := 728) (by decide +kernel), List.mem_of_getElem? (i := 729) (by decide +kernel)⟩
theorem lw_p53 : lw_okq (⟨"ShelfServerModel", "goes", "(I)V"⟩, 20) := ⟨⟨by decide +kernel, by decide +kernel⟩, List.mem_of_getElem? (i := 585) (by decide +kernel), List.mem_of_getElem? (i := 732) (by decide +kernel), List.mem_of_getElem? (i := 733) (by decide +kernel)⟩
theorem lw_p54 : lw_okq (⟨"ShelfServerModel", "brings", "(IIIZIZ)I"⟩, 20) := ⟨⟨by decide +kernel, by decide +kernel⟩, List.mem_of_getElem? (i := 585) (by decide +kernel), List.mem_of_getElem? (i := 748) (by decide +kernel), List.mem_of_getElem? (i := 749) (by decide +kernel)⟩
theorem lw_p55 : lw_okq (⟨"ShelfServerModel", "mayAll", "(III)Z"⟩, 20) := ⟨⟨by decide +kernel, by decide +kernel⟩, List.mem_of_getElem? (i := 585) (by decide +kernel), List.mem_of_getElem? (i := 755) (by decide +kernel), List.mem_of_getElem? (i := 756) (by decide +kernel)⟩
theorem lw_p56 : lw_okq (⟨"ShelfServerModel", "carries", "(IIZ)V"⟩, 20) := ⟨⟨by decide +kernel, by decide +kernel⟩, List.mem_of_getElem? (i := 585) (by decide +kernel), List.mem_of_getElem? (i := 759) (by decide +kernel), List.mem_of_getElem? (i := 760) (by decide +kernel)⟩
theorem lw_p57 : lw_okq (⟨"ShelfServerModel", "lowest", "()I"⟩, 20) := ⟨⟨by decide +kernel, by decide +kernel⟩, List.mem_of_getElem? (i := 585) (by decide +kernel), List.mem_of_getElem? (i := 763) (by decide +kernel), List.mem_of_getElem? (i := 764) (by decide +kernel)⟩
theorem lw_p58 : lw_okq (⟨"ShelfServerModel", "asks", "(I)Z"⟩, 20) := ⟨⟨by decide +kernel, by decide +kernel⟩, List.mem_of_getElem? (i := 585) (by decide +kernel), List.mem_of_getElem? (i := 778) (by decide +kernel), List.mem_of_getElem? (i := 779) (by decide +kernel)⟩
theorem lw_p59 : lw_okq (⟨"ShelfServerModel", "membersOf", "(I)I"⟩, 20) := ⟨⟨by decide +kernel, by decide +kernel⟩, List.mem_of_getElem? (i := 585) (by decide +kernel), List.mem_of_getElem? (i := 794) (by decide +kernel), List.mem_of_getElem? (i := 795) (by decide +kernel)⟩
theorem lw_p60 : lw_okq (⟨"ShelfServerModel", "isMember", "(II)Z"⟩, 20) := ⟨⟨by decide +kernel, by decide +kernel⟩, List.mem_of_getElem? (i := 585) (by decide +kernel), List.mem_of_getElem? (i := 798) (by decide +kernel), List.mem_of_getElem? (i := 799) (by decide +kernel)⟩
theorem lw_p61 : lw_okq (⟨"ShelfServerModel", "memberOf", "(II)I"⟩, 20) := ⟨⟨by decide +kernel, by decide +kernel⟩, List.mem_of_getElem? (i := 585) (by decide +kernel), List.mem_of_getElem? (i := 806) (by decide +kernel), List.mem_of_getElem? (i := 807) (by decide +kernel)⟩
theorem lw_p62 : lw_okq (⟨"ShelfServerModel", "clashes", "(IZZ)Z"⟩, 20) := ⟨⟨by decide +kernel, by decide +kernel⟩, List.mem_of_getElem? (i := 585) (by decide +kernel), List.mem_of_getElem? (i := 818) (by decide +kernel), List.mem_of_getElem? (i := 819) (by decide +kernel)⟩
def lw_privs_4 : List (MethodName × Nat) := [(⟨"ShelfServerModel", "isOn", "(I)Z"⟩, 20), (⟨"ShelfServerModel", "count", "()I"⟩, 20), (⟨"ShelfServerModel", "makes", "(III)I"⟩, 20), (⟨"ShelfServerModel", "puts", "(IIII)I"⟩, 20), (⟨"ShelfServerModel", "isOf", "(II)Z"⟩, 20), (⟨"ShelfServerModel", "goes", "(I)V"⟩, 20), (⟨"ShelfServerModel", "brings", "(IIIZIZ)I"⟩, 20), (⟨"ShelfServerModel", "mayAll", "(III)Z"⟩, 20), (⟨"ShelfServerModel", "carries", "(IIZ)V"⟩, 20), (⟨"ShelfServerModel", "lowest", "()I"⟩, 20), (⟨"ShelfServerModel", "asks", "(I)Z"⟩, 20), (⟨"ShelfServerModel", "membersOf", "(I)I"⟩, 20), (⟨"ShelfServerModel", "isMember", "(II)Z"⟩, 20), (⟨"ShelfServerModel", "memberOf", "(II)I"⟩, 20), (⟨"ShelfServerModel", "clashes", "(IZZ)Z"⟩, 20)]
theorem lw_r4 : ∀ q ∈ lw_privs_4, lw_okq q := List.forall_mem_cons.mpr ⟨lw_p48, List.forall_mem_cons.mpr ⟨lw_p49, List.forall_mem_cons.mpr ⟨lw_p50, List.forall_mem_cons.mpr ⟨lw_p51, List.forall_mem_cons.mpr ⟨lw_p52, List.forall_mem_cons.mpr ⟨lw_p53, List.forall_mem_cons.mpr ⟨lw_p54, List.forall_mem_cons.mpr ⟨lw_p55, List.forall_mem_cons.mpr ⟨lw_p56, List.forall_mem_cons.mpr ⟨lw_p57, List.forall_mem_cons.mpr ⟨lw_p58, List.forall_mem_cons.mpr ⟨lw_p59, List.forall_mem_cons.mpr ⟨lw_p60, List.forall_mem_cons.mpr ⟨lw_p61, List.forall_mem_cons.mpr ⟨lw_p62, fun _ h => absurd h List.not_mem_nil⟩⟩⟩⟩⟩⟩⟩⟩⟩⟩⟩⟩⟩⟩⟩
def lw_privs : List (MethodName × Nat) := lw_privs_1 ++ (lw_privs_2 ++ (lw_privs_3 ++ (lw_privs_4)))
def lw_tbl : List Cond := k2_sels lw_privs ++ tables_1
theorem lw_privs_ok : ∀ q ∈ lw_privs, lw_okq q := by
  show ∀ q ∈ lw_privs_1 ++ (lw_privs_2 ++ (lw_privs_3 ++ (lw_privs_4))), lw_okq q
  exact List.forall_mem_append.mpr ⟨lw_r1, List.forall_mem_append.mpr ⟨lw_r2, List.forall_mem_append.mpr ⟨lw_r3, lw_r4⟩⟩⟩
/-! ===== BEGIN words of one list among another's, by their places ===== -/
theorem goodIn_r {big : List Cond} (ws : List Cond) (ps : List Nat) (hp : ws = ps.filterMap (fun i => big[i]?)) (h : ws.all goodWord = true) : GoodIn big ws := by
  intro w hw
  have h1 := List.all_eq_true.mp h w hw
  rw [hp] at hw
  obtain ⟨i, -, hi⟩ := List.mem_filterMap.mp hw
  have hm : w ∈ big := by first | exact List.mem_of_getElem? hi | exact List.getElem?_mem hi
  exact ⟨hm, good_of_word h1⟩
theorem goodIn_app {big a b : List Cond} (ha : GoodIn big a) (hb : GoodIn big b) : GoodIn big (a ++ b) := fun w h => (List.mem_append.mp h).elim (ha w) (hb w)
theorem goodIn_ca {big a b : List Cond} {c : Cond} (ha : GoodIn big (c :: a)) (hb : GoodIn big b) : GoodIn big (c :: (a ++ b)) := fun w h => (List.mem_cons.mp h).elim (fun e => ha w (List.mem_cons.mpr (Or.inl e))) (fun h => (List.mem_append.mp h).elim (fun h => ha w (List.mem_cons.mpr (Or.inr h))) (hb w))
theorem goodIn_sub {big ws : List Cond} (hm : ∀ w ∈ ws, w ∈ big) (h : ws.all goodWord = true) : GoodIn big ws := fun w hw => ⟨hm w hw, good_of_word (List.all_eq_true.mp h w hw)⟩
/-! ===== END ===== -/

/-! ===== BEGIN exceptions that leave a method, and their catching by the caller (launches without stack traces) ===== -/
section VXA
/-! The laws vx_back, vx_callV, vx_callS, vx_callSW, vx_throw0, vx_throwS follow proofs of the library, with one case more: JvmDerived/Free/Laws.lean (Back.of_free), Shelf42/LK1.lean (callV, callS), Shelf/KitTraced.lean (throwNew0V, throwNewS). -/
/-- where a method has thrown q: the class by its name, the cell, what was written, the world -/
def vx_T (XC : String → State → State → Prop) (st : State) (q : Addr) (t : State) (mc ms : Nat) (free : Addr → Prop) : Prop :=
  ∃ (E : String) (ce : Cell) (L : List Loc), XC E st t ∧ t.heap[q]? = some ce ∧ ce.vm = .none ∧ st.vm.findClass E = some ce.cls ∧ st.WarmedH t.vm ∧ st.sameButNew ({ t with vm := st.vm } : State) L mc ms ∧ ∀ z ∈ L, free z.base
def vx_Q (Qc : Array Value → State → Outcome → State → Prop) (XC : String → State → State → Prop) (mc ms : Nat) (free : Addr → Prop) : Array Value → State → Outcome → State → Prop := fun a st o t =>
  (Qc a st o t ∧ ∃ L, FrameEnd st o t L mc ms ∧ ∀ q ∈ L, free q.base) ∨ ∃ q, o = .threw q ∧ vx_T XC st q t mc ms free
/-- a callee that returns or throws -/
def vx_Met (l : Launch) (y : MethodName) (ws : List Cond) (rm : Room) (Pc : Array Value → State → Prop) (Qc : Array Value → State → Outcome → State → Prop) (XC : String → State → State → Prop) (mc ms : Nat) (free : Addr → Prop) : Prop :=
  MetFree l y (headSpec ws rm) Pc (fun _ _ _ _ _ => True) (vx_Q Qc XC mc ms free)
def vx_Post (XC : String → State → State → Prop) (mc ms : Nat) (free : Addr → Prop) : Pt → Array Value → Addr → Pt → Prop := fun A a q B =>
  ∃ (g : JFrame) (mk : MethodId) (t : State) (L : List Loc) (E : String) (ce : Cell), B.U.heap = t.heap ∧ B.U.vm = t.vm ∧ XC E (A.U.calling g mk a) t ∧ t.heap[q]? = some ce ∧ ce.vm = .none ∧ A.U.vm.findClass E = some ce.cls ∧ B.locs = A.locs ++ L ∧ (∀ z ∈ L, free z.base) ∧ B.cells = A.cells + mc ∧ B.slots = A.slots + ms
def vx_Back (l : Launch) (R : Room) (p : Program) (e : Env) (below : List Frame) (s : State) (sargs : Array Value) (y : MethodName) (len W9 : Nat)
    (Pre : Pt → Array Value → Prop) (Post : Pt → Array Value → Option Value → Pt → Prop) (PostX : Pt → Array Value → Addr → Pt → Prop) : Prop :=
  ∀ (m : MethodId) (meth : Method) (c : Code) (A : Pt) (g : JFrame) (ig : Instr) (mk : MethodId) (a : Array Value),
    Stand p l e R s m sargs below meth c A.U A.locs A.cells A.slots → g.method = m → g.locals.size = c.maxLocals → decode c.code g.pc = .ok (ig, len) →
    2 * g.monitorRoom + (g.stack.map fun v => v.category).sum ≤ W9 → A.U.methodNamed? y = some mk → Pre A a →
    (∃ (v : Option Value) (B : Pt), Stand p l e R s m sargs below meth c B.U B.locs B.cells B.slots ∧ Post A a v B ∧
      Steps p.tables e below (doInvoke e (A.U.setTop g) [] mk a).1 (B.U.setTop { g with pc := g.pc + len, stack := v.toList ++ g.stack })) ∨
    (∃ (q : Addr) (B : Pt), Stand p l e R s m sargs below meth c B.U B.locs B.cells B.slots ∧ PostX A a q B ∧
      Steps p.tables e below (doInvoke e (A.U.setTop g) [] mk a).1 ((B.U.setTop g).pushFrame (.throwing q)))
section Payer
variable {l : Launch} {R : Room} {p : Program} {e : Env} {below : List Frame} {s : State} {sargs : Array Value} {y : MethodName} {len W9 : Nat}
theorem vx_back {ws : List Cond} {rm : Room} {Pc : Array Value → State → Prop} {Qc : Array Value → State → Outcome → State → Prop} {XC : String → State → State → Prop} {mc ms : Nat} {free : Addr → Prop} {bytes : ByteArray} {maxL : Nat} {ret : Option FieldType}
    (hM : vx_Met l y ws rm Pc Qc XC mc ms free) (hblind : FrameBlind Pc) (hrc : rm.cells = mc) (hrs : rm.slots = ms)
    (hframes : rm.frames + 1 ≤ R.frames) (hlocals : W9 + (maxL + 11) + rm.locals ≤ R.locals)
    (hws : ∀ w ∈ ws, ∀ a' U, s.WarmedH U.vm → w.before a' U = true) (hcode : Cond.code y bytes maxL ret ∈ ws) (hinit : ∀ a' U, s.WarmedH U.vm → (Cond.initialized y.cls).before a' U = true) :
    vx_Back l R p e below s sargs y len W9 (PreOf R mc ms Pc) (PostOf Qc mc ms free) (vx_Post XC mc ms free) := by
  intro m meth c A g ig mk a X hg hsize hdg hW hn hp
  have h1 : (headSpec ws rm).pre.before a A.U = true := atoms_intro fun w hw => hws w hw _ _ X.warmed
  have h2 : (Cond.code y bytes maxL ret).before a A.U = true := hws _ hcode _ _ X.warmed
  have h3 : (Cond.initialized y.cls).before a A.U = true := hinit _ _ X.warmed
  have h4 : A.cells + (headSpec ws rm).room.cells ≤ R.cells := by rw [show (headSpec ws rm).room.cells = mc from hrc]; exact hp.1
  have h5 : A.slots + (headSpec ws rm).room.slots ≤ R.slots := by rw [show (headSpec ws rm).room.slots = ms from hrs]; exact hp.2.1
  have hPc : Pc a (A.U.calling g mk a) := hblind _ _ _ _ hp.2.2
  obtain ⟨U, Ls, c0, s0⟩ := A
  dsimp only [Pt.U, Pt.locs, Pt.cells, Pt.slots] at h1 h2 h3 h4 h5 X hn hPc ⊢
  obtain ⟨methY, cY, hmY, hcY, -, hlY, -, -, -, -⟩ := Cond.code_spec hn h2
  obtain ⟨kY, hkY, -⟩ := className_of_methodNamed hn
  have hinitY : kY.init = .initialized := Cond.initialized_spec (findClass_of_methodNamed hn) hkY h3
  have h : At U g.method c below := by rw [hg]; exact X.here
  have hlocals9 : W9 + (maxL + 11) + (headSpec ws rm).room.locals ≤ R.locals := hlocals
  have happ : (headSpec ws rm).appliesLoose y e.platform (U.calling g mk a) = true :=
    Spec.appliesLoose_calling (g := g) h hdg hn hkY hinitY
      (X.room_calling (g := g) (R' := (headSpec ws rm).room) hsize hmY hcY hframes (by rw [hlY]; omega) h4 h5) h1
  obtain ⟨mid, hmid⟩ := h.above
  have hfr : (U.setTop g).frames = (.java g :: mid) ++ below := by rw [State.frames_setTop' g h.top, hmid]; rfl
  obtain ⟨o, s₂, hsteps, -, hend, hq⟩ := Steps.callFree hM p X.admits X.cas X.clock (acts := []) hfr happ hPc trivial
  have hq' : vx_Q Qc XC mc ms free a (U.calling g mk a) o s₂ := hq
  rw [State.frames_setTop' g h.top] at hend
  obtain ⟨g₀, hg0⟩ := Option.isSome_iff_exists.mp h.top
  obtain ⟨r, hr⟩ := State.topJava?_eq_some.mp hg0
  have hr' : (({ U with heap := s₂.heap, slotsUsed := s₂.slotsUsed } : State).setVm s₂.vm).frames = .java g₀ :: r := hr
  rcases hq' with ⟨hqc, L, hfe, hL⟩ | ⟨q, rfl, E, ce, L, hx, hce, hcv, hcl, hW₂, hsm, hL⟩
  · obtain ⟨⟨v, rfl⟩, hW₂, e2, q2, q3, q4, q5, q6⟩ := id hfe
    have e3 : s₂ = ({ (U.calling g mk a).setFrames s₂.frames with heap := s₂.heap, slotsUsed := s₂.slotsUsed } : State).setVm s₂.vm := by
      have : s₂ = ({ s₂ with vm := (U.calling g mk a).vm } : State).setVm s₂.vm := rfl
      rw [e2] at this
      exact this
    obtain ⟨c₂, i₂, len₂, hc₂, hd₂, hf₂⟩ := hend
    have hW' : U.WarmedH s₂.vm := hW₂
    have hcc : c₂ = c := by
      have h1 : s₂.code? g.method = U.code? g.method := by
        rw [State.code?_eq, State.code?_eq, hW'.alike.method?]
      exact Option.some.inj (hc₂.symm.trans (h1.trans h.code))
    subst hcc
    have hlen : len₂ = len := by rw [hdg] at hd₂; cases hd₂; rfl
    subst hlen
    have hs₂ : s₂ = (({ U with heap := s₂.heap, slotsUsed := s₂.slotsUsed } : State).setVm s₂.vm).setTop { g with pc := g.pc + len₂, stack := v.toList ++ g.stack } := by
      refine e3.trans ?_
      rw [hf₂, State.calling_eq h.top, State.setFrames_setFrames, State.setTop_of_frames _ hr', hr]
      rfl
    have hsame : U.sameButNew ({ U with heap := s₂.heap, slotsUsed := s₂.slotsUsed } : State) L mc ms := by
      refine ⟨?_, q2, q3, q4, q5, q6⟩
      obtain ⟨t, ht, -⟩ := State.frames_cons hr
      show ({ U with heap := s₂.heap, slotsUsed := s₂.slotsUsed } : State) = { U.setFrames U.frames with heap := s₂.heap, slotsUsed := s₂.slotsUsed }
      rw [State.setFrames_self ht]
    subst hg
    refine Or.inl ⟨v, ⟨(({ U with heap := s₂.heap, slotsUsed := s₂.slotsUsed } : State).setVm s₂.vm), Ls ++ L, c0 + mc, s0 + ms⟩,
      ⟨X.admits, X.cas, X.clock, X.frames, X.room, X.hears, X.method, X.code, (X.here.setHeapUsed s₂.heap s₂.slotsUsed).setVm hW'.alike, X.tail, State.WarmedH.trans X.warmed hW', X.limits, X.bytes, X.same.trans (hsame.setVm s.vm)⟩,
      ⟨g, mk, s₂, L, rfl, rfl, hqc, rfl, hL, rfl, rfl⟩, ?_⟩
    show Steps p.tables e below _ ((({ U with heap := s₂.heap, slotsUsed := s₂.slotsUsed } : State).setVm s₂.vm).setTop { g with pc := g.pc + len₂, stack := v.toList ++ g.stack })
    rw [← hs₂]
    exact hsteps
  · obtain ⟨e2, q2, q3, q4, q5, q6⟩ := id hsm
    have e3 : s₂ = ({ (U.calling g mk a).setFrames s₂.frames with heap := s₂.heap, slotsUsed := s₂.slotsUsed } : State).setVm s₂.vm := by
      have : s₂ = ({ s₂ with vm := (U.calling g mk a).vm } : State).setVm s₂.vm := rfl
      rw [e2] at this
      exact this
    have hf₂ : s₂.frames = .throwing q :: .java g :: U.frames.tail := hend
    have hW' : U.WarmedH s₂.vm := hW₂
    have hs₂ : s₂ = ((({ U with heap := s₂.heap, slotsUsed := s₂.slotsUsed } : State).setVm s₂.vm).setTop g).pushFrame (.throwing q) := by
      refine e3.trans ?_
      rw [hf₂, State.calling_eq h.top, State.setFrames_setFrames, State.pushFrame, State.frames_setTop _ hr', State.setTop_of_frames _ hr', State.setFrames_setFrames, hr]
      rfl
    have hsame : U.sameButNew ({ U with heap := s₂.heap, slotsUsed := s₂.slotsUsed } : State) L mc ms := by
      refine ⟨?_, q2, q3, q4, q5, q6⟩
      obtain ⟨t, ht, -⟩ := State.frames_cons hr
      show ({ U with heap := s₂.heap, slotsUsed := s₂.slotsUsed } : State) = { U.setFrames U.frames with heap := s₂.heap, slotsUsed := s₂.slotsUsed }
      rw [State.setFrames_self ht]
    subst hg
    refine Or.inr ⟨q, ⟨(({ U with heap := s₂.heap, slotsUsed := s₂.slotsUsed } : State).setVm s₂.vm), Ls ++ L, c0 + mc, s0 + ms⟩,
      ⟨X.admits, X.cas, X.clock, X.frames, X.room, X.hears, X.method, X.code, (X.here.setHeapUsed s₂.heap s₂.slotsUsed).setVm hW'.alike, X.tail, State.WarmedH.trans X.warmed hW', X.limits, X.bytes, X.same.trans (hsame.setVm s.vm)⟩,
      ⟨g, mk, s₂, L, E, ce, rfl, rfl, hx, hce, hcv, hcl, rfl, hL, rfl, rfl⟩, ?_⟩
    show Steps p.tables e below _ (((({ U with heap := s₂.heap, slotsUsed := s₂.slotsUsed } : State).setVm s₂.vm).setTop g).pushFrame (.throwing q))
    rw [← hs₂]
    exact hsteps
end Payer
section Calls
variable {p : Program} {l : Launch} {e : Env} {R : Room} {s : State} {m : MethodId} {args : Array Value} {below : List Frame} {meth : Method} {c : Code} {T : State} {locs : List Loc} {cells slots : Nat}
theorem vx_callV (X : Stand p l e R s m args below meth c T locs cells slots) (hexec : p.tables.exec = Jvm.exec) {own C : String} {index : Nat} {y : MethodName} {bytes : ByteArray} {maxL : Nat} {ret : Option FieldType}
    (hown : s.vm.findClass own = some m.cls) (hlink : (Cond.methodLink own index y).before args s = true) (hinst : (Cond.instanceMethod y).before args s = true) (hsel : (Cond.selects C y y).before args s = true)
    (hcode : (Cond.code y bytes maxL ret).before args s = true) (hy : y.cls ≠ "java/lang/invoke/MethodHandle" ∧ y.cls ≠ "java/lang/invoke/VarHandle")
    {W9 : Nat} {Pre : Pt → Array Value → Prop} {Post : Pt → Array Value → Option Value → Pt → Prop} {PostX : Pt → Array Value → Addr → Pt → Prop} (hK : vx_Back l R p e below s args y 3 W9 Pre Post PostX)
    {b : Addr} {cellB : Cell} (hcell : T.heap[b]? = some cellB) (hobj : cellB.vm.isStatics = false) (hcls : s.vm.findClass C = some cellB.cls)
    {g : JFrame} (hg : g.method = m) (hsize : g.locals.size = c.maxLocals) {argsL rest : List Value} (hlen : ∀ sig, parseMethodDescriptor y.desc = some sig → argsL.length = sig.parameters.length)
    (hstack : g.stack = argsL.reverse ++ .ref b :: rest) (hW : 2 * g.monitorRoom + (rest.map fun v => v.category).sum ≤ W9) (hdg : decode c.code g.pc = .ok (.invokevirtual index, 3))
    (hpre : ∀ vm₁, s.WarmedH vm₁ → Pre ⟨T.setVm vm₁, locs, cells, slots⟩ (Value.ref b :: argsL).toArray) :
    (∃ (v : Option Value) (vm₁ : Vm) (B : Pt), s.WarmedH vm₁ ∧ Stand p l e R s m args below meth c B.U B.locs B.cells B.slots ∧ Post ⟨T.setVm vm₁, locs, cells, slots⟩ (Value.ref b :: argsL).toArray v B ∧
      ∀ target, Steps p.tables e below (B.U.setTop { g with pc := g.pc + 3, stack := v.toList ++ rest }) target → Steps p.tables e below (T.setTop g) target) ∨
    (∃ (q : Addr) (vm₁ : Vm) (B : Pt), s.WarmedH vm₁ ∧ Stand p l e R s m args below meth c B.U B.locs B.cells B.slots ∧ PostX ⟨T.setVm vm₁, locs, cells, slots⟩ (Value.ref b :: argsL).toArray q B ∧
      Steps p.tables e below (T.setTop g) ((B.U.setTop { g with stack := rest }).pushFrame (.throwing q))) := by
  obtain ⟨mk, methM, hnamed, hmethM, hstM, habM⟩ := Cond.instanceMethod_spec hinst
  obtain ⟨methM', cM, hmethM', -, -, -, -, -, -, hsigM⟩ := Cond.code_spec hnamed hcode
  cases hmethM.symm.trans hmethM'
  obtain ⟨c2, r2, m2, q1, q2, q3, q4, kP, hkP, hkPi⟩ := Cond.selects_spec hsel
  cases hcls.symm.trans q1
  cases (State.methodFound?_of_named hnamed hy).symm.trans q2
  cases hnamed.symm.trans q3
  have hselP : selectMethod e.platform s.vm cellB.cls mk = .method mk := by rw [Launch.admits_selectMethod X.admits]; exact q4
  obtain ⟨vm₁, X₁, hstep₁⟩ := X.invokevirtual hexec hown hlink hnamed hmethM hstM hkP hkPi hy (a := b) (cell := cellB) hcell
    (fun z h => by rw [h] at hobj; cases hobj) hselP hmethM habM hkP hkPi (g := g) hg (argsL := argsL) (rest := rest) (hlen _ hsigM) hstack hdg
  rcases hK m meth c ⟨T.setVm vm₁, locs, cells, slots⟩ { g with stack := rest } (.invokevirtual index) mk (Value.ref b :: argsL).toArray X₁ hg hsize hdg hW (X₁.named hnamed) (hpre vm₁ X₁.warmed) with ⟨v, B, X', hpost, hsteps⟩ | ⟨q, B, X', hpost, hsteps⟩
  · exact Or.inl ⟨v, vm₁, B, X₁.warmed, X', hpost, fun target h => hstep₁ _ fun acts => by rw [doInvoke_state]; exact hsteps.trans h⟩
  · exact Or.inr ⟨q, vm₁, B, X₁.warmed, X', hpost, hstep₁ _ fun acts => by rw [doInvoke_state]; exact hsteps⟩
theorem vx_callS (X : Stand p l e R s m args below meth c T locs cells slots) (hexec : p.tables.exec = Jvm.exec) {own : String} {index : Nat} {y : MethodName} {bytes : ByteArray} {maxL : Nat} {ret : Option FieldType}
    (hown : s.vm.findClass own = some m.cls) (hlink : (Cond.methodLink own index y).before args s = true) (hstat : (Cond.static y).before args s = true) (hinit : (Cond.initialized y.cls).before args s = true)
    (hcode : (Cond.code y bytes maxL ret).before args s = true) (hy : y.cls ≠ "java/lang/invoke/MethodHandle" ∧ y.cls ≠ "java/lang/invoke/VarHandle")
    {W9 : Nat} {Pre : Pt → Array Value → Prop} {Post : Pt → Array Value → Option Value → Pt → Prop} {PostX : Pt → Array Value → Addr → Pt → Prop} (hK : vx_Back l R p e below s args y 3 W9 Pre Post PostX)
    {g : JFrame} (hg : g.method = m) (hsize : g.locals.size = c.maxLocals) {argsL rest : List Value} (hlen : ∀ sig, parseMethodDescriptor y.desc = some sig → argsL.length = sig.parameters.length)
    (hstack : g.stack = argsL.reverse ++ rest) (hW : 2 * g.monitorRoom + (rest.map fun v => v.category).sum ≤ W9) (hdg : decode c.code g.pc = .ok (.invokestatic index, 3))
    (hpre : ∀ vm₁, s.WarmedH vm₁ → Pre ⟨T.setVm vm₁, locs, cells, slots⟩ argsL.toArray) :
    (∃ (v : Option Value) (vm₁ : Vm) (B : Pt), s.WarmedH vm₁ ∧ Stand p l e R s m args below meth c B.U B.locs B.cells B.slots ∧ Post ⟨T.setVm vm₁, locs, cells, slots⟩ argsL.toArray v B ∧
      ∀ target, Steps p.tables e below (B.U.setTop { g with pc := g.pc + 3, stack := v.toList ++ rest }) target → Steps p.tables e below (T.setTop g) target) ∨
    (∃ (q : Addr) (vm₁ : Vm) (B : Pt), s.WarmedH vm₁ ∧ Stand p l e R s m args below meth c B.U B.locs B.cells B.slots ∧ PostX ⟨T.setVm vm₁, locs, cells, slots⟩ argsL.toArray q B ∧
      Steps p.tables e below (T.setTop g) ((B.U.setTop { g with stack := rest }).pushFrame (.throwing q))) := by
  obtain ⟨mk, hnamed⟩ := Cond.code_named hcode
  obtain ⟨methM, cM, hmethM, -, -, -, -, -, -, hsigM⟩ := Cond.code_spec hnamed hcode
  have hstatic : methM.isStatic = true := Cond.static_spec hnamed hmethM hstat
  obtain ⟨kP, hkP, -⟩ := className_of_methodNamed hnamed
  have hinitP : kP.init = .initialized := Cond.initialized_spec (findClass_of_methodNamed hnamed) hkP hinit
  obtain ⟨vm₁, X₁, hstep₁⟩ := X.invokestatic hexec hown hlink hnamed hmethM hstatic hkP hinitP hy (g := g) hg (argsL := argsL) (rest := rest) (hlen _ hsigM) hstack hdg
  rcases hK m meth c ⟨T.setVm vm₁, locs, cells, slots⟩ { g with stack := rest } (.invokestatic index) mk argsL.toArray X₁ hg hsize hdg hW (X₁.named hnamed) (hpre vm₁ X₁.warmed) with ⟨v, B, X', hpost, hsteps⟩ | ⟨q, B, X', hpost, hsteps⟩
  · exact Or.inl ⟨v, vm₁, B, X₁.warmed, X', hpost, fun target h => hstep₁ _ fun acts => by rw [doInvoke_state]; exact hsteps.trans h⟩
  · exact Or.inr ⟨q, vm₁, B, X₁.warmed, X', hpost, hstep₁ _ fun acts => by rw [doInvoke_state]; exact hsteps⟩
end Calls
theorem vx_cls {s : State} {T : State} {vm₁ : Vm} {E : String} {k : ClassId} (hW : s.WarmedH vm₁) (h : (T.setVm vm₁).vm.findClass E = some k) : s.vm.findClass E = some k := by
  have h1 : vm₁.findClass E = some k := h
  rw [hW.alike.findClass] at h1
  exact h1
/-- the method's frame g, with q thrown over it -/
def vx_W (p : Program) (l : Launch) (e : Env) (R : Room) (s : State) (m : MethodId) (args : Array Value) (below : List Frame) (meth : Method) (c : Code) (H : Heap) (locs : List Loc) (cells slots : Nat) (Q : State → Prop) (g : JFrame) (q : Addr) : Prop :=
  ∀ T : State, T.heap = H → Stand p l e R s m args below meth c T locs cells slots → ∃ t, Steps p.tables e below ((T.setTop g).pushFrame (.throwing q)) t ∧ Q t
def vx_Run (p : Program) (l : Launch) (e : Env) (R : Room) (s : State) (m : MethodId) (args : Array Value) (below : List Frame) (meth : Method) (c : Code) (H : Heap) (locs : List Loc) (cells slots mc ms : Nat) (g : JFrame) (rest : List Value) (Qa : State → Outcome → State → Prop) (XC : String → State → State → Prop) (free : Addr → Prop) : Prop :=
  ∀ T : State, T.heap = H → Stand p l e R s m args below meth c T locs cells slots →
    (∃ (v : Option Value) (st₀ t T' : State) (L : List Loc), st₀.heap = H ∧ Stand p l e R s m args below meth c T' (locs ++ L) (cells + mc) (slots + ms) ∧ (∀ q ∈ L, free q.base) ∧ T'.heap = t.heap ∧ T'.vm = t.vm ∧ Qa st₀ (.returned v) t ∧
      Goes p e below T g T' { g with pc := g.pc + 3, stack := v.toList ++ rest }) ∨
    (∃ (q : Addr) (st₀ t T' : State) (L : List Loc) (E : String) (ce : Cell), st₀.heap = H ∧ Stand p l e R s m args below meth c T' (locs ++ L) (cells + mc) (slots + ms) ∧ (∀ z ∈ L, free z.base) ∧ T'.heap = t.heap ∧ T'.vm = t.vm ∧ XC E st₀ t ∧ t.heap[q]? = some ce ∧ ce.vm = .none ∧ s.vm.findClass E = some ce.cls ∧
      Steps p.tables e below (T.setTop g) ((T'.setTop { g with stack := rest }).pushFrame (.throwing q)))
def vx_X {S : Type} (px : S → Prop) (B : String → S → State → Prop) (A : Nat → Prop) : String → State → State → Prop := fun E st t => ∃ u : S, px u ∧ B E u t ∧ va_F A st t
section Runs
variable {p : Program} {l : Launch} {e : Env} {R : Room} {s : State} {m : MethodId} {args : Array Value} {below : List Frame} {meth : Method} {c : Code} {H : Heap} {locs : List Loc} {cells slots : Nat}
variable {y : MethodName} {bytes cc : ByteArray} {maxL nL mc ms n index : Nat} {ret : Option FieldType} {ws : List Cond} {rm : Room} {Pc : Array Value → State → Prop} {Qc : Array Value → State → Outcome → State → Prop} {XC : String → State → State → Prop} {free : Addr → Prop} {Ts : List Cond} {own C : String} {b : Addr} {As rest : List Value} {g : JFrame}
theorem vx_callBack (cb : CallB R s args own index y bytes maxL ret ws rm mc ms n) (hM : vx_Met l y ws rm Pc Qc XC mc ms free) (hbl : FrameBlind Pc) : vx_Back l R p e below s args y 3 8 (PreOf R mc ms Pc) (PostOf Qc mc ms free) (vx_Post XC mc ms free) := by
  obtain ⟨hrc, hrs, hfr, hlo, hws, hcw, -, hini, -⟩ := cb
  exact vx_back (bytes := bytes) (maxL := maxL) (ret := ret) hM hbl hrc hrs hfr hlo hws hcw (fun a' U hW => word_at hW (Or.inl (by first | rfl | simp [Cond.onTables, Cond.keeps, Cond.steady])) hini)
theorem vx_runV (S : CallFix p m c cc nL s args Ts own) (hM : vx_Met l y ws rm Pc Qc XC mc ms free) (cw : CallW R s args own C index y bytes maxL ret ws rm mc ms n) (hp : PreV s H C b Pc As)
    (hg : g.method = m) (hn : As.length = n) (hsize : g.locals.size = nL) (hstack : g.stack = As.reverse ++ .ref b :: rest) (hW : 2 * g.monitorRoom + (rest.map fun v => v.category).sum ≤ 8) (hdg : decode cc g.pc = .ok (.invokevirtual index, 3)) (hf : cells + mc ≤ R.cells ∧ slots + ms ≤ R.slots) :
    vx_Run p l e R s m args below meth c H locs cells slots mc ms g rest (Qc (Value.ref b :: As).toArray) XC free := by
  have hK : vx_Back l R p e below s args y 3 8 (PreOf R mc ms Pc) (PostOf Qc mc ms free) (vx_Post XC mc ms free) := vx_callBack cw.1 hM hp.1
  obtain ⟨⟨-, -, -, -, -, -, hcode, -, hy, hlen, hl⟩, hin, hse⟩ := cw
  obtain ⟨hx, hb, hml, ho, -⟩ := S
  obtain ⟨-, ⟨cellB, hcB, hoB, hclB⟩, hPc⟩ := hp
  intro T hT X
  rcases vx_callV X hx (C := C) (bytes := bytes) (maxL := maxL) (ret := ret) ho hl hin hse hcode hy hK (by rw [hT]; exact hcB) hoB hclB hg (hsize.trans hml.symm) (argsL := As) (rest := rest) (fun sig h => hn.trans (hlen sig h)) hstack hW (by rw [hb]; exact hdg)
    (fun vm₁ hW₁ => ⟨hf.1, hf.2, hPc (T.setVm vm₁) hT hW₁⟩) with ⟨v, vm₁, ⟨U', l2, c2, s2⟩, hW₁, X', ⟨g', mk, t, L, e1, e2, hq, h1, hL, h2, h3⟩, st⟩ | ⟨q, vm₁, ⟨U', l2, c2, s2⟩, hW₁, X', ⟨g', mk, t, L, E, ce, e1, e2, hq, hce, hcv, hcl, h1, hL, h2, h3⟩, st⟩
  · dsimp only [Pt.U, Pt.locs, Pt.cells, Pt.slots] at X' e1 e2 h1 h2 h3 st
    subst h1; subst h2; subst h3
    exact Or.inl ⟨v, (T.setVm vm₁).calling g' mk (Value.ref b :: As).toArray, t, U', L, hT, X', hL, e1, e2, hq, st⟩
  · dsimp only [Pt.U, Pt.locs, Pt.cells, Pt.slots] at X' e1 e2 h1 h2 h3 st hcl
    subst h1; subst h2; subst h3
    exact Or.inr ⟨q, (T.setVm vm₁).calling g' mk (Value.ref b :: As).toArray, t, U', L, E, ce, hT, X', hL, e1, e2, hq, hce, hcv, vx_cls hW₁ hcl, st⟩
theorem vx_runS (S : CallFix p m c cc nL s args Ts own) (hM : vx_Met l y ws rm Pc Qc XC mc ms free) (cw : CallB R s args own index y bytes maxL ret ws rm mc ms n ∧ (Cond.static y).before args s = true) (hp : PreS s H Pc As)
    (hg : g.method = m) (hn : As.length = n) (hsize : g.locals.size = nL) (hstack : g.stack = As.reverse ++ rest) (hW : 2 * g.monitorRoom + (rest.map fun v => v.category).sum ≤ 8) (hdg : decode cc g.pc = .ok (.invokestatic index, 3)) (hf : cells + mc ≤ R.cells ∧ slots + ms ≤ R.slots) :
    vx_Run p l e R s m args below meth c H locs cells slots mc ms g rest (Qc As.toArray) XC free := by
  have hK : vx_Back l R p e below s args y 3 8 (PreOf R mc ms Pc) (PostOf Qc mc ms free) (vx_Post XC mc ms free) := vx_callBack cw.1 hM hp.1
  obtain ⟨⟨-, -, -, -, -, -, hcode, hini, hy, hlen, hl⟩, hstt⟩ := cw
  obtain ⟨hx, hb, hml, ho, -⟩ := S
  intro T hT X
  rcases vx_callS X hx (bytes := bytes) (maxL := maxL) (ret := ret) ho hl hstt hini hcode hy hK hg (hsize.trans hml.symm) (argsL := As) (rest := rest) (fun sig h => hn.trans (hlen sig h)) hstack hW (by rw [hb]; exact hdg)
    (fun vm₁ hW₁ => ⟨hf.1, hf.2, hp.2 (T.setVm vm₁) hT hW₁⟩) with ⟨v, vm₁, ⟨U', l2, c2, s2⟩, hW₁, X', ⟨g', mk, t, L, e1, e2, hq, h1, hL, h2, h3⟩, st⟩ | ⟨q, vm₁, ⟨U', l2, c2, s2⟩, hW₁, X', ⟨g', mk, t, L, E, ce, e1, e2, hq, hce, hcv, hcl, h1, hL, h2, h3⟩, st⟩
  · dsimp only [Pt.U, Pt.locs, Pt.cells, Pt.slots] at X' e1 e2 h1 h2 h3 st
    subst h1; subst h2; subst h3
    exact Or.inl ⟨v, (T.setVm vm₁).calling g' mk As.toArray, t, U', L, hT, X', hL, e1, e2, hq, st⟩
  · dsimp only [Pt.U, Pt.locs, Pt.cells, Pt.slots] at X' e1 e2 h1 h2 h3 st hcl
    subst h1; subst h2; subst h3
    exact Or.inr ⟨q, (T.setVm vm₁).calling g' mk As.toArray, t, U', L, E, ce, hT, X', hL, e1, e2, hq, hce, hcv, vx_cls hW₁ hcl, st⟩
end Runs
section Rows
variable {p : Program} {l : Launch} {e : Env} {R : Room} {s : State} {m : MethodId} {args : Array Value} {below : List Frame} {meth : Method} {c : Code} {H : Heap} {locs : List Loc} {cells slots : Nat} {Q : State → Prop}
variable {mc ms : Nat} {free : Addr → Prop} {A0 A1 : Nat → Prop} {H0 : Heap} {a : Array Value} {pc : Nat} {ls : Array Slot} {st0 rest : List Value}
theorem vx_keep {st₀ t T' : State} {L : List Loc} (h0 : st₀.heap = H) (e1 : T'.heap = t.heap) (hS : va_S A0 H0 H locs) (hA : ∀ q, q < H.size → A1 q → A0 q) (hf : ∀ q, free q → A0 q) (hL : ∀ q ∈ L, free q.base) (hF : va_F A1 st₀ t) :
    H.size ≤ T'.heap.size ∧ (∀ q : Nat, q < H.size → ¬ A1 q → T'.heap[q]? = H[q]?) ∧ va_S A0 H0 T'.heap (locs ++ L) := by
  obtain ⟨hz, hk⟩ := hF
  rw [h0] at hz hk
  exact ⟨by rw [e1]; exact hz, fun q h1 h2 => by rw [e1]; exact hk q h1 h2,
    ⟨Nat.le_trans hS.1 (by rw [e1]; exact hz), fun q h1 h2 => by rw [e1, hk q (Nat.lt_of_lt_of_le h1 hS.1) (fun z => h2 (hA q (Nat.lt_of_lt_of_le h1 hS.1) z))]; exact hS.2.1 q h1 h2, fun q hq => by
      rcases List.mem_append.mp hq with h | h
      · exact hS.2.2 q h
      · exact hf _ (hL q h)⟩⟩
theorem vx_calli {S SX : Type} {post : Int32 → S → Prop} {px : SX → Prop} {B : S → State → Prop} {BX : String → SX → State → Prop} {AX : Nat → Prop} (hr : vx_Run p l e R s m args below meth c H locs cells slots mc ms (F0 m pc ls st0) rest (va_Qi post B A1 a) (vx_X px BX AX) free) (hS : va_S A0 H0 H locs) (hA : ∀ q, q < H.size → A1 q → A0 q) (hf : ∀ q, free q → A0 q) (hAX : ∀ q, q < H.size → AX q → A0 q)
    (kx : ∀ (E : String) (ce : Cell) (q9 : Addr) (u : SX) (t : State) (H1 : Heap) (locs1 : List Loc), t.heap = H1 → s.vm.Alike t.vm → px u → BX E u t → H.size ≤ H1.size → (∀ q : Nat, q < H.size → ¬ AX q → H1[q]? = H[q]?) → va_S A0 H0 H1 locs1 → H1[q9]? = some ce → ce.vm = .none → s.vm.findClass E = some ce.cls → vx_W p l e R s m args below meth c H1 locs1 (cells + mc) (slots + ms) Q (F0 m pc ls rest) q9)
    (kk : ∀ (r : Int32) (u : S) (t : State) (H1 : Heap) (locs1 : List Loc), t.heap = H1 → s.vm.Alike t.vm → post r u → B u t → H.size ≤ H1.size → (∀ q : Nat, q < H.size → ¬ A1 q → H1[q]? = H[q]?) → va_S A0 H0 H1 locs1 → W p l e R s m args below meth c H1 locs1 (cells + mc) (slots + ms) Q (F0 m (pc + 3) ls (.int r :: rest))) : W p l e R s m args below meth c H locs cells slots Q (F0 m pc ls st0) := by
  intro T hT X
  rcases hr T hT X with ⟨v, st₀, t, T', L, h0, X', hL, e1, e2, ⟨⟨r, u, hv, hp, hb⟩, hF⟩, st⟩ | ⟨q, st₀, t, T', L, E, ce, h0, X', hL, e1, e2, ⟨u, hp, hb, hF⟩, hce, hcv, hcl, st⟩
  · cases hv
    obtain ⟨k1, k2, k3⟩ := vx_keep h0 e1 hS hA hf hL hF
    obtain ⟨t2, a1, b1⟩ := kk r u t T'.heap (locs ++ L) e1.symm (by rw [← e2]; exact X'.warmed.alike) hp hb k1 k2 k3 T' rfl X'
    exact ⟨t2, st t2 a1, b1⟩
  · obtain ⟨k1, k2, k3⟩ := vx_keep h0 e1 hS hAX hf hL hF
    obtain ⟨t2, a1, b1⟩ := kx E ce q u t T'.heap (locs ++ L) e1.symm (by rw [← e2]; exact X'.warmed.alike) hp hb k1 k2 k3 (by rw [e1]; exact hce) hcv hcl T' rfl X'
    exact ⟨t2, st.trans a1, b1⟩
theorem vx_calll {S SX : Type} {post : Int64 → S → Prop} {px : SX → Prop} {B : S → State → Prop} {BX : String → SX → State → Prop} {AX : Nat → Prop} (hr : vx_Run p l e R s m args below meth c H locs cells slots mc ms (F0 m pc ls st0) rest (va_Ql post B A1 a) (vx_X px BX AX) free) (hS : va_S A0 H0 H locs) (hA : ∀ q, q < H.size → A1 q → A0 q) (hf : ∀ q, free q → A0 q) (hAX : ∀ q, q < H.size → AX q → A0 q)
    (kx : ∀ (E : String) (ce : Cell) (q9 : Addr) (u : SX) (t : State) (H1 : Heap) (locs1 : List Loc), t.heap = H1 → s.vm.Alike t.vm → px u → BX E u t → H.size ≤ H1.size → (∀ q : Nat, q < H.size → ¬ AX q → H1[q]? = H[q]?) → va_S A0 H0 H1 locs1 → H1[q9]? = some ce → ce.vm = .none → s.vm.findClass E = some ce.cls → vx_W p l e R s m args below meth c H1 locs1 (cells + mc) (slots + ms) Q (F0 m pc ls rest) q9)
    (kk : ∀ (r : Int64) (u : S) (t : State) (H1 : Heap) (locs1 : List Loc), t.heap = H1 → s.vm.Alike t.vm → post r u → B u t → H.size ≤ H1.size → (∀ q : Nat, q < H.size → ¬ A1 q → H1[q]? = H[q]?) → va_S A0 H0 H1 locs1 → W p l e R s m args below meth c H1 locs1 (cells + mc) (slots + ms) Q (F0 m (pc + 3) ls (.long r :: rest))) : W p l e R s m args below meth c H locs cells slots Q (F0 m pc ls st0) := by
  intro T hT X
  rcases hr T hT X with ⟨v, st₀, t, T', L, h0, X', hL, e1, e2, ⟨⟨r, u, hv, hp, hb⟩, hF⟩, st⟩ | ⟨q, st₀, t, T', L, E, ce, h0, X', hL, e1, e2, ⟨u, hp, hb, hF⟩, hce, hcv, hcl, st⟩
  · cases hv
    obtain ⟨k1, k2, k3⟩ := vx_keep h0 e1 hS hA hf hL hF
    obtain ⟨t2, a1, b1⟩ := kk r u t T'.heap (locs ++ L) e1.symm (by rw [← e2]; exact X'.warmed.alike) hp hb k1 k2 k3 T' rfl X'
    exact ⟨t2, st t2 a1, b1⟩
  · obtain ⟨k1, k2, k3⟩ := vx_keep h0 e1 hS hAX hf hL hF
    obtain ⟨t2, a1, b1⟩ := kx E ce q u t T'.heap (locs ++ L) e1.symm (by rw [← e2]; exact X'.warmed.alike) hp hb k1 k2 k3 (by rw [e1]; exact hce) hcv hcl T' rfl X'
    exact ⟨t2, st.trans a1, b1⟩
theorem vx_callf {S SX : Type} {post : UInt32 → S → Prop} {px : SX → Prop} {B : S → State → Prop} {BX : String → SX → State → Prop} {AX : Nat → Prop} (hr : vx_Run p l e R s m args below meth c H locs cells slots mc ms (F0 m pc ls st0) rest (va_Qf post B A1 a) (vx_X px BX AX) free) (hS : va_S A0 H0 H locs) (hA : ∀ q, q < H.size → A1 q → A0 q) (hf : ∀ q, free q → A0 q) (hAX : ∀ q, q < H.size → AX q → A0 q)
    (kx : ∀ (E : String) (ce : Cell) (q9 : Addr) (u : SX) (t : State) (H1 : Heap) (locs1 : List Loc), t.heap = H1 → s.vm.Alike t.vm → px u → BX E u t → H.size ≤ H1.size → (∀ q : Nat, q < H.size → ¬ AX q → H1[q]? = H[q]?) → va_S A0 H0 H1 locs1 → H1[q9]? = some ce → ce.vm = .none → s.vm.findClass E = some ce.cls → vx_W p l e R s m args below meth c H1 locs1 (cells + mc) (slots + ms) Q (F0 m pc ls rest) q9)
    (kk : ∀ (r : UInt32) (u : S) (t : State) (H1 : Heap) (locs1 : List Loc), t.heap = H1 → s.vm.Alike t.vm → post r u → B u t → H.size ≤ H1.size → (∀ q : Nat, q < H.size → ¬ A1 q → H1[q]? = H[q]?) → va_S A0 H0 H1 locs1 → W p l e R s m args below meth c H1 locs1 (cells + mc) (slots + ms) Q (F0 m (pc + 3) ls (.float r :: rest))) : W p l e R s m args below meth c H locs cells slots Q (F0 m pc ls st0) := by
  intro T hT X
  rcases hr T hT X with ⟨v, st₀, t, T', L, h0, X', hL, e1, e2, ⟨⟨r, u, hv, hp, hb⟩, hF⟩, st⟩ | ⟨q, st₀, t, T', L, E, ce, h0, X', hL, e1, e2, ⟨u, hp, hb, hF⟩, hce, hcv, hcl, st⟩
  · cases hv
    obtain ⟨k1, k2, k3⟩ := vx_keep h0 e1 hS hA hf hL hF
    obtain ⟨t2, a1, b1⟩ := kk r u t T'.heap (locs ++ L) e1.symm (by rw [← e2]; exact X'.warmed.alike) hp hb k1 k2 k3 T' rfl X'
    exact ⟨t2, st t2 a1, b1⟩
  · obtain ⟨k1, k2, k3⟩ := vx_keep h0 e1 hS hAX hf hL hF
    obtain ⟨t2, a1, b1⟩ := kx E ce q u t T'.heap (locs ++ L) e1.symm (by rw [← e2]; exact X'.warmed.alike) hp hb k1 k2 k3 (by rw [e1]; exact hce) hcv hcl T' rfl X'
    exact ⟨t2, st.trans a1, b1⟩
theorem vx_calld {S SX : Type} {post : UInt64 → S → Prop} {px : SX → Prop} {B : S → State → Prop} {BX : String → SX → State → Prop} {AX : Nat → Prop} (hr : vx_Run p l e R s m args below meth c H locs cells slots mc ms (F0 m pc ls st0) rest (va_Qd post B A1 a) (vx_X px BX AX) free) (hS : va_S A0 H0 H locs) (hA : ∀ q, q < H.size → A1 q → A0 q) (hf : ∀ q, free q → A0 q) (hAX : ∀ q, q < H.size → AX q → A0 q)
    (kx : ∀ (E : String) (ce : Cell) (q9 : Addr) (u : SX) (t : State) (H1 : Heap) (locs1 : List Loc), t.heap = H1 → s.vm.Alike t.vm → px u → BX E u t → H.size ≤ H1.size → (∀ q : Nat, q < H.size → ¬ AX q → H1[q]? = H[q]?) → va_S A0 H0 H1 locs1 → H1[q9]? = some ce → ce.vm = .none → s.vm.findClass E = some ce.cls → vx_W p l e R s m args below meth c H1 locs1 (cells + mc) (slots + ms) Q (F0 m pc ls rest) q9)
    (kk : ∀ (r : UInt64) (u : S) (t : State) (H1 : Heap) (locs1 : List Loc), t.heap = H1 → s.vm.Alike t.vm → post r u → B u t → H.size ≤ H1.size → (∀ q : Nat, q < H.size → ¬ A1 q → H1[q]? = H[q]?) → va_S A0 H0 H1 locs1 → W p l e R s m args below meth c H1 locs1 (cells + mc) (slots + ms) Q (F0 m (pc + 3) ls (.double r :: rest))) : W p l e R s m args below meth c H locs cells slots Q (F0 m pc ls st0) := by
  intro T hT X
  rcases hr T hT X with ⟨v, st₀, t, T', L, h0, X', hL, e1, e2, ⟨⟨r, u, hv, hp, hb⟩, hF⟩, st⟩ | ⟨q, st₀, t, T', L, E, ce, h0, X', hL, e1, e2, ⟨u, hp, hb, hF⟩, hce, hcv, hcl, st⟩
  · cases hv
    obtain ⟨k1, k2, k3⟩ := vx_keep h0 e1 hS hA hf hL hF
    obtain ⟨t2, a1, b1⟩ := kk r u t T'.heap (locs ++ L) e1.symm (by rw [← e2]; exact X'.warmed.alike) hp hb k1 k2 k3 T' rfl X'
    exact ⟨t2, st t2 a1, b1⟩
  · obtain ⟨k1, k2, k3⟩ := vx_keep h0 e1 hS hAX hf hL hF
    obtain ⟨t2, a1, b1⟩ := kx E ce q u t T'.heap (locs ++ L) e1.symm (by rw [← e2]; exact X'.warmed.alike) hp hb k1 k2 k3 (by rw [e1]; exact hce) hcv hcl T' rfl X'
    exact ⟨t2, st.trans a1, b1⟩
theorem vx_callv {S SX : Type} {post : S → Prop} {px : SX → Prop} {B : S → State → Prop} {BX : String → SX → State → Prop} {AX : Nat → Prop} (hr : vx_Run p l e R s m args below meth c H locs cells slots mc ms (F0 m pc ls st0) rest (va_Qv post B A1 a) (vx_X px BX AX) free) (hS : va_S A0 H0 H locs) (hA : ∀ q, q < H.size → A1 q → A0 q) (hf : ∀ q, free q → A0 q) (hAX : ∀ q, q < H.size → AX q → A0 q)
    (kx : ∀ (E : String) (ce : Cell) (q9 : Addr) (u : SX) (t : State) (H1 : Heap) (locs1 : List Loc), t.heap = H1 → s.vm.Alike t.vm → px u → BX E u t → H.size ≤ H1.size → (∀ q : Nat, q < H.size → ¬ AX q → H1[q]? = H[q]?) → va_S A0 H0 H1 locs1 → H1[q9]? = some ce → ce.vm = .none → s.vm.findClass E = some ce.cls → vx_W p l e R s m args below meth c H1 locs1 (cells + mc) (slots + ms) Q (F0 m pc ls rest) q9)
    (kk : ∀ (u : S) (t : State) (H1 : Heap) (locs1 : List Loc), t.heap = H1 → s.vm.Alike t.vm → post u → B u t → H.size ≤ H1.size → (∀ q : Nat, q < H.size → ¬ A1 q → H1[q]? = H[q]?) → va_S A0 H0 H1 locs1 → W p l e R s m args below meth c H1 locs1 (cells + mc) (slots + ms) Q (F0 m (pc + 3) ls (rest))) : W p l e R s m args below meth c H locs cells slots Q (F0 m pc ls st0) := by
  intro T hT X
  rcases hr T hT X with ⟨v, st₀, t, T', L, h0, X', hL, e1, e2, ⟨⟨u, hv, hp, hb⟩, hF⟩, st⟩ | ⟨q, st₀, t, T', L, E, ce, h0, X', hL, e1, e2, ⟨u, hp, hb, hF⟩, hce, hcv, hcl, st⟩
  · cases hv
    obtain ⟨k1, k2, k3⟩ := vx_keep h0 e1 hS hA hf hL hF
    obtain ⟨t2, a1, b1⟩ := kk u t T'.heap (locs ++ L) e1.symm (by rw [← e2]; exact X'.warmed.alike) hp hb k1 k2 k3 T' rfl X'
    exact ⟨t2, st t2 a1, b1⟩
  · obtain ⟨k1, k2, k3⟩ := vx_keep h0 e1 hS hAX hf hL hF
    obtain ⟨t2, a1, b1⟩ := kx E ce q u t T'.heap (locs ++ L) e1.symm (by rw [← e2]; exact X'.warmed.alike) hp hb k1 k2 k3 (by rw [e1]; exact hce) hcv hcl T' rfl X'
    exact ⟨t2, st.trans a1, b1⟩
/-- caught by the row x of this method's table; the rows ahead don't take it -/
theorem vx_catch {own name : String} {E : String} {ce : Cell} {q : Addr} (hown : s.vm.findClass own = some m.cls) (pre : List ExceptionTableEntry) (x : ExceptionTableEntry) (suf : List ExceptionTableEntry) (hsplit : c.exceptionTable.toList = pre ++ x :: suf)
    (hpass : ∀ z ∈ pre, covers z pc = false ∨ (z.catchType ≠ 0 ∧ ∃ nm : String, (Cond.classLink own z.catchType nm).before args s = true ∧ va_Nc E nm s)) (hx : covers x pc = true) (h0 : x.catchType ≠ 0)
    (hlink : (Cond.classLink own x.catchType name).before args s = true) (hcast : (Cond.castable E name).before args s = true) (hcell : H[q]? = some ce) (hv : ce.vm = .none) (hcl : s.vm.findClass E = some ce.cls)
    (kk : W p l e R s m args below meth c H locs cells slots Q (F0 m x.handlerPc ls [.ref q])) : vx_W p l e R s m args below meth c H locs cells slots Q (F0 m pc ls rest) q := by
  intro T hT X
  have hpl : e.platform.magicAccessors = ({} : Platform).magicAccessors := by rw [X.admits.platform]
  obtain ⟨c3, c4, hc3, hc4, hasg⟩ := Cond.castable_spec hcast
  cases Option.some.inj (hc3.symm.trans hcl)
  obtain ⟨c5, hc5, hcl5⟩ := Cond.classLink_spec hown hlink e.platform hpl
  cases Option.some.inj (hc4.symm.trans hc5)
  obtain ⟨vm', X', st⟩ := X.thenCaughtThrough q (g := F0 m pc ls rest) rfl (Steps.refl _) (by rw [hT]; exact hcell) (by rw [hv]; rfl) (by obtain ⟨k9, h9, -⟩ := Vm.findClass_spec hcl; exact ⟨k9, h9⟩) pre x suf hsplit
    (fun z hz => by
      rcases hpass z hz with h | ⟨hz0, nm, hl1, hn1⟩
      · exact Or.inl h
      · obtain ⟨c6, hc6, hcl6⟩ := Cond.classLink_spec hown hl1 e.platform hpl
        obtain ⟨a8, b8, h1, h2, h3⟩ := hn1
        cases Option.some.inj (h1.symm.trans hcl)
        cases Option.some.inj (h2.symm.trans hc6)
        exact Or.inr ⟨hz0, _, hcl6, h3⟩) hx (Or.inr ⟨h0, c4, hcl5, hasg⟩)
  obtain ⟨t, a1, b1⟩ := kk (T.setVm vm') hT X'
  exact ⟨t, st.trans a1, b1⟩
end Rows
section Ends
variable {p : Program} {l : Launch} {e : Env} {R : Room} {s : State} {m : MethodId} {args : Array Value} {below : List Frame} {meth : Method} {c : Code} {H : Heap} {locs : List Loc} {cells slots : Nat} {Q : State → Prop}
variable {mc ms : Nat} {free : Addr → Prop} {A0 A1 : Nat → Prop} {H0 : Heap} {a : Array Value} {ls : Array Slot} {st0 rest : List Value}
variable {Qc : Array Value → State → Outcome → State → Prop} {XC : String → State → State → Prop}
/-- what a body that may throw owes at its end -/
def vx_MQ (below : List Frame) (Qc : Array Value → State → Outcome → State → Prop) (XC : String → State → State → Prop) (a : Array Value) (s : State) (mc ms : Nat) (free : Addr → Prop) : State → Prop := fun t =>
  ∃ o, t.status = .running ∧ Ended t below o ∧ vx_Q Qc XC mc ms free a s o t
theorem vx_ret {g : JFrame} {mc ms : Nat} (k : W p l e R s m args below meth c H locs cells slots (MQ below Qc args s mc ms free) g) : W p l e R s m args below meth c H locs cells slots (vx_MQ below Qc XC args s mc ms free) g := by
  intro T hT X
  obtain ⟨t, a1, o, b1, b2, b3, b4⟩ := k T hT X
  exact ⟨t, a1, o, b1, b2, Or.inl ⟨b3, b4⟩⟩
/-- not caught here: it goes on to the caller -/
theorem vx_widen {g : JFrame} {q : Addr} {k n : Nat} (h1 : cells ≤ k) (h2 : slots ≤ n) (kk : vx_W p l e R s m args below meth c H locs k n Q g q) : vx_W p l e R s m args below meth c H locs cells slots Q g q := fun T hT X => kk T hT (stand_widen X h1 h2)
theorem vx_out {pc : Nat} {E : String} {ce : Cell} {q : Addr} {mc ms : Nat} (hout : ∀ x ∈ c.exceptionTable.toList, covers x pc = false) (hlocks : meth.locks = false) (hcell : H[q]? = some ce) (hv : ce.vm = .none) (hcl : s.vm.findClass E = some ce.cls)
    (hx : ∀ t : State, t.heap = H → s.vm.Alike t.vm → XC E s t) (hf : ∀ z ∈ locs, free z.base) (hc : cells ≤ mc) (hs : slots ≤ ms) :
    vx_W p l e R s m args below meth c H locs cells slots (vx_MQ below Qc XC args s mc ms free) (F0 m pc ls rest) q := by
  intro T hT X
  obtain ⟨st1, hrun, hend, hW, hsm⟩ := X.leaveThrown q (g := F0 m pc ls rest) rfl rfl rfl hout hlocks
  have hcell9 : (T.setFrames (.throwing q :: below)).heap[q]? = some ce := by
    show T.heap[q]? = some ce
    rw [hT]; exact hcell
  exact ⟨_, st1, .threw q, hrun, hend, Or.inr ⟨q, rfl, E, ce, locs, hx _ hT hW.alike, hcell9, hv, hcl, hW, hsm.mono hc hs, hf⟩⟩
theorem vx_frame {U : State} {k n : Nat} (h : s.sameButNew ({ U with vm := s.vm } : State) locs k n) : s.heap.size ≤ U.heap.size ∧ ∀ q : Nat, q < s.heap.size → (∀ z ∈ locs, z.base ≠ q) → U.heap[q]? = s.heap[q]? := by
  obtain ⟨-, h2, -, -, -, h6⟩ := h
  refine ⟨h2, fun q hq hz => ?_⟩
  obtain ⟨c9, e1, e2, e3, e4⟩ := h6 q _ (Array.getElem?_eq_getElem hq)
  have hs : c9.slots = (s.heap[q]).slots := Array.ext_getElem? fun i => e4 i fun hm => hz _ hm rfl
  have h9 : c9 = s.heap[q] := by
    rw [hs] at e2
    exact e2
  have e5 : U.heap[q]? = some c9 := e1
  rw [e5, h9, Array.getElem?_eq_getElem hq]
/-- the words of a throw but the four that speak of the heap -/
def vx_no (w : Cond) : Bool := decide (w ≠ .isRef (.static Bundle.tN "UNASSIGNED_STACK" Bundle.steD)) && decide (w ≠ .isRef (.static Bundle.tN "SUPPRESSED_SENTINEL" Bundle.listD)) && decide (w ≠ .laysStatic Bundle.tN "UNASSIGNED_STACK" Bundle.steD) && decide (w ≠ .laysStatic Bundle.tN "SUPPRESSED_SENTINEL" Bundle.listD)
def vx_at0 (own : String) (ic : Nat) (X : String) (names : List String) : List Cond := (Bundle.ownAtoms0 own ic X names).filter vx_no
def vx_atS (own : String) (ic : Nat) (X : String) (names : List String) : List Cond := (Bundle.ownAtoms own ic X names).filter vx_no
/-- a word that the tables alone decide, or a good one -/
def vx_ot (w : Cond) : Bool := w.onTables || goodWord w
theorem vx_ot_at {args a' : Array Value} {s U : State} {w : Cond} (hW : s.WarmedH U.vm) (hvm : s.vm = U.vm) (hg : vx_ot w = true) (h : w.before args s = true) : w.before a' U = true := by
  simp only [vx_ot, Bool.or_eq_true] at hg
  rcases hg with hg | hg
  · exact va_tabs hg hvm h
  · exact word_at hW (good_of_word hg) h
/-- a list's words: the good ones out of the method's own list, the others by premises of their own -/
theorem vx_hat {args : Array Value} {s : State} {L B : List Cond} (h1 : ∀ w ∈ L.filter goodWord, w.before args s = true) (h2 : ∀ w ∈ L.filter (fun w => !goodWord w), w ∈ B) (h3 : ∀ w ∈ B, w.before args s = true) : ∀ w ∈ L, w.before args s = true := by
  intro w hw
  by_cases g : goodWord w = true
  · exact h1 w (List.mem_filter.mpr ⟨hw, g⟩)
  · refine h3 w (h2 w (List.mem_filter.mpr ⟨hw, ?_⟩))
    show (!goodWord w) = true
    cases hgw : goodWord w
    · rfl
    · exact absurd hgw g
theorem vx_c {args : Array Value} {s : State} {w : Cond} {B : List Cond} (h : w.before args s = true) (t : ∀ w ∈ B, w.before args s = true) : ∀ w' ∈ w :: B, w'.before args s = true := fun w' h' => (List.mem_cons.mp h').elim (fun e => by rw [e]; exact h) (t w')
theorem vx_n {args : Array Value} {s : State} : ∀ w ∈ ([] : List Cond), w.before args s = true := fun _ h => nomatch h
theorem vx_own {args : Array Value} {s : State} {L : List Cond} (h1 : ∀ w ∈ L.filter vx_no, w.before args s = true)
    (hU : (Cond.isRef (.static Bundle.tN "UNASSIGNED_STACK" Bundle.steD)).before args s = true) (hN : (Cond.isRef (.static Bundle.tN "SUPPRESSED_SENTINEL" Bundle.listD)).before args s = true)
    (lU : (Cond.laysStatic Bundle.tN "UNASSIGNED_STACK" Bundle.steD).before args s = true) (lN : (Cond.laysStatic Bundle.tN "SUPPRESSED_SENTINEL" Bundle.listD).before args s = true) : ∀ w ∈ L, w.before args s = true := by
  intro w hw
  by_cases e1 : w = .isRef (.static Bundle.tN "UNASSIGNED_STACK" Bundle.steD)
  · rw [e1]; exact hU
  · by_cases e2 : w = .isRef (.static Bundle.tN "SUPPRESSED_SENTINEL" Bundle.listD)
    · rw [e2]; exact hN
    · by_cases e3 : w = .laysStatic Bundle.tN "UNASSIGNED_STACK" Bundle.steD
      · rw [e3]; exact lU
      · by_cases e4 : w = .laysStatic Bundle.tN "SUPPRESSED_SENTINEL" Bundle.listD
        · rw [e4]; exact lN
        · exact h1 w (List.mem_filter.mpr ⟨hw, by unfold vx_no; rw [decide_eq_true e1, decide_eq_true e2, decide_eq_true e3, decide_eq_true e4]; rfl⟩)
/-- where a static field lies, its class's statics cell in H -/
def vx_L (C n d : String) (A : Nat → Prop) (U : State) (H : Heap) : Prop := ∃ (c : ClassId) (k : Class) (i : Nat) (f : Field) (a : Nat) (cell : Cell), U.vm.findClass C = some c ∧ U.fieldFound? C n d = some (c, k, i, f) ∧ f.isStatic = true ∧ k.statics = some a ∧ H[a]? = some cell ∧ cell.vm.isStatics = true ∧ cell.cls = c ∧ f.slot < cell.slots.size ∧ k.staticTypes[f.slot]? = some f.type ∧ ¬ A a
theorem vx_L.moved {C n d : String} {A : Nat → Prop} {u U : State} {H : Heap} (hvm : u.vm.Alike U.vm) (h : vx_L C n d A u H) : vx_L C n d A U H := by
  obtain ⟨c, k, i, f, a, cell, h1, h2, h3, h4, h5, h6, h7, h8, h9, h10⟩ := h
  obtain ⟨k', hi', he⟩ := State.fieldFound?_setVm hvm h2
  exact ⟨c, k', i, f, a, cell, by rw [hvm.findClass]; exact h1, hi', h3, by rw [he]; exact h4, h5, h6, h7, h8, by rw [he]; exact h9, h10⟩
theorem vx_L.kept {C n d : String} {A : Nat → Prop} {U : State} {H H1 : Heap} (h : vx_L C n d A U H) (hq : ∀ a : Nat, a < H.size → ¬ A a → H1[a]? = H[a]?) : vx_L C n d A U H1 := by
  obtain ⟨c, k, i, f, a, cell, h1, h2, h3, h4, h5, h6, h7, h8, h9, h10⟩ := h
  exact ⟨c, k, i, f, a, cell, h1, h2, h3, h4, by rw [hq a (Array.getElem?_eq_some_iff.mp h5).1 h10]; exact h5, h6, h7, h8, h9, h10⟩
theorem vx_L.narrow {C n d : String} {A B : Nat → Prop} {U : State} {H : Heap} (h : vx_L C n d A U H) (hAB : ∀ q, B q → A q) : vx_L C n d B U H := by
  obtain ⟨c, k, i, f, a, cell, h1, h2, h3, h4, h5, h6, h7, h8, h9, h10⟩ := h
  exact ⟨c, k, i, f, a, cell, h1, h2, h3, h4, h5, h6, h7, h8, h9, fun z => h10 (hAB _ z)⟩
theorem vx_L.word {C n d : String} {A : Nat → Prop} {s : State} {args : Array Value} (h : vx_L C n d A s s.heap) : (Cond.laysStatic C n d).before args s = true := by
  obtain ⟨c, k, i, f, a, cell, h1, h2, h3, h4, h5, h6, h7, h8, h9, -⟩ := h
  show (Cond.laysStatic C n d).holds args s none s [] = true
  exact Cond.laysStatic_of h1 h2 h3 h4 h5 h6 h7 h8 h9
/-- .. and what it holds: null or some reference -/
def vx_Zq (C n d : String) (A : Nat → Prop) (U : State) (H : Heap) : Prop := va_Zq C n d A U H ∧ vx_L C n d A U H
theorem vx_Zq.moved {C n d : String} {A : Nat → Prop} {u U : State} {H : Heap} (hvm : u.vm.Alike U.vm) (h : vx_Zq C n d A u H) : vx_Zq C n d A U H := ⟨va_Zq.moved hvm h.1, vx_L.moved hvm h.2⟩
theorem vx_Zq.kept {C n d : String} {A : Nat → Prop} {U : State} {H H1 : Heap} (h : vx_Zq C n d A U H) (hq : ∀ a : Nat, a < H.size → ¬ A a → H1[a]? = H[a]?) : vx_Zq C n d A U H1 := ⟨va_Zq.kept h.1 hq, vx_L.kept h.2 hq⟩
theorem vx_Zq.narrow {C n d : String} {A B : Nat → Prop} {U : State} {H : Heap} (h : vx_Zq C n d A U H) (hAB : ∀ q, B q → A q) : vx_Zq C n d B U H := ⟨va_Zq.narrow h.1 hAB, vx_L.narrow h.2 hAB⟩
theorem vx_Zqof {args : Array Value} {s : State} {C n d : String} {A : Nat → Prop} (hl : (Cond.laysStatic C n d).before args s = true) (hini : (Cond.initialized C).before args s = true) (h : (Cond.isRef (.static C n d)).before args s = true) (hA : ∀ a : Nat, a < s.heap.size → ¬ A a) : vx_Zq C n d A s s.heap := by
  refine ⟨va_Zqof hl hini h hA, ?_⟩
  obtain ⟨c, k, i, f, a, cell, h1, h2, h3, h4, h5, h6, h7, h8, h9⟩ := Cond.laysStatic_spec hl
  exact ⟨c, k, i, f, a, cell, h1, h2, h3, h4, h5, h6, h7, h8, h9, hA a (Array.getElem?_eq_some_iff.mp h5).1⟩
theorem vx_isRef {C n d : String} {v : Value} {A : Nat → Prop} {s : State} {args : Array Value} (h : va_Z C n d v A s s.heap) (hv : v.isRef = true) : (Cond.isRef (.static C n d)).before args s = true := by
  obtain ⟨cf, kf, fi, f, a, cell, h1, h2, h3, h4, h5, h6, h7, -⟩ := h
  have he : (Term.static C n d).eval args s none [] s = some v := by
    simp [Term.eval, State.fieldNamed?, h1, h2, h4, h5, h6, h7]
  simp only [Cond.before, Cond.holds, Cond.value, he]
  cases v <;> simp_all [Value.isRef]
theorem vx_isRefq {C n d : String} {A : Nat → Prop} {s : State} {args : Array Value} (h : va_Zq C n d A s s.heap) : (Cond.isRef (.static C n d)).before args s = true := by
  rcases h with h | ⟨t, h⟩
  · exact vx_isRef h rfl
  · exact vx_isRef h rfl
/-- the same frame, seen from here: as if the method were called anew in this heap -/
theorem vx_rebase {T : State} (X : Stand p l e R s m args below meth c T locs cells slots) {R' : Room} (hf : R'.frames ≤ R.frames) (hl : R'.locals ≤ R.locals) (hc : cells + R'.cells ≤ R.cells) (hs : slots + R'.slots ≤ R.slots) :
    Stand p l e R' ((T.setVm s.vm).setFrames (.invoking m args :: below)) m args below meth c T [] 0 0 := by
  have htop : (T.setVm s.vm).topJava?.isSome := X.here.top
  have hF : ((T.setVm s.vm).setFrames (.invoking m args :: below)).frames = .invoking m args :: below := State.frames_setFrames _ (State.cur_lt_of_top htop)
  obtain ⟨g₀, hg0⟩ := Option.isSome_iff_exists.mp htop
  obtain ⟨r, hr⟩ := State.topJava?_eq_some.mp hg0
  have hl9 : e.platform.stackLimits (T.setVm s.vm).me = e.platform.stackLimits s.me := X.limits
  have hb9 : (T.setVm s.vm).me.stackBytes = s.me.stackBytes := X.bytes
  refine ⟨X.admits, X.cas, X.clock, hF, ?_, X.hears, X.method, X.code, X.here, X.tail, X.warmed, ?_, ?_, ?_⟩
  · have h := X.room
    have hU : ((T.setVm s.vm).setFrames (.invoking m args :: below)).localsInUse = s.localsInUse := by
      rw [State.localsInUse_invoking hF (meth := meth) (c := c) X.method X.code, State.localsInUse_invoking X.frames X.method X.code]
    simp only [State.hasRoom, Bool.and_eq_true, decide_eq_true_eq] at h ⊢
    obtain ⟨⟨⟨⟨h1, h2, h3, h4, h5, h6⟩, h7⟩, h8⟩, h9⟩ := h
    rw [X.frames, List.length_cons] at h2 h3
    have q1 := X.heapSize
    have q2 := X.used
    simp only [hF, hU, List.length_cons, State.stackLimits_setFrames, State.stackBytes_setFrames, hl9, hb9]
    refine ⟨⟨⟨⟨by omega, by omega, by omega, by omega, by omega, h6⟩, ?_⟩, ?_⟩, X.book⟩
    · show T.heap.size + R'.cells ≤ e.platform.maxCells
      omega
    · show T.slotsUsed + R'.slots ≤ e.platform.maxSlots
      omega
  · rw [State.stackLimits_setFrames]; rfl
  · rw [State.stackBytes_setFrames]; rfl
  · refine ⟨?_, Nat.le_refl _, Nat.le_refl _, ?_, ?_, fun a c9 h9 => ⟨c9, h9, rfl, rfl, fun _ _ => rfl⟩⟩
    · obtain ⟨t, ht, -⟩ := State.frames_cons hr
      show T.setVm s.vm = { ((T.setVm s.vm).setFrames (.invoking m args :: below)).setFrames (T.setVm s.vm).frames with heap := T.heap, slotsUsed := T.slotsUsed }
      rw [State.setFrames_setFrames, State.setFrames_self ht]
      rfl
    · show T.slotsUsed = T.slotsUsed + ((T.heap.toList.drop T.heap.size).map (·.slots.size)).sum
      rw [List.drop_eq_nil_of_le (Nat.le_of_eq Array.length_toList)]
      rfl
    · show ((T.heap.toList.drop T.heap.size).map (·.slots.size)).sum ≤ 0
      rw [List.drop_eq_nil_of_le (Nat.le_of_eq Array.length_toList)]
      exact Nat.le_refl _
/-- 'throw new E()': new; dup; invokespecial; athrow -/
theorem vx_throw0 {cc : ByteArray} {pc : Nat} (hexec : p.tables.exec = Jvm.exec) (hb : c.code = cc) (hl : l.stackTraces = false) {own cls : String} {names : List String} {ik ic mc ms : Nat} {A : Nat → Prop}
    (hown : s.vm.findClass own = some m.cls) (hcls : Bundle.fit cls = true) (hnames : ∀ n ∈ names, Bundle.fit n = true)
    (hk : (Cond.classLink own ik cls).before args s = true) (hini : (Cond.initialized cls).before args s = true) (hat : ∀ w ∈ vx_at0 own ic cls names, w.before args s = true)
    (hgood : ∀ w ∈ Cond.classLink own ik cls :: Cond.initialized cls :: vx_at0 own ic cls names, vx_ot w = true)
    (hU : vx_Zq Bundle.tN "UNASSIGNED_STACK" Bundle.steD A s s.heap) (hN : vx_Zq Bundle.tN "SUPPRESSED_SENTINEL" Bundle.listD A s s.heap) (hS : va_S A s.heap H locs) (hsize : ls.size = c.maxLocals)
    (d0 : decode cc pc = .ok (.new ik, 3)) (d3 : decode cc (pc + 3) = .ok (.dup, 1)) (d4 : decode cc (pc + 4) = .ok (.invokespecial ic, 3)) (d7 : decode cc (pc + 7) = .ok (.athrow, 1))
    (hout : ∀ x ∈ c.exceptionTable.toList, covers x (pc + 7) = false)
    (hRframes : names.length + 3 < R.frames) (hRlocals : (rest.map fun v => v.category).sum + (13 * (names.length + 1) + 42) ≤ R.locals) (hRcells : cells + 1 ≤ R.cells) (hRslots : slots + 6 ≤ R.slots) (hlocks : meth.locks = false)
    (hx : ∀ t : State, s.vm.Alike t.vm → H.size ≤ t.heap.size → (∀ q : Nat, q < H.size → t.heap[q]? = H[q]?) → XC cls s t)
    (hf : ∀ z ∈ locs, free z.base) (hc : cells + 1 ≤ mc) (hs : slots + 6 ≤ ms) :
    W p l e R s m args below meth c H locs cells slots (vx_MQ below Qc XC args s mc ms free) (F0 m pc ls rest) := by
  intro T hT X
  have htr : e.platform.stackTraces = false := (show e.platform.stackTraces = l.stackTraces by rw [X.admits.platform]).trans hl
  have Y := vx_rebase X (R' := { frames := R.frames, locals := R.locals, cells := 1, slots := 6 }) (Nat.le_refl _) (Nat.le_refl _) hRcells hRslots
  obtain ⟨s', hA⟩ : ∃ z, z = (T.setVm s.vm).setFrames (.invoking m args :: below) := ⟨_, rfl⟩
  rw [← hA] at Y
  have hvm : s'.vm = s.vm := by rw [hA]; rfl
  have hhp : s'.heap = H := by rw [hA]; exact hT
  have hW0 : s.WarmedH s'.vm := by rw [hvm]; exact State.WarmedH.refl s
  have hat' : ∀ w ∈ vx_at0 own ic cls names, w.before args s' = true := fun w hw => vx_ot_at hW0 hvm.symm (hgood w (List.mem_cons_of_mem _ (List.mem_cons_of_mem _ hw))) (hat w hw)
  have hk' : (Cond.classLink own ik cls).before args s' = true := vx_ot_at hW0 hvm.symm (hgood _ List.mem_cons_self) hk
  have hini' : (Cond.initialized cls).before args s' = true := vx_ot_at hW0 hvm.symm (hgood _ (List.mem_cons_of_mem _ List.mem_cons_self)) hini
  have hU' : vx_Zq Bundle.tN "UNASSIGNED_STACK" Bundle.steD A s' s'.heap := by rw [hhp]; exact vx_Zq.moved hW0.alike (hU.kept hS.2.1)
  have hN' : vx_Zq Bundle.tN "SUPPRESSED_SENTINEL" Bundle.listD A s' s'.heap := by rw [hhp]; exact vx_Zq.moved hW0.alike (hN.kept hS.2.1)
  have h : ∀ w ∈ Bundle.ownAtoms0 own ic cls names, w.before args s' = true := vx_own hat' (vx_isRefq hU'.1) (vx_isRefq hN'.1) hU'.2.word hN'.2.word
  have hown' : s'.vm.findClass own = some m.cls := by rw [hvm]; exact hown
  have hins : (Cond.instantiable cls 6).before args s' = true := h _ (by simp [Bundle.ownAtoms0])
  obtain ⟨vm₁, cX, kX, hfX, hkX, -, -, X₁, st1⟩ := Y.newCold hexec (own := own) (C := cls) (index := ik) (n := 6) hown' hk' hins hini'
    (g := F0 m pc ls rest) rfl (by rw [hb]; exact d0) (Nat.le_refl _) (Nat.le_refl _)
  generalize hT1 : (T.setVm vm₁).pushCell { cls := cX, slots := kX.instanceTypes.map defaultValue, vm := .none } = T1 at X₁ st1
  have hcat : (Value.ref T.heap.size).category = 1 := rfl
  have hcellA : T1.heap[T.heap.size]? = some (freshCell cX kX) := by rw [← hT1]; exact State.heap_pushCell_size _ _
  have d3' : decode c.code (pc + 3) = .ok (.dup, 1) := by rw [hb]; exact d3
  obtain ⟨U, hsteps, hrun, hend, hW, hsame, ce, hce, hO⟩ := X₁.ctorThrow0 hexec htr (own := own) (cls := cls) (names := names) (ic := ic) hown' hcls hnames h (fun x hx => nomatch hx) hfX hkX hcellA (by rw [hhp, hT]; exact Nat.le_refl _)
    (g := { method := m, pc := pc + 4, locals := ls, stack := .ref T.heap.size :: .ref T.heap.size :: rest, locked := none }) rfl hsize rfl rfl (rest := rest) rfl
    (by rw [hb]; exact d4) (by rw [hb]; exact d7) hout hRframes (by simp only [List.map_cons, List.sum_cons, hcat]; omega) hlocks
  obtain ⟨f1, f2⟩ := vx_frame hsame
  rw [hhp] at f1 f2
  have hWs : s.WarmedH U.vm := State.WarmedH.trans hW0 hW
  have hcl : s.vm.findClass cls = some ce.cls := by
    have h9 := hO.cls
    rw [hvm] at h9
    exact h9
  have hall : s.sameButNew ({ U with vm := s.vm } : State) locs mc ms := by
    subst hA
    obtain ⟨e1, e2⟩ := hsame
    rw [State.setFrames_setFrames] at e1
    have h2 : (T.setVm s.vm).sameButNew ({ U with vm := s.vm } : State) [] (0 + 1) (0 + 6) := ⟨e1, e2⟩
    have h3 := X.same.trans h2
    rw [List.append_nil] at h3
    exact h3.mono hc hs
  refine ⟨U, ?_, .threw T.heap.size, hrun, hend, Or.inr ⟨T.heap.size, rfl, cls, ce, locs, hx U hWs.alike f1 (fun q hq => f2 q hq (fun z hz => nomatch hz)), hce, hO.vm, hcl, hWs, hall, hf⟩⟩
  refine st1 _ ?_
  show Steps p.tables e below (T1.setTop { method := m, pc := pc + 3, locals := ls, stack := .ref T.heap.size :: rest, locked := none }) _
  jvm_step X₁.here [X₁.here.top, hexec, d3', Value.category]
  exact hsteps
/-- 'throw new E("text")': new; dup; ldc; invokespecial; athrow -/
theorem vx_throwS {cc : ByteArray} {pc : Nat} (hexec : p.tables.exec = Jvm.exec) (hb : c.code = cc) (hl : l.stackTraces = false) {own cls text : String} {names : List String} {ik is ic mc ms sa : Nat} {A : Nat → Prop}
    (hown : s.vm.findClass own = some m.cls) (hcls : Bundle.fit cls = true) (hnames : ∀ n ∈ names, Bundle.fit n = true)
    (hk : (Cond.classLink own ik cls).before args s = true) (hini : (Cond.initialized cls).before args s = true) (hstr : vk_R own is text sa s) (hat : ∀ w ∈ vx_atS own ic cls names, w.before args s = true)
    (hgood : ∀ w ∈ Cond.classLink own ik cls :: Cond.initialized cls :: vx_atS own ic cls names, vx_ot w = true)
    (hU : vx_Zq Bundle.tN "UNASSIGNED_STACK" Bundle.steD A s s.heap) (hN : vx_Zq Bundle.tN "SUPPRESSED_SENTINEL" Bundle.listD A s s.heap) (hS : va_S A s.heap H locs) (hsize : ls.size = c.maxLocals)
    (d0 : decode cc pc = .ok (.new ik, 3)) (d3 : decode cc (pc + 3) = .ok (.dup, 1)) (d4 : decode cc (pc + 4) = .ok (.ldc is, 2)) (d6 : decode cc (pc + 6) = .ok (.invokespecial ic, 3)) (d9 : decode cc (pc + 9) = .ok (.athrow, 1))
    (hout : ∀ x ∈ c.exceptionTable.toList, covers x (pc + 9) = false)
    (hRframes : names.length + 3 < R.frames) (hRlocals : (rest.map fun v => v.category).sum + (13 * (names.length + 1) + 43) ≤ R.locals) (hRcells : cells + 1 ≤ R.cells) (hRslots : slots + 6 ≤ R.slots) (hlocks : meth.locks = false)
    (hx : ∀ t : State, s.vm.Alike t.vm → H.size ≤ t.heap.size → (∀ q : Nat, q < H.size → t.heap[q]? = H[q]?) → XC cls s t)
    (hf : ∀ z ∈ locs, free z.base) (hc : cells + 1 ≤ mc) (hs : slots + 6 ≤ ms) :
    W p l e R s m args below meth c H locs cells slots (vx_MQ below Qc XC args s mc ms free) (F0 m pc ls rest) := by
  intro T hT X
  have htr : e.platform.stackTraces = false := (show e.platform.stackTraces = l.stackTraces by rw [X.admits.platform]).trans hl
  have Y := vx_rebase X (R' := { frames := R.frames, locals := R.locals, cells := 1, slots := 6 }) (Nat.le_refl _) (Nat.le_refl _) hRcells hRslots
  obtain ⟨s', hA⟩ : ∃ z, z = (T.setVm s.vm).setFrames (.invoking m args :: below) := ⟨_, rfl⟩
  rw [← hA] at Y
  have hvm : s'.vm = s.vm := by rw [hA]; rfl
  have hhp : s'.heap = H := by rw [hA]; exact hT
  have hW0 : s.WarmedH s'.vm := by rw [hvm]; exact State.WarmedH.refl s
  have hat' : ∀ w ∈ vx_atS own ic cls names, w.before args s' = true := fun w hw => vx_ot_at hW0 hvm.symm (hgood w (List.mem_cons_of_mem _ (List.mem_cons_of_mem _ hw))) (hat w hw)
  have hk' : (Cond.classLink own ik cls).before args s' = true := vx_ot_at hW0 hvm.symm (hgood _ List.mem_cons_self) hk
  have hini' : (Cond.initialized cls).before args s' = true := vx_ot_at hW0 hvm.symm (hgood _ (List.mem_cons_of_mem _ List.mem_cons_self)) hini
  have hU' : vx_Zq Bundle.tN "UNASSIGNED_STACK" Bundle.steD A s' s'.heap := by rw [hhp]; exact vx_Zq.moved hW0.alike (hU.kept hS.2.1)
  have hN' : vx_Zq Bundle.tN "SUPPRESSED_SENTINEL" Bundle.listD A s' s'.heap := by rw [hhp]; exact vx_Zq.moved hW0.alike (hN.kept hS.2.1)
  have h : ∀ w ∈ Bundle.ownAtoms own ic cls names, w.before args s' = true := vx_own hat' (vx_isRefq hU'.1) (vx_isRefq hN'.1) hU'.2.word hN'.2.word
  have hown' : s'.vm.findClass own = some m.cls := by rw [hvm]; exact hown
  have hins : (Cond.instantiable cls 6).before args s' = true := h _ (by simp [Bundle.ownAtoms])
  obtain ⟨vm₁, cX, kX, hfX, hkX, -, -, X₁, st1⟩ := Y.newCold hexec (own := own) (C := cls) (index := ik) (n := 6) hown' hk' hins hini'
    (g := F0 m pc ls rest) rfl (by rw [hb]; exact d0) (Nat.le_refl _) (Nat.le_refl _)
  generalize hT1 : (T.setVm vm₁).pushCell { cls := cX, slots := kX.instanceTypes.map defaultValue, vm := .none } = T1 at X₁ st1
  have hcat : (Value.ref T.heap.size).category = 1 := rfl
  have hcellA : T1.heap[T.heap.size]? = some (freshCell cX kX) := by rw [← hT1]; exact State.heap_pushCell_size _ _
  have d3' : decode c.code (pc + 3) = .ok (.dup, 1) := by rw [hb]; exact d3
  have d4' : decode c.code (pc + 4) = .ok (.ldc is, 2) := by rw [hb]; exact d4
  have hstr' : vk_R own is text sa s' := vk_R.warm hW0 hstr
  obtain ⟨U, hsteps, hrun, hend, hW, hsame, ce, hce, hO⟩ := X₁.ctorThrowS hexec htr (own := own) (cls := cls) (names := names) (ic := ic) hown' hcls hnames h (fun x hx => nomatch hx) hfX hkX hcellA (by rw [hhp, hT]; exact Nat.le_refl _) (msg := .ref sa) rfl
    (g := { method := m, pc := pc + 6, locals := ls, stack := .ref sa :: .ref T.heap.size :: .ref T.heap.size :: rest, locked := none }) rfl hsize rfl rfl (rest := rest) rfl
    (by rw [hb]; exact d6) (by rw [hb]; exact d9) hout hRframes (by simp only [List.map_cons, List.sum_cons, hcat]; omega) hlocks
  obtain ⟨f1, f2⟩ := vx_frame hsame
  rw [hhp] at f1 f2
  have hWs : s.WarmedH U.vm := State.WarmedH.trans hW0 hW
  have hcl : s.vm.findClass cls = some ce.cls := by
    have h9 := hO.cls
    rw [hvm] at h9
    exact h9
  have hall : s.sameButNew ({ U with vm := s.vm } : State) locs mc ms := by
    subst hA
    obtain ⟨e1, e2⟩ := hsame
    rw [State.setFrames_setFrames] at e1
    have h2 : (T.setVm s.vm).sameButNew ({ U with vm := s.vm } : State) [] (0 + 1) (0 + 6) := ⟨e1, e2⟩
    have h3 := X.same.trans h2
    rw [List.append_nil] at h3
    exact h3.mono hc hs
  refine ⟨U, ?_, .threw T.heap.size, hrun, hend, Or.inr ⟨T.heap.size, rfl, cls, ce, locs, hx U hWs.alike f1 (fun q hq => f2 q hq (fun z hz => nomatch hz)), hce, hO.vm, hcl, hWs, hall, hf⟩⟩
  refine st1 _ ?_
  show Steps p.tables e below (T1.setTop { method := m, pc := pc + 3, locals := ls, stack := .ref T.heap.size :: rest, locked := none }) _
  jvm_step X₁.here [X₁.here.top, hexec, d3', Value.category]
  exact X₁.ldcString hexec (own := own) (text := text) (index := is) (a := sa) hown' hstr'.1 hstr'.2
    (g := { method := m, pc := pc + 4, locals := ls, stack := .ref T.heap.size :: .ref T.heap.size :: rest, locked := none }) rfl d4' _ hsteps
/-- 'throw new E("text")', the text by a wide index -/
theorem vx_throwSW {cc : ByteArray} {pc : Nat} (hexec : p.tables.exec = Jvm.exec) (hb : c.code = cc) (hl : l.stackTraces = false) {own cls text : String} {names : List String} {ik is ic mc ms sa : Nat} {A : Nat → Prop}
    (hown : s.vm.findClass own = some m.cls) (hcls : Bundle.fit cls = true) (hnames : ∀ n ∈ names, Bundle.fit n = true)
    (hk : (Cond.classLink own ik cls).before args s = true) (hini : (Cond.initialized cls).before args s = true) (hstr : vk_R own is text sa s) (hat : ∀ w ∈ vx_atS own ic cls names, w.before args s = true)
    (hgood : ∀ w ∈ Cond.classLink own ik cls :: Cond.initialized cls :: vx_atS own ic cls names, vx_ot w = true)
    (hU : vx_Zq Bundle.tN "UNASSIGNED_STACK" Bundle.steD A s s.heap) (hN : vx_Zq Bundle.tN "SUPPRESSED_SENTINEL" Bundle.listD A s s.heap) (hS : va_S A s.heap H locs) (hsize : ls.size = c.maxLocals)
    (d0 : decode cc pc = .ok (.new ik, 3)) (d3 : decode cc (pc + 3) = .ok (.dup, 1)) (d4 : decode cc (pc + 4) = .ok (.ldc_w is, 3)) (d7 : decode cc (pc + 7) = .ok (.invokespecial ic, 3)) (d10 : decode cc (pc + 10) = .ok (.athrow, 1))
    (hout : ∀ x ∈ c.exceptionTable.toList, covers x (pc + 10) = false)
    (hRframes : names.length + 3 < R.frames) (hRlocals : (rest.map fun v => v.category).sum + (13 * (names.length + 1) + 43) ≤ R.locals) (hRcells : cells + 1 ≤ R.cells) (hRslots : slots + 6 ≤ R.slots) (hlocks : meth.locks = false)
    (hx : ∀ t : State, s.vm.Alike t.vm → H.size ≤ t.heap.size → (∀ q : Nat, q < H.size → t.heap[q]? = H[q]?) → XC cls s t)
    (hf : ∀ z ∈ locs, free z.base) (hc : cells + 1 ≤ mc) (hs : slots + 6 ≤ ms) :
    W p l e R s m args below meth c H locs cells slots (vx_MQ below Qc XC args s mc ms free) (F0 m pc ls rest) := by
  intro T hT X
  have htr : e.platform.stackTraces = false := (show e.platform.stackTraces = l.stackTraces by rw [X.admits.platform]).trans hl
  have Y := vx_rebase X (R' := { frames := R.frames, locals := R.locals, cells := 1, slots := 6 }) (Nat.le_refl _) (Nat.le_refl _) hRcells hRslots
  obtain ⟨s', hA⟩ : ∃ z, z = (T.setVm s.vm).setFrames (.invoking m args :: below) := ⟨_, rfl⟩
  rw [← hA] at Y
  have hvm : s'.vm = s.vm := by rw [hA]; rfl
  have hhp : s'.heap = H := by rw [hA]; exact hT
  have hW0 : s.WarmedH s'.vm := by rw [hvm]; exact State.WarmedH.refl s
  have hat' : ∀ w ∈ vx_atS own ic cls names, w.before args s' = true := fun w hw => vx_ot_at hW0 hvm.symm (hgood w (List.mem_cons_of_mem _ (List.mem_cons_of_mem _ hw))) (hat w hw)
  have hk' : (Cond.classLink own ik cls).before args s' = true := vx_ot_at hW0 hvm.symm (hgood _ List.mem_cons_self) hk
  have hini' : (Cond.initialized cls).before args s' = true := vx_ot_at hW0 hvm.symm (hgood _ (List.mem_cons_of_mem _ List.mem_cons_self)) hini
  have hU' : vx_Zq Bundle.tN "UNASSIGNED_STACK" Bundle.steD A s' s'.heap := by rw [hhp]; exact vx_Zq.moved hW0.alike (hU.kept hS.2.1)
  have hN' : vx_Zq Bundle.tN "SUPPRESSED_SENTINEL" Bundle.listD A s' s'.heap := by rw [hhp]; exact vx_Zq.moved hW0.alike (hN.kept hS.2.1)
  have h : ∀ w ∈ Bundle.ownAtoms own ic cls names, w.before args s' = true := vx_own hat' (vx_isRefq hU'.1) (vx_isRefq hN'.1) hU'.2.word hN'.2.word
  have hown' : s'.vm.findClass own = some m.cls := by rw [hvm]; exact hown
  have hins : (Cond.instantiable cls 6).before args s' = true := h _ (by simp [Bundle.ownAtoms])
  obtain ⟨vm₁, cX, kX, hfX, hkX, -, -, X₁, st1⟩ := Y.newCold hexec (own := own) (C := cls) (index := ik) (n := 6) hown' hk' hins hini'
    (g := F0 m pc ls rest) rfl (by rw [hb]; exact d0) (Nat.le_refl _) (Nat.le_refl _)
  generalize hT1 : (T.setVm vm₁).pushCell { cls := cX, slots := kX.instanceTypes.map defaultValue, vm := .none } = T1 at X₁ st1
  have hcat : (Value.ref T.heap.size).category = 1 := rfl
  have hcellA : T1.heap[T.heap.size]? = some (freshCell cX kX) := by rw [← hT1]; exact State.heap_pushCell_size _ _
  have d3' : decode c.code (pc + 3) = .ok (.dup, 1) := by rw [hb]; exact d3
  have d4' : decode c.code (pc + 4) = .ok (.ldc_w is, 3) := by rw [hb]; exact d4
  have hstr' : vk_R own is text sa s' := vk_R.warm hW0 hstr
  obtain ⟨U, hsteps, hrun, hend, hW, hsame, ce, hce, hO⟩ := X₁.ctorThrowS hexec htr (own := own) (cls := cls) (names := names) (ic := ic) hown' hcls hnames h (fun x hx => nomatch hx) hfX hkX hcellA (by rw [hhp, hT]; exact Nat.le_refl _) (msg := .ref sa) rfl
    (g := { method := m, pc := pc + 7, locals := ls, stack := .ref sa :: .ref T.heap.size :: .ref T.heap.size :: rest, locked := none }) rfl hsize rfl rfl (rest := rest) rfl
    (by rw [hb]; exact d7) (by rw [hb]; exact d10) hout hRframes (by simp only [List.map_cons, List.sum_cons, hcat]; omega) hlocks
  obtain ⟨f1, f2⟩ := vx_frame hsame
  rw [hhp] at f1 f2
  have hWs : s.WarmedH U.vm := State.WarmedH.trans hW0 hW
  have hcl : s.vm.findClass cls = some ce.cls := by
    have h9 := hO.cls
    rw [hvm] at h9
    exact h9
  have hall : s.sameButNew ({ U with vm := s.vm } : State) locs mc ms := by
    subst hA
    obtain ⟨e1, e2⟩ := hsame
    rw [State.setFrames_setFrames] at e1
    have h2 : (T.setVm s.vm).sameButNew ({ U with vm := s.vm } : State) [] (0 + 1) (0 + 6) := ⟨e1, e2⟩
    have h3 := X.same.trans h2
    rw [List.append_nil] at h3
    exact h3.mono hc hs
  refine ⟨U, ?_, .threw T.heap.size, hrun, hend, Or.inr ⟨T.heap.size, rfl, cls, ce, locs, hx U hWs.alike f1 (fun q hq => f2 q hq (fun z hz => nomatch hz)), hce, hO.vm, hcl, hWs, hall, hf⟩⟩
  refine st1 _ ?_
  show Steps p.tables e below (T1.setTop { method := m, pc := pc + 3, locals := ls, stack := .ref T.heap.size :: rest, locked := none }) _
  jvm_step X₁.here [X₁.here.top, hexec, d3', Value.category]
  exact X₁.ldcStringW hexec (own := own) (text := text) (index := is) (a := sa) hown' hstr'.1 hstr'.2
    (g := { method := m, pc := pc + 4, locals := ls, stack := .ref T.heap.size :: .ref T.heap.size :: rest, locked := none }) rfl d4' _ hsteps
end Ends
section Bodies
variable {l : Launch}
theorem vx_ofW {y : MethodName} {ws ws' : List Cond} {rm : Room} {Pc : Array Value → State → Prop} {Qc : Array Value → State → Outcome → State → Prop} {XC : String → State → State → Prop} {mc ms : Nat} {free : Addr → Prop} {cc : ByteArray} {maxL : Nat} {ret : Option FieldType}
    (hy : plainName y.cls = true) (hw : ws = Cond.code y cc maxL ret :: ws')
    (body : ∀ p e s m args below meth c s₁, BodyLoose p l y (headSpec ws rm) cc maxL ret e s m args below meth c s₁ → c.maxLocals = maxL → (∀ x ∈ c.exceptionTable.toList, False) → Pc args s →
      W p l e (headSpec ws rm).room s m args below meth c s.heap [] 0 0 (vx_MQ below Qc XC args s mc ms free) (entryFrame m args maxL)) : vx_Met l y ws rm Pc Qc XC mc ms free := by
  refine MetFree.of_bodyS (code := cc) (maxLocals := maxL) (ret := ret) hy ?_ ?_
  · intro args s m h hn
    obtain ⟨meth, c, h1, h2, h3, h4, h5, h6, -, -⟩ := Cond.code_spec hn (atoms_spec (ws := ws) h _ (by rw [hw]; exact List.mem_cons_self))
    exact ⟨meth, c, h1, h2, h3, h4, h5, h6⟩
  · intro p e s m args below meth c s₁ B hml hP _
    have hh0 : s₁.heap = s.heap := by rw [B.state]; rfl
    have ht : ∀ x ∈ c.exceptionTable.toList, False := by
      obtain ⟨meth9, c9, h1, h2, -, -, -, -, h7, -⟩ := Cond.code_spec B.named (atoms_spec (ws := ws) B.pre _ (by rw [hw]; exact List.mem_cons_self))
      cases Option.some.inj (h1.symm.trans B.method)
      cases Option.some.inj (h2.symm.trans (Stand.of_body B).code)
      intro x hx
      rw [Array.isEmpty_iff.mp h7] at hx
      cases hx
    obtain ⟨t, a1, o, b1, b2, b3⟩ := body p e s m args below meth c s₁ B hml ht hP s₁ hh0 (Stand.of_body B)
    exact ⟨t, o, a1, b1, b2, b3⟩
/-- the table of a body with handlers -/
theorem vx_table {p : Program} {x y : MethodName} {S : Spec} {cc bytes : ByteArray} {maxL maxL' : Nat} {ret ret' : Option FieldType} {e : Env} {s s₁ : State} {m : MethodId} {args : Array Value} {below : List Frame} {meth : Method} {c : Code} {hh : List (Nat × Nat × Nat × Nat)}
    (B : BodyLoose p l y S cc maxL ret e s m args below meth c s₁) (h : (Cond.codeWith y bytes maxL' ret' hh).before args s = true) : c.exceptionTable.toList = tableOf hh := by
  obtain ⟨m9, meth9, c9, hn9, h1, h2, -, -, h6, -⟩ := Cond.codeWith_spec h
  cases Option.some.inj (hn9.symm.trans B.named)
  cases Option.some.inj (h1.symm.trans B.method)
  cases Option.some.inj (h2.symm.trans (Stand.of_body B).code)
  rw [← h6, table_eq]
end Bodies
end VXA
/-! ===== END ===== -/
/-! ===== BEGIN a static call of a method with an exception table ===== -/
section VXS
variable {p : Program} {l : Launch} {e : Env} {R : Room} {s : State} {m : MethodId} {args : Array Value} {below : List Frame} {meth : Method} {c : Code} {T : State} {H : Heap} {locs : List Loc} {cells slots : Nat}
abbrev vx_CSW (R : Room) (s : State) (args : Array Value) (own : String) (index : Nat) (y : MethodName) (bytes : ByteArray) (maxL : Nat) (ret : Option FieldType) (hh : List (Nat × Nat × Nat × Nat)) (ws : List Cond) (rm : Room) (mc ms n : Nat) : Prop :=
  (rm.cells = mc ∧ rm.slots = ms ∧ rm.frames + 1 ≤ R.frames ∧ 8 + (maxL + 11) + rm.locals ≤ R.locals ∧ (∀ w ∈ ws, ∀ (a' : Array Value) (U : State), s.WarmedH U.vm → w.before a' U = true) ∧ Cond.codeWith y bytes maxL ret hh ∈ ws) ∧
  (Cond.codeWith y bytes maxL ret hh).before args s = true ∧ (Cond.initialized y.cls).before args s = true ∧ (y.cls ≠ "java/lang/invoke/MethodHandle" ∧ y.cls ≠ "java/lang/invoke/VarHandle") ∧
  (∀ sig, parseMethodDescriptor y.desc = some sig → n = sig.parameters.length) ∧ (Cond.methodLink own index y).before args s = true ∧ (Cond.static y).before args s = true
theorem vx_cwSW {own : String} {index maxL mc ms : Nat} {y : MethodName} {bytes : ByteArray} {ret : Option FieldType} {hh : List (Nat × Nat × Nat × Nat)} {Ts ws ws' : List Cond} {rm : Room} (n : Nat) (ht : ∀ w ∈ Ts, w.before args s = true) (hT : GoodIn Ts (va_wsS own index y ws)) (hw : ws = Cond.codeWith y bytes maxL ret hh :: ws') (hrc : rm.cells = mc) (hrs : rm.slots = ms)
    (hd : y.cls ≠ "java/lang/invoke/MethodHandle" ∧ y.cls ≠ "java/lang/invoke/VarHandle" ∧ (parseMethodDescriptor y.desc).map (fun d => d.parameters.length) = some n) (hR : rm.frames + 1 ≤ R.frames ∧ 8 + (maxL + 11) + rm.locals ≤ R.locals) :
    vx_CSW R s args own index y bytes maxL ret hh ws rm mc ms n := by
  have ok : ∀ w ∈ va_wsS own index y ws, w.before args s = true := fun w h => ht w (hT w h).1
  have hG : GoodIn Ts ws := fun w h => hT w (by unfold va_wsS; exact List.mem_append_right _ h)
  have hc : Cond.codeWith y bytes maxL ret hh ∈ ws := by rw [hw]; exact List.mem_cons_self
  refine ⟨⟨hrc, hrs, hR.1, hR.2, pay_in ht hG, hc⟩, ht _ (hG _ hc).1, ok _ (by simp [va_wsS]), ⟨hd.1, hd.2.1⟩, fun sig h => ?_, ok _ (by simp [va_wsS]), ok _ (by simp [va_wsS])⟩
  have h2 := hd.2.2
  rw [h] at h2
  exact (Option.some.inj h2).symm
theorem vx_callSW (X : Stand p l e R s m args below meth c T locs cells slots) (hexec : p.tables.exec = Jvm.exec) {own : String} {index : Nat} {y : MethodName} {bytes : ByteArray} {maxL : Nat} {ret : Option FieldType} {hh : List (Nat × Nat × Nat × Nat)}
    (hown : s.vm.findClass own = some m.cls) (hlink : (Cond.methodLink own index y).before args s = true) (hstat : (Cond.static y).before args s = true) (hinit : (Cond.initialized y.cls).before args s = true)
    (hcode : (Cond.codeWith y bytes maxL ret hh).before args s = true) (hy : y.cls ≠ "java/lang/invoke/MethodHandle" ∧ y.cls ≠ "java/lang/invoke/VarHandle")
    {W9 : Nat} {Pre : Pt → Array Value → Prop} {Post : Pt → Array Value → Option Value → Pt → Prop} (hK : Back l R p e below s args y 3 W9 Pre Post)
    {g : JFrame} (hg : g.method = m) (hsize : g.locals.size = c.maxLocals) {argsL rest : List Value} (hlen : ∀ sig, parseMethodDescriptor y.desc = some sig → argsL.length = sig.parameters.length)
    (hstack : g.stack = argsL.reverse ++ rest) (hW : 2 * g.monitorRoom + (rest.map fun v => v.category).sum ≤ W9) (hdg : decode c.code g.pc = .ok (.invokestatic index, 3))
    (hpre : ∀ vm₁, s.WarmedH vm₁ → Pre ⟨T.setVm vm₁, locs, cells, slots⟩ argsL.toArray) :
    ∃ (v : Option Value) (vm₁ : Vm) (B : Pt), s.WarmedH vm₁ ∧ Stand p l e R s m args below meth c B.U B.locs B.cells B.slots ∧ Post ⟨T.setVm vm₁, locs, cells, slots⟩ argsL.toArray v B ∧
      ∀ target, Steps p.tables e below (B.U.setTop { g with pc := g.pc + 3, stack := v.toList ++ rest }) target → Steps p.tables e below (T.setTop g) target := by
  obtain ⟨mk, methM, cM, hnamed, hmethM, -, -, -, -, -, -, hsigM⟩ := Cond.codeWith_spec hcode
  have hstatic : methM.isStatic = true := Cond.static_spec hnamed hmethM hstat
  obtain ⟨kP, hkP, -⟩ := className_of_methodNamed hnamed
  have hinitP : kP.init = .initialized := Cond.initialized_spec (findClass_of_methodNamed hnamed) hkP hinit
  obtain ⟨vm₁, X₁, hstep₁⟩ := X.invokestatic hexec hown hlink hnamed hmethM hstatic hkP hinitP hy (g := g) hg (argsL := argsL) (rest := rest) (hlen _ hsigM) hstack hdg
  obtain ⟨v, B, X', hpost, hsteps⟩ := hK m meth c ⟨T.setVm vm₁, locs, cells, slots⟩ { g with stack := rest } (.invokestatic index) mk argsL.toArray X₁ hg hsize hdg hW (X₁.named hnamed) (hpre vm₁ X₁.warmed)
  exact ⟨v, vm₁, B, X₁.warmed, X', hpost, fun target h => hstep₁ _ fun acts => by rw [doInvoke_state]; exact hsteps.trans h⟩
theorem vx_runSW {y : MethodName} {bytes cc : ByteArray} {maxL nL mc ms n index : Nat} {ret : Option FieldType} {hh : List (Nat × Nat × Nat × Nat)} {ws : List Cond} {rm : Room} {Pc : Array Value → State → Prop} {Qc : Array Value → State → Outcome → State → Prop} {free : Addr → Prop} {Ts : List Cond} {own : String} {As rest : List Value} {g : JFrame}
    (S : CallFix p m c cc nL s args Ts own) (hM : Met l y ws rm Pc Qc mc ms free) (cw : vx_CSW R s args own index y bytes maxL ret hh ws rm mc ms n) (hp : PreS s H Pc As)
    (hg : g.method = m) (hn : As.length = n) (hsize : g.locals.size = nL) (hstack : g.stack = As.reverse ++ rest) (hW : 2 * g.monitorRoom + (rest.map fun v => v.category).sum ≤ 8) (hdg : decode cc g.pc = .ok (.invokestatic index, 3)) (hf : cells + mc ≤ R.cells ∧ slots + ms ≤ R.slots) :
    va_Run p l e R s m args below meth c H locs cells slots mc ms g rest (Qc As.toArray) (free) := by
  obtain ⟨⟨hrc, hrs, hfr, hlo, hws, hcw⟩, hcode, hini, hy, hlen, hl, hstt⟩ := cw
  have hK : Back l R p e below s args y 3 8 (PreOf R mc ms Pc) (PostOf Qc mc ms free) := va_backW (hh := hh) (bytes := bytes) (maxL := maxL) (ret := ret) hM hp.1 hrc hrs hfr hlo hws hcw (fun a' U hW => word_at hW (Or.inl (by first | rfl | simp [Cond.onTables, Cond.keeps, Cond.steady])) hini)
  obtain ⟨hx, hb, hml, ho, -⟩ := S
  intro T hT X
  obtain ⟨v, vm₁, ⟨U', l2, c2, s2⟩, hW₁, X', ⟨g', mk, t, L, e1, e2, hq, h1, hL, h2, h3⟩, st⟩ := vx_callSW X hx (hh := hh) (bytes := bytes) (maxL := maxL) (ret := ret) ho hl hstt hini hcode hy hK hg (hsize.trans hml.symm) (argsL := As) (rest := rest) (fun sig h => hn.trans (hlen sig h)) hstack hW (by rw [hb]; exact hdg)
    (fun vm₁ hW₁ => ⟨hf.1, hf.2, hp.2 (T.setVm vm₁) hT hW₁⟩)
  dsimp only [Pt.U, Pt.locs, Pt.cells, Pt.slots] at X' e1 e2 h1 h2 h3 st
  subst h1; subst h2; subst h3
  exact ⟨v, (T.setVm vm₁).calling g' mk As.toArray, t, U', L, hT, X', hL, e1, e2, hq, st⟩
/-- not caught here, past rows that name other classes: it goes on to the caller -/
theorem vx_outP {p : Program} {l : Launch} {e : Env} {R : Room} {s : State} {m : MethodId} {args : Array Value} {below : List Frame} {meth : Method} {c : Code} {H : Heap} {locs : List Loc} {cells slots : Nat} {free : Addr → Prop} {ls : Array Slot} {rest : List Value} {Qc : Array Value → State → Outcome → State → Prop} {XC : String → State → State → Prop}
    {pc : Nat} {own E : String} {ce : Cell} {q : Addr} {mc ms : Nat} (hown : s.vm.findClass own = some m.cls) (hlocks : meth.locks = false)
    (hpass : ∀ z ∈ c.exceptionTable.toList, covers z pc = false ∨ (z.catchType ≠ 0 ∧ ∃ nm : String, (Cond.classLink own z.catchType nm).before args s = true ∧ va_Nc E nm s)) (hcell : H[q]? = some ce) (hv : ce.vm = .none) (hcl : s.vm.findClass E = some ce.cls)
    (hx : ∀ t : State, t.heap = H → s.vm.Alike t.vm → XC E s t) (hf : ∀ z ∈ locs, free z.base) (hc : cells ≤ mc) (hs : slots ≤ ms) :
    vx_W p l e R s m args below meth c H locs cells slots (vx_MQ below Qc XC args s mc ms free) (F0 m pc ls rest) q := by
  intro T hT X
  have hpl : e.platform.magicAccessors = ({} : Platform).magicAccessors := by rw [X.admits.platform]
  obtain ⟨vm', hW', X', st⟩ := X.outThrough hlocks q (g := F0 m pc ls rest) rfl rfl rfl (cell := ce) (by rw [hT]; exact hcell) (by rw [hv]; rfl)
    (by obtain ⟨k9, h9, -⟩ := Vm.findClass_spec hcl; exact ⟨k9, h9⟩) (fun z hz => by
      rcases hpass z hz with h | ⟨hz0, nm, hl1, hn1⟩
      · exact Or.inl h
      · obtain ⟨c6, hc6, hcl6⟩ := Cond.classLink_spec hown hl1 e.platform hpl
        obtain ⟨a8, b8, h1, h2, h3⟩ := hn1
        cases Option.some.inj (h1.symm.trans hcl)
        cases Option.some.inj (h2.symm.trans hc6)
        exact Or.inr ⟨hz0, _, hcl6, h3⟩)
  obtain ⟨g₀, hfr⟩ := X'.frames_eq
  have hcell9 : ((T.setVm vm').setFrames (.throwing q :: below)).heap[q]? = some ce := by
    show T.heap[q]? = some ce
    rw [hT]; exact hcell
  have hend : Ended ((T.setVm vm').setFrames (.throwing q :: below)) below (.threw q) := State.frames_setFrames _ (State.cur_lt_of_frames hfr)
  refine ⟨(T.setVm vm').setFrames (.throwing q :: below), ?_, .threw q, X'.here.running, hend, Or.inr ⟨q, rfl, E, ce, locs, hx _ hT (X'.ends _).1.alike, hcell9, hv, hcl, (X'.ends _).1, (X'.ends _).2.mono hc hs, hf⟩⟩
  rw [X.pushThrowing_eq]
  exact st
/-- a thing of a world lies in the heap -/
theorem vx_lt {D : va_G} {cl : List vw_C} {ws : va_W} {H1 : Heap} (h : va_P D cl ws H1) {k : Nat} {q : Nat × va_E} (hk : ws[k]? = some q) : q.1 < H1.size := (h k q hk).lt
end VXS
/-! ===== END ===== -/
/-! ===== BEGIN methods with a table of their own: called by a name, returning or throwing ===== -/
section VXH
/-! vx_backW, vx_callVX, vx_callSX, vx_callVW, vx_runVW, vx_runVX, vx_runSX, vx_ofWH follow the same proofs as their sisters above (Free/Laws.lean, Shelf42/LK1.lean); vx_outP calls Shelf42/NT130.lean (outThrough). -/
section
variable {l : Launch} {R : Room} {p : Program} {e : Env} {below : List Frame} {s : State} {sargs : Array Value} {y : MethodName} {len W9 : Nat}
theorem vx_backW {ws : List Cond} {rm : Room} {Pc : Array Value → State → Prop} {Qc : Array Value → State → Outcome → State → Prop} {XC : String → State → State → Prop} {mc ms : Nat} {free : Addr → Prop} {bytes : ByteArray} {maxL : Nat} {ret : Option FieldType} {hh : List (Nat × Nat × Nat × Nat)}
    (hM : vx_Met l y ws rm Pc Qc XC mc ms free) (hblind : FrameBlind Pc) (hrc : rm.cells = mc) (hrs : rm.slots = ms)
    (hframes : rm.frames + 1 ≤ R.frames) (hlocals : W9 + (maxL + 11) + rm.locals ≤ R.locals)
    (hws : ∀ w ∈ ws, ∀ a' U, s.WarmedH U.vm → w.before a' U = true) (hcode : Cond.codeWith y bytes maxL ret hh ∈ ws) (hinit : ∀ a' U, s.WarmedH U.vm → (Cond.initialized y.cls).before a' U = true) :
    vx_Back l R p e below s sargs y len W9 (PreOf R mc ms Pc) (PostOf Qc mc ms free) (vx_Post XC mc ms free) := by
  intro m meth c A g ig mk a X hg hsize hdg hW hn hp
  have h1 : (headSpec ws rm).pre.before a A.U = true := atoms_intro fun w hw => hws w hw _ _ X.warmed
  have h2 : (Cond.codeWith y bytes maxL ret hh).before a A.U = true := hws _ hcode _ _ X.warmed
  have h3 : (Cond.initialized y.cls).before a A.U = true := hinit _ _ X.warmed
  have h4 : A.cells + (headSpec ws rm).room.cells ≤ R.cells := by rw [show (headSpec ws rm).room.cells = mc from hrc]; exact hp.1
  have h5 : A.slots + (headSpec ws rm).room.slots ≤ R.slots := by rw [show (headSpec ws rm).room.slots = ms from hrs]; exact hp.2.1
  have hPc : Pc a (A.U.calling g mk a) := hblind _ _ _ _ hp.2.2
  obtain ⟨U, Ls, c0, s0⟩ := A
  dsimp only [Pt.U, Pt.locs, Pt.cells, Pt.slots] at h1 h2 h3 h4 h5 X hn hPc ⊢
  obtain ⟨m9, methY, cY, hn9, hmY, hcY, -, hlY, -⟩ := Cond.codeWith_spec h2
  cases Option.some.inj (hn9.symm.trans hn)
  obtain ⟨kY, hkY, -⟩ := className_of_methodNamed hn
  have hinitY : kY.init = .initialized := Cond.initialized_spec (findClass_of_methodNamed hn) hkY h3
  have h : At U g.method c below := by rw [hg]; exact X.here
  have hlocals9 : W9 + (maxL + 11) + (headSpec ws rm).room.locals ≤ R.locals := hlocals
  have happ : (headSpec ws rm).appliesLoose y e.platform (U.calling g mk a) = true :=
    Spec.appliesLoose_calling (g := g) h hdg hn hkY hinitY
      (X.room_calling (g := g) (R' := (headSpec ws rm).room) hsize hmY hcY hframes (by rw [hlY]; omega) h4 h5) h1
  obtain ⟨mid, hmid⟩ := h.above
  have hfr : (U.setTop g).frames = (.java g :: mid) ++ below := by rw [State.frames_setTop' g h.top, hmid]; rfl
  obtain ⟨o, s₂, hsteps, -, hend, hq⟩ := Steps.callFree hM p X.admits X.cas X.clock (acts := []) hfr happ hPc trivial
  have hq' : vx_Q Qc XC mc ms free a (U.calling g mk a) o s₂ := hq
  rw [State.frames_setTop' g h.top] at hend
  obtain ⟨g₀, hg0⟩ := Option.isSome_iff_exists.mp h.top
  obtain ⟨r, hr⟩ := State.topJava?_eq_some.mp hg0
  have hr' : (({ U with heap := s₂.heap, slotsUsed := s₂.slotsUsed } : State).setVm s₂.vm).frames = .java g₀ :: r := hr
  rcases hq' with ⟨hqc, L, hfe, hL⟩ | ⟨q, rfl, E, ce, L, hx, hce, hcv, hcl, hW₂, hsm, hL⟩
  · obtain ⟨⟨v, rfl⟩, hW₂, e2, q2, q3, q4, q5, q6⟩ := id hfe
    have e3 : s₂ = ({ (U.calling g mk a).setFrames s₂.frames with heap := s₂.heap, slotsUsed := s₂.slotsUsed } : State).setVm s₂.vm := by
      have : s₂ = ({ s₂ with vm := (U.calling g mk a).vm } : State).setVm s₂.vm := rfl
      rw [e2] at this
      exact this
    obtain ⟨c₂, i₂, len₂, hc₂, hd₂, hf₂⟩ := hend
    have hW' : U.WarmedH s₂.vm := hW₂
    have hcc : c₂ = c := by
      have h1 : s₂.code? g.method = U.code? g.method := by
        rw [State.code?_eq, State.code?_eq, hW'.alike.method?]
      exact Option.some.inj (hc₂.symm.trans (h1.trans h.code))
    subst hcc
    have hlen : len₂ = len := by rw [hdg] at hd₂; cases hd₂; rfl
    subst hlen
    have hs₂ : s₂ = (({ U with heap := s₂.heap, slotsUsed := s₂.slotsUsed } : State).setVm s₂.vm).setTop { g with pc := g.pc + len₂, stack := v.toList ++ g.stack } := by
      refine e3.trans ?_
      rw [hf₂, State.calling_eq h.top, State.setFrames_setFrames, State.setTop_of_frames _ hr', hr]
      rfl
    have hsame : U.sameButNew ({ U with heap := s₂.heap, slotsUsed := s₂.slotsUsed } : State) L mc ms := by
      refine ⟨?_, q2, q3, q4, q5, q6⟩
      obtain ⟨t, ht, -⟩ := State.frames_cons hr
      show ({ U with heap := s₂.heap, slotsUsed := s₂.slotsUsed } : State) = { U.setFrames U.frames with heap := s₂.heap, slotsUsed := s₂.slotsUsed }
      rw [State.setFrames_self ht]
    subst hg
    refine Or.inl ⟨v, ⟨(({ U with heap := s₂.heap, slotsUsed := s₂.slotsUsed } : State).setVm s₂.vm), Ls ++ L, c0 + mc, s0 + ms⟩,
      ⟨X.admits, X.cas, X.clock, X.frames, X.room, X.hears, X.method, X.code, (X.here.setHeapUsed s₂.heap s₂.slotsUsed).setVm hW'.alike, X.tail, State.WarmedH.trans X.warmed hW', X.limits, X.bytes, X.same.trans (hsame.setVm s.vm)⟩,
      ⟨g, mk, s₂, L, rfl, rfl, hqc, rfl, hL, rfl, rfl⟩, ?_⟩
    show Steps p.tables e below _ ((({ U with heap := s₂.heap, slotsUsed := s₂.slotsUsed } : State).setVm s₂.vm).setTop { g with pc := g.pc + len₂, stack := v.toList ++ g.stack })
    rw [← hs₂]
    exact hsteps
  · obtain ⟨e2, q2, q3, q4, q5, q6⟩ := id hsm
    have e3 : s₂ = ({ (U.calling g mk a).setFrames s₂.frames with heap := s₂.heap, slotsUsed := s₂.slotsUsed } : State).setVm s₂.vm := by
      have : s₂ = ({ s₂ with vm := (U.calling g mk a).vm } : State).setVm s₂.vm := rfl
      rw [e2] at this
      exact this
    have hf₂ : s₂.frames = .throwing q :: .java g :: U.frames.tail := hend
    have hW' : U.WarmedH s₂.vm := hW₂
    have hs₂ : s₂ = ((({ U with heap := s₂.heap, slotsUsed := s₂.slotsUsed } : State).setVm s₂.vm).setTop g).pushFrame (.throwing q) := by
      refine e3.trans ?_
      rw [hf₂, State.calling_eq h.top, State.setFrames_setFrames, State.pushFrame, State.frames_setTop _ hr', State.setTop_of_frames _ hr', State.setFrames_setFrames, hr]
      rfl
    have hsame : U.sameButNew ({ U with heap := s₂.heap, slotsUsed := s₂.slotsUsed } : State) L mc ms := by
      refine ⟨?_, q2, q3, q4, q5, q6⟩
      obtain ⟨t, ht, -⟩ := State.frames_cons hr
      show ({ U with heap := s₂.heap, slotsUsed := s₂.slotsUsed } : State) = { U.setFrames U.frames with heap := s₂.heap, slotsUsed := s₂.slotsUsed }
      rw [State.setFrames_self ht]
    subst hg
    refine Or.inr ⟨q, ⟨(({ U with heap := s₂.heap, slotsUsed := s₂.slotsUsed } : State).setVm s₂.vm), Ls ++ L, c0 + mc, s0 + ms⟩,
      ⟨X.admits, X.cas, X.clock, X.frames, X.room, X.hears, X.method, X.code, (X.here.setHeapUsed s₂.heap s₂.slotsUsed).setVm hW'.alike, X.tail, State.WarmedH.trans X.warmed hW', X.limits, X.bytes, X.same.trans (hsame.setVm s.vm)⟩,
      ⟨g, mk, s₂, L, E, ce, rfl, rfl, hx, hce, hcv, hcl, rfl, hL, rfl, rfl⟩, ?_⟩
    show Steps p.tables e below _ (((({ U with heap := s₂.heap, slotsUsed := s₂.slotsUsed } : State).setVm s₂.vm).setTop g).pushFrame (.throwing q))
    rw [← hs₂]
    exact hsteps
end
variable {p : Program} {l : Launch} {e : Env} {R : Room} {s : State} {m : MethodId} {args : Array Value} {below : List Frame} {meth : Method} {c : Code} {T : State} {H : Heap} {locs : List Loc} {cells slots : Nat}
theorem vx_callVX (X : Stand p l e R s m args below meth c T locs cells slots) (hexec : p.tables.exec = Jvm.exec) {own C : String} {index : Nat} {y : MethodName} {bytes : ByteArray} {maxL : Nat} {ret : Option FieldType} {hh : List (Nat × Nat × Nat × Nat)}
    (hown : s.vm.findClass own = some m.cls) (hlink : (Cond.methodLink own index y).before args s = true) (hinst : (Cond.instanceMethod y).before args s = true) (hsel : (Cond.selects C y y).before args s = true)
    (hcode : (Cond.codeWith y bytes maxL ret hh).before args s = true) (hy : y.cls ≠ "java/lang/invoke/MethodHandle" ∧ y.cls ≠ "java/lang/invoke/VarHandle")
    {W9 : Nat} {Pre : Pt → Array Value → Prop} {Post : Pt → Array Value → Option Value → Pt → Prop} {PostX : Pt → Array Value → Addr → Pt → Prop} (hK : vx_Back l R p e below s args y 3 W9 Pre Post PostX)
    {b : Addr} {cellB : Cell} (hcell : T.heap[b]? = some cellB) (hobj : cellB.vm.isStatics = false) (hcls : s.vm.findClass C = some cellB.cls)
    {g : JFrame} (hg : g.method = m) (hsize : g.locals.size = c.maxLocals) {argsL rest : List Value} (hlen : ∀ sig, parseMethodDescriptor y.desc = some sig → argsL.length = sig.parameters.length)
    (hstack : g.stack = argsL.reverse ++ .ref b :: rest) (hW : 2 * g.monitorRoom + (rest.map fun v => v.category).sum ≤ W9) (hdg : decode c.code g.pc = .ok (.invokevirtual index, 3))
    (hpre : ∀ vm₁, s.WarmedH vm₁ → Pre ⟨T.setVm vm₁, locs, cells, slots⟩ (Value.ref b :: argsL).toArray) :
    (∃ (v : Option Value) (vm₁ : Vm) (B : Pt), s.WarmedH vm₁ ∧ Stand p l e R s m args below meth c B.U B.locs B.cells B.slots ∧ Post ⟨T.setVm vm₁, locs, cells, slots⟩ (Value.ref b :: argsL).toArray v B ∧
      ∀ target, Steps p.tables e below (B.U.setTop { g with pc := g.pc + 3, stack := v.toList ++ rest }) target → Steps p.tables e below (T.setTop g) target) ∨
    (∃ (q : Addr) (vm₁ : Vm) (B : Pt), s.WarmedH vm₁ ∧ Stand p l e R s m args below meth c B.U B.locs B.cells B.slots ∧ PostX ⟨T.setVm vm₁, locs, cells, slots⟩ (Value.ref b :: argsL).toArray q B ∧
      Steps p.tables e below (T.setTop g) ((B.U.setTop { g with stack := rest }).pushFrame (.throwing q))) := by
  obtain ⟨mk, methM, hnamed, hmethM, hstM, habM⟩ := Cond.instanceMethod_spec hinst
  obtain ⟨m8, methM', cM, hn8, hmethM', -, -, -, -, -, -, hsigM⟩ := Cond.codeWith_spec hcode
  cases Option.some.inj (hn8.symm.trans hnamed)
  cases hmethM.symm.trans hmethM'
  obtain ⟨c2, r2, m2, q1, q2, q3, q4, kP, hkP, hkPi⟩ := Cond.selects_spec hsel
  cases hcls.symm.trans q1
  cases (State.methodFound?_of_named hnamed hy).symm.trans q2
  cases hnamed.symm.trans q3
  have hselP : selectMethod e.platform s.vm cellB.cls mk = .method mk := by rw [Launch.admits_selectMethod X.admits]; exact q4
  obtain ⟨vm₁, X₁, hstep₁⟩ := X.invokevirtual hexec hown hlink hnamed hmethM hstM hkP hkPi hy (a := b) (cell := cellB) hcell
    (fun z h => by rw [h] at hobj; cases hobj) hselP hmethM habM hkP hkPi (g := g) hg (argsL := argsL) (rest := rest) (hlen _ hsigM) hstack hdg
  rcases hK m meth c ⟨T.setVm vm₁, locs, cells, slots⟩ { g with stack := rest } (.invokevirtual index) mk (Value.ref b :: argsL).toArray X₁ hg hsize hdg hW (X₁.named hnamed) (hpre vm₁ X₁.warmed) with ⟨v, B, X', hpost, hsteps⟩ | ⟨q, B, X', hpost, hsteps⟩
  · exact Or.inl ⟨v, vm₁, B, X₁.warmed, X', hpost, fun target h => hstep₁ _ fun acts => by rw [doInvoke_state]; exact hsteps.trans h⟩
  · exact Or.inr ⟨q, vm₁, B, X₁.warmed, X', hpost, hstep₁ _ fun acts => by rw [doInvoke_state]; exact hsteps⟩
theorem vx_callSX (X : Stand p l e R s m args below meth c T locs cells slots) (hexec : p.tables.exec = Jvm.exec) {own : String} {index : Nat} {y : MethodName} {bytes : ByteArray} {maxL : Nat} {ret : Option FieldType} {hh : List (Nat × Nat × Nat × Nat)}
    (hown : s.vm.findClass own = some m.cls) (hlink : (Cond.methodLink own index y).before args s = true) (hstat : (Cond.static y).before args s = true) (hinit : (Cond.initialized y.cls).before args s = true)
    (hcode : (Cond.codeWith y bytes maxL ret hh).before args s = true) (hy : y.cls ≠ "java/lang/invoke/MethodHandle" ∧ y.cls ≠ "java/lang/invoke/VarHandle")
    {W9 : Nat} {Pre : Pt → Array Value → Prop} {Post : Pt → Array Value → Option Value → Pt → Prop} {PostX : Pt → Array Value → Addr → Pt → Prop} (hK : vx_Back l R p e below s args y 3 W9 Pre Post PostX)
    {g : JFrame} (hg : g.method = m) (hsize : g.locals.size = c.maxLocals) {argsL rest : List Value} (hlen : ∀ sig, parseMethodDescriptor y.desc = some sig → argsL.length = sig.parameters.length)
    (hstack : g.stack = argsL.reverse ++ rest) (hW : 2 * g.monitorRoom + (rest.map fun v => v.category).sum ≤ W9) (hdg : decode c.code g.pc = .ok (.invokestatic index, 3))
    (hpre : ∀ vm₁, s.WarmedH vm₁ → Pre ⟨T.setVm vm₁, locs, cells, slots⟩ argsL.toArray) :
    (∃ (v : Option Value) (vm₁ : Vm) (B : Pt), s.WarmedH vm₁ ∧ Stand p l e R s m args below meth c B.U B.locs B.cells B.slots ∧ Post ⟨T.setVm vm₁, locs, cells, slots⟩ argsL.toArray v B ∧
      ∀ target, Steps p.tables e below (B.U.setTop { g with pc := g.pc + 3, stack := v.toList ++ rest }) target → Steps p.tables e below (T.setTop g) target) ∨
    (∃ (q : Addr) (vm₁ : Vm) (B : Pt), s.WarmedH vm₁ ∧ Stand p l e R s m args below meth c B.U B.locs B.cells B.slots ∧ PostX ⟨T.setVm vm₁, locs, cells, slots⟩ argsL.toArray q B ∧
      Steps p.tables e below (T.setTop g) ((B.U.setTop { g with stack := rest }).pushFrame (.throwing q))) := by
  obtain ⟨mk, methM, cM, hnamed, hmethM, -, -, -, -, -, -, hsigM⟩ := Cond.codeWith_spec hcode
  have hstatic : methM.isStatic = true := Cond.static_spec hnamed hmethM hstat
  obtain ⟨kP, hkP, -⟩ := className_of_methodNamed hnamed
  have hinitP : kP.init = .initialized := Cond.initialized_spec (findClass_of_methodNamed hnamed) hkP hinit
  obtain ⟨vm₁, X₁, hstep₁⟩ := X.invokestatic hexec hown hlink hnamed hmethM hstatic hkP hinitP hy (g := g) hg (argsL := argsL) (rest := rest) (hlen _ hsigM) hstack hdg
  rcases hK m meth c ⟨T.setVm vm₁, locs, cells, slots⟩ { g with stack := rest } (.invokestatic index) mk argsL.toArray X₁ hg hsize hdg hW (X₁.named hnamed) (hpre vm₁ X₁.warmed) with ⟨v, B, X', hpost, hsteps⟩ | ⟨q, B, X', hpost, hsteps⟩
  · exact Or.inl ⟨v, vm₁, B, X₁.warmed, X', hpost, fun target h => hstep₁ _ fun acts => by rw [doInvoke_state]; exact hsteps.trans h⟩
  · exact Or.inr ⟨q, vm₁, B, X₁.warmed, X', hpost, hstep₁ _ fun acts => by rw [doInvoke_state]; exact hsteps⟩
theorem vx_callVW (X : Stand p l e R s m args below meth c T locs cells slots) (hexec : p.tables.exec = Jvm.exec) {own C : String} {index : Nat} {y : MethodName} {bytes : ByteArray} {maxL : Nat} {ret : Option FieldType} {hh : List (Nat × Nat × Nat × Nat)}
    (hown : s.vm.findClass own = some m.cls) (hlink : (Cond.methodLink own index y).before args s = true) (hinst : (Cond.instanceMethod y).before args s = true) (hsel : (Cond.selects C y y).before args s = true)
    (hcode : (Cond.codeWith y bytes maxL ret hh).before args s = true) (hy : y.cls ≠ "java/lang/invoke/MethodHandle" ∧ y.cls ≠ "java/lang/invoke/VarHandle")
    {W9 : Nat} {Pre : Pt → Array Value → Prop} {Post : Pt → Array Value → Option Value → Pt → Prop} (hK : Back l R p e below s args y 3 W9 Pre Post)
    {b : Addr} {cellB : Cell} (hcell : T.heap[b]? = some cellB) (hobj : cellB.vm.isStatics = false) (hcls : s.vm.findClass C = some cellB.cls)
    {g : JFrame} (hg : g.method = m) (hsize : g.locals.size = c.maxLocals) {argsL rest : List Value} (hlen : ∀ sig, parseMethodDescriptor y.desc = some sig → argsL.length = sig.parameters.length)
    (hstack : g.stack = argsL.reverse ++ .ref b :: rest) (hW : 2 * g.monitorRoom + (rest.map fun v => v.category).sum ≤ W9) (hdg : decode c.code g.pc = .ok (.invokevirtual index, 3))
    (hpre : ∀ vm₁, s.WarmedH vm₁ → Pre ⟨T.setVm vm₁, locs, cells, slots⟩ (Value.ref b :: argsL).toArray) :
    ∃ (v : Option Value) (vm₁ : Vm) (B : Pt), s.WarmedH vm₁ ∧ Stand p l e R s m args below meth c B.U B.locs B.cells B.slots ∧ Post ⟨T.setVm vm₁, locs, cells, slots⟩ (Value.ref b :: argsL).toArray v B ∧
      ∀ target, Steps p.tables e below (B.U.setTop { g with pc := g.pc + 3, stack := v.toList ++ rest }) target → Steps p.tables e below (T.setTop g) target := by
  obtain ⟨mk, methM, hnamed, hmethM, hstM, habM⟩ := Cond.instanceMethod_spec hinst
  obtain ⟨m8, methM', cM, hn8, hmethM', -, -, -, -, -, -, hsigM⟩ := Cond.codeWith_spec hcode
  cases Option.some.inj (hn8.symm.trans hnamed)
  cases hmethM.symm.trans hmethM'
  obtain ⟨c2, r2, m2, q1, q2, q3, q4, kP, hkP, hkPi⟩ := Cond.selects_spec hsel
  cases hcls.symm.trans q1
  cases (State.methodFound?_of_named hnamed hy).symm.trans q2
  cases hnamed.symm.trans q3
  have hselP : selectMethod e.platform s.vm cellB.cls mk = .method mk := by rw [Launch.admits_selectMethod X.admits]; exact q4
  obtain ⟨vm₁, X₁, hstep₁⟩ := X.invokevirtual hexec hown hlink hnamed hmethM hstM hkP hkPi hy (a := b) (cell := cellB) hcell
    (fun z h => by rw [h] at hobj; cases hobj) hselP hmethM habM hkP hkPi (g := g) hg (argsL := argsL) (rest := rest) (hlen _ hsigM) hstack hdg
  obtain ⟨v, B, X', hpost, hsteps⟩ := hK m meth c ⟨T.setVm vm₁, locs, cells, slots⟩ { g with stack := rest } (.invokevirtual index) mk (Value.ref b :: argsL).toArray X₁ hg hsize hdg hW (X₁.named hnamed) (hpre vm₁ X₁.warmed)
  exact ⟨v, vm₁, B, X₁.warmed, X', hpost, fun target h => hstep₁ _ fun acts => by rw [doInvoke_state]; exact hsteps.trans h⟩
abbrev vx_CVW (R : Room) (s : State) (args : Array Value) (own C : String) (index : Nat) (y : MethodName) (bytes : ByteArray) (maxL : Nat) (ret : Option FieldType) (hh : List (Nat × Nat × Nat × Nat)) (ws : List Cond) (rm : Room) (mc ms n : Nat) : Prop :=
  (rm.cells = mc ∧ rm.slots = ms ∧ rm.frames + 1 ≤ R.frames ∧ 8 + (maxL + 11) + rm.locals ≤ R.locals ∧ (∀ w ∈ ws, ∀ (a' : Array Value) (U : State), s.WarmedH U.vm → w.before a' U = true) ∧ Cond.codeWith y bytes maxL ret hh ∈ ws) ∧
  (Cond.codeWith y bytes maxL ret hh).before args s = true ∧ (Cond.initialized y.cls).before args s = true ∧ (y.cls ≠ "java/lang/invoke/MethodHandle" ∧ y.cls ≠ "java/lang/invoke/VarHandle") ∧
  (∀ sig, parseMethodDescriptor y.desc = some sig → n = sig.parameters.length) ∧ (Cond.methodLink own index y).before args s = true ∧ (Cond.instanceMethod y).before args s = true ∧ (Cond.selects C y y).before args s = true
theorem vx_cwVW {own C : String} {index maxL mc ms : Nat} {y : MethodName} {bytes : ByteArray} {ret : Option FieldType} {hh : List (Nat × Nat × Nat × Nat)} {Ts ws ws' : List Cond} {rm : Room} (n : Nat) (ht : ∀ w ∈ Ts, w.before args s = true) (hT : GoodIn Ts (wsV own index C y ws)) (hw : ws = Cond.codeWith y bytes maxL ret hh :: ws') (hrc : rm.cells = mc) (hrs : rm.slots = ms)
    (hd : y.cls = C ∧ y.cls ≠ "java/lang/invoke/MethodHandle" ∧ y.cls ≠ "java/lang/invoke/VarHandle" ∧ (parseMethodDescriptor y.desc).map (fun d => d.parameters.length) = some n) (hR : rm.frames + 1 ≤ R.frames ∧ 8 + (maxL + 11) + rm.locals ≤ R.locals) :
    vx_CVW R s args own C index y bytes maxL ret hh ws rm mc ms n := by
  obtain ⟨hC, hd⟩ := hd
  subst hC
  have ok : ∀ w ∈ wsV own index y.cls y ws, w.before args s = true := fun w h => ht w (hT w h).1
  have hG : GoodIn Ts ws := fun w h => hT w (by unfold wsV; exact List.mem_append_right _ h)
  have hc : Cond.codeWith y bytes maxL ret hh ∈ ws := by rw [hw]; exact List.mem_cons_self
  refine ⟨⟨hrc, hrs, hR.1, hR.2, pay_in ht hG, hc⟩, ht _ (hG _ hc).1, ok _ (by simp [wsV]), ⟨hd.1, hd.2.1⟩, fun sig h => ?_, ok _ (by simp [wsV]), ok _ (by simp [wsV]), ok _ (by simp [wsV])⟩
  have h2 := hd.2.2
  rw [h] at h2
  exact (Option.some.inj h2).symm
theorem vx_runVW {y : MethodName} {bytes cc : ByteArray} {maxL nL mc ms n index : Nat} {ret : Option FieldType} {hh : List (Nat × Nat × Nat × Nat)} {ws : List Cond} {rm : Room} {Pc : Array Value → State → Prop} {Qc : Array Value → State → Outcome → State → Prop} {free : Addr → Prop} {Ts : List Cond} {own C : String} {b : Addr} {As rest : List Value} {g : JFrame}
    (S : CallFix p m c cc nL s args Ts own) (hM : Met l y ws rm Pc Qc mc ms free) (cw : vx_CVW R s args own C index y bytes maxL ret hh ws rm mc ms n) (hp : PreV s H C b Pc As)
    (hg : g.method = m) (hn : As.length = n) (hsize : g.locals.size = nL) (hstack : g.stack = As.reverse ++ .ref b :: rest) (hW : 2 * g.monitorRoom + (rest.map fun v => v.category).sum ≤ 8) (hdg : decode cc g.pc = .ok (.invokevirtual index, 3)) (hf : cells + mc ≤ R.cells ∧ slots + ms ≤ R.slots) :
    va_Run p l e R s m args below meth c H locs cells slots mc ms g rest (Qc (Value.ref b :: As).toArray) free := by
  obtain ⟨⟨hrc, hrs, hfr, hlo, hws, hcw⟩, hcode, hini, hy, hlen, hl, hin, hse⟩ := cw
  have hK : Back l R p e below s args y 3 8 (PreOf R mc ms Pc) (PostOf Qc mc ms free) := va_backW (hh := hh) (bytes := bytes) (maxL := maxL) (ret := ret) hM hp.1 hrc hrs hfr hlo hws hcw (fun a' U hW => word_at hW (Or.inl (by first | rfl | simp [Cond.onTables, Cond.keeps, Cond.steady])) hini)
  obtain ⟨hx, hb, hml, ho, -⟩ := S
  obtain ⟨-, ⟨cellB, hcB, hoB, hclB⟩, hPc⟩ := hp
  intro T hT X
  obtain ⟨v, vm₁, ⟨U', l2, c2, s2⟩, hW₁, X', ⟨g', mk, t, L, e1, e2, hq, h1, hL, h2, h3⟩, st⟩ := vx_callVW X hx (C := C) (hh := hh) (bytes := bytes) (maxL := maxL) (ret := ret) ho hl hin hse hcode hy hK (by rw [hT]; exact hcB) hoB hclB hg (hsize.trans hml.symm) (argsL := As) (rest := rest) (fun sig h => hn.trans (hlen sig h)) hstack hW (by rw [hb]; exact hdg)
    (fun vm₁ hW₁ => ⟨hf.1, hf.2, hPc (T.setVm vm₁) hT hW₁⟩)
  dsimp only [Pt.U, Pt.locs, Pt.cells, Pt.slots] at X' e1 e2 h1 h2 h3 st
  subst h1; subst h2; subst h3
  exact ⟨v, (T.setVm vm₁).calling g' mk (Value.ref b :: As).toArray, t, U', L, hT, X', hL, e1, e2, hq, st⟩
section
variable {y : MethodName} {bytes cc : ByteArray} {maxL nL mc ms n index : Nat} {ret : Option FieldType} {ws : List Cond} {rm : Room} {Pc : Array Value → State → Prop} {Qc : Array Value → State → Outcome → State → Prop} {XC : String → State → State → Prop} {free : Addr → Prop} {Ts : List Cond} {own C : String} {b : Addr} {As rest : List Value} {g : JFrame}
theorem vx_runVX {hh : List (Nat × Nat × Nat × Nat)} (S : CallFix p m c cc nL s args Ts own) (hM : vx_Met l y ws rm Pc Qc XC mc ms free) (cw : vx_CVW R s args own C index y bytes maxL ret hh ws rm mc ms n) (hp : PreV s H C b Pc As)
    (hg : g.method = m) (hn : As.length = n) (hsize : g.locals.size = nL) (hstack : g.stack = As.reverse ++ .ref b :: rest) (hW : 2 * g.monitorRoom + (rest.map fun v => v.category).sum ≤ 8) (hdg : decode cc g.pc = .ok (.invokevirtual index, 3)) (hf : cells + mc ≤ R.cells ∧ slots + ms ≤ R.slots) :
    vx_Run p l e R s m args below meth c H locs cells slots mc ms g rest (Qc (Value.ref b :: As).toArray) XC free := by
  obtain ⟨⟨hrc, hrs, hfr, hlo, hws, hcw⟩, hcode, hini, hy, hlen, hl, hin, hse⟩ := cw
  have hK : vx_Back l R p e below s args y 3 8 (PreOf R mc ms Pc) (PostOf Qc mc ms free) (vx_Post XC mc ms free) := vx_backW (hh := hh) (bytes := bytes) (maxL := maxL) (ret := ret) hM hp.1 hrc hrs hfr hlo hws hcw (fun a' U hW => word_at hW (Or.inl (by first | rfl | simp [Cond.onTables, Cond.keeps, Cond.steady])) hini)
  obtain ⟨hx, hb, hml, ho, -⟩ := S
  obtain ⟨-, ⟨cellB, hcB, hoB, hclB⟩, hPc⟩ := hp
  intro T hT X
  rcases vx_callVX X hx (C := C) (hh := hh) (bytes := bytes) (maxL := maxL) (ret := ret) ho hl hin hse hcode hy hK (by rw [hT]; exact hcB) hoB hclB hg (hsize.trans hml.symm) (argsL := As) (rest := rest) (fun sig h => hn.trans (hlen sig h)) hstack hW (by rw [hb]; exact hdg)
    (fun vm₁ hW₁ => ⟨hf.1, hf.2, hPc (T.setVm vm₁) hT hW₁⟩) with ⟨v, vm₁, ⟨U', l2, c2, s2⟩, hW₁, X', ⟨g', mk, t, L, e1, e2, hq, h1, hL, h2, h3⟩, st⟩ | ⟨q, vm₁, ⟨U', l2, c2, s2⟩, hW₁, X', ⟨g', mk, t, L, E, ce, e1, e2, hq, hce, hcv, hcl, h1, hL, h2, h3⟩, st⟩
  · dsimp only [Pt.U, Pt.locs, Pt.cells, Pt.slots] at X' e1 e2 h1 h2 h3 st
    subst h1; subst h2; subst h3
    exact Or.inl ⟨v, (T.setVm vm₁).calling g' mk (Value.ref b :: As).toArray, t, U', L, hT, X', hL, e1, e2, hq, st⟩
  · dsimp only [Pt.U, Pt.locs, Pt.cells, Pt.slots] at X' e1 e2 h1 h2 h3 st hcl
    subst h1; subst h2; subst h3
    exact Or.inr ⟨q, (T.setVm vm₁).calling g' mk (Value.ref b :: As).toArray, t, U', L, E, ce, hT, X', hL, e1, e2, hq, hce, hcv, vx_cls hW₁ hcl, st⟩
theorem vx_runSX {hh : List (Nat × Nat × Nat × Nat)} (S : CallFix p m c cc nL s args Ts own) (hM : vx_Met l y ws rm Pc Qc XC mc ms free) (cw : vx_CSW R s args own index y bytes maxL ret hh ws rm mc ms n) (hp : PreS s H Pc As)
    (hg : g.method = m) (hn : As.length = n) (hsize : g.locals.size = nL) (hstack : g.stack = As.reverse ++ rest) (hW : 2 * g.monitorRoom + (rest.map fun v => v.category).sum ≤ 8) (hdg : decode cc g.pc = .ok (.invokestatic index, 3)) (hf : cells + mc ≤ R.cells ∧ slots + ms ≤ R.slots) :
    vx_Run p l e R s m args below meth c H locs cells slots mc ms g rest (Qc As.toArray) XC free := by
  obtain ⟨⟨hrc, hrs, hfr, hlo, hws, hcw⟩, hcode, hini, hy, hlen, hl, hstt⟩ := cw
  have hK : vx_Back l R p e below s args y 3 8 (PreOf R mc ms Pc) (PostOf Qc mc ms free) (vx_Post XC mc ms free) := vx_backW (hh := hh) (bytes := bytes) (maxL := maxL) (ret := ret) hM hp.1 hrc hrs hfr hlo hws hcw (fun a' U hW => word_at hW (Or.inl (by first | rfl | simp [Cond.onTables, Cond.keeps, Cond.steady])) hini)
  obtain ⟨hx, hb, hml, ho, -⟩ := S
  intro T hT X
  rcases vx_callSX X hx (hh := hh) (bytes := bytes) (maxL := maxL) (ret := ret) ho hl hstt hini hcode hy hK hg (hsize.trans hml.symm) (argsL := As) (rest := rest) (fun sig h => hn.trans (hlen sig h)) hstack hW (by rw [hb]; exact hdg)
    (fun vm₁ hW₁ => ⟨hf.1, hf.2, hp.2 (T.setVm vm₁) hT hW₁⟩) with ⟨v, vm₁, ⟨U', l2, c2, s2⟩, hW₁, X', ⟨g', mk, t, L, e1, e2, hq, h1, hL, h2, h3⟩, st⟩ | ⟨q, vm₁, ⟨U', l2, c2, s2⟩, hW₁, X', ⟨g', mk, t, L, E, ce, e1, e2, hq, hce, hcv, hcl, h1, hL, h2, h3⟩, st⟩
  · dsimp only [Pt.U, Pt.locs, Pt.cells, Pt.slots] at X' e1 e2 h1 h2 h3 st
    subst h1; subst h2; subst h3
    exact Or.inl ⟨v, (T.setVm vm₁).calling g' mk As.toArray, t, U', L, hT, X', hL, e1, e2, hq, st⟩
  · dsimp only [Pt.U, Pt.locs, Pt.cells, Pt.slots] at X' e1 e2 h1 h2 h3 st hcl
    subst h1; subst h2; subst h3
    exact Or.inr ⟨q, (T.setVm vm₁).calling g' mk As.toArray, t, U', L, E, ce, hT, X', hL, e1, e2, hq, hce, hcv, vx_cls hW₁ hcl, st⟩
end
end VXH
theorem vx_ofWH {l : Launch} {y : MethodName} {ws ws' : List Cond} {rm : Room} {Pc : Array Value → State → Prop} {Qc : Array Value → State → Outcome → State → Prop} {XC : String → State → State → Prop} {mc ms : Nat} {free : Addr → Prop} {cc : ByteArray} {maxL : Nat} {ret : Option FieldType} {hh : List (Nat × Nat × Nat × Nat)}
    (hy : plainName y.cls = true) (hw : ws = Cond.codeWith y cc maxL ret hh :: ws')
    (body : ∀ p e s m args below meth c s₁, BodyLoose p l y (headSpec ws rm) cc maxL ret e s m args below meth c s₁ → c.maxLocals = maxL → Pc args s →
      W p l e (headSpec ws rm).room s m args below meth c s.heap [] 0 0 (vx_MQ below Qc XC args s mc ms free) (entryFrame m args maxL)) : vx_Met l y ws rm Pc Qc XC mc ms free := by
  refine MetFree.of_bodyS (code := cc) (maxLocals := maxL) (ret := ret) hy ?_ ?_
  · intro args s m h hn
    obtain ⟨m9, meth, c, hn9, h1, h2, h3, h4, -, h5, h6, -⟩ := Cond.codeWith_spec (atoms_spec (ws := ws) h _ (by rw [hw]; exact List.mem_cons_self))
    cases hn.symm.trans hn9
    exact ⟨meth, c, h1, h2, h3, h4, h5, h6⟩
  · intro p e s m args below meth c s₁ B hml hP _
    have hh0 : s₁.heap = s.heap := by rw [B.state]; rfl
    obtain ⟨t, a1, o, b1, b2, b3⟩ := body p e s m args below meth c s₁ B hml hP s₁ hh0 (Stand.of_body B)
    exact ⟨t, o, a1, b1, b2, b3⟩
/-! ===== END ===== -/
end
section
/-! ===== BEGIN printed: names, fields, word lists, decode rows ===== -/
def RX0 : String := "ShelfServer$Lock"
def TX0 : u_T := fun k => match k with
  | 0 => ("ShelfServer$Lock", "client", "I", false)
  | 1 => ("ShelfServer$Lock", "path", "I", false)
  | 2 => ("ShelfServer$Lock", "isShared", "Z", false)
  | 3 => ("ShelfServer$Lock", "isDeep", "Z", false)
  | _ => ("ShelfServer$Lock", "end", "I", false)
def tyX0 : Nat → FieldType := fun k => match k with
  | 0 => .int
  | 1 => .int
  | 2 => .boolean
  | 3 => .boolean
  | _ => .int
abbrev wsX00 : List Cond := u_ws RX0 TX0 5
theorem nmX0 : ∀ a, a < 5 → ∀ b, b < 5 → a ≠ b → (TX0 a).2.1 ≠ (TX0 b).2.1 := by decide +kernel
theorem tyX0_ok : ∀ k, k < 5 → parseFieldDescriptor (TX0 k).2.2.1 = some (tyX0 k) := by decide +kernel
abbrev cX0_init : ByteArray := prog_2_method_1_code
def yX0_init : MethodName := ⟨RX0, "<init>", "()V"⟩
abbrev cX0_covers : ByteArray := prog_2_method_2_code
def yX0_covers : MethodName := ⟨RX0, "covers", "(I)Z"⟩
def RX1 : String := "ShelfServer$Locks"
def TX1 : u_T := fun k => match k with
  | 0 => ("ShelfServer$Locks", "row", "[LShelfServer$Lock;", true)
  | 1 => ("ShelfServer$Locks", "count", "I", false)
  | _ => ("ShelfServer$Locks", "now", "I", false)
def tyX1 : Nat → FieldType := fun k => match k with
  | 0 => .array (.object "ShelfServer$Lock")
  | 1 => .int
  | _ => .int
abbrev wsX10 : List Cond := u_ws RX1 TX1 3
theorem nmX1 : ∀ a, a < 3 → ∀ b, b < 3 → a ≠ b → (TX1 a).2.1 ≠ (TX1 b).2.1 := by decide +kernel
theorem tyX1_ok : ∀ k, k < 3 → parseFieldDescriptor (TX1 k).2.2.1 = some (tyX1 k) := by decide +kernel
abbrev cX1_init : ByteArray := prog_3_method_1_code
def yX1_init : MethodName := ⟨RX1, "<init>", "()V"⟩
abbrev cX1_find : ByteArray := prog_3_method_2_code
def yX1_find : MethodName := ⟨RX1, "find", "(I)LShelfServer$Lock;"⟩
abbrev cX1_tokensOver : ByteArray := prog_3_method_3_code
def yX1_tokensOver : MethodName := ⟨RX1, "tokensOver", "(I)I"⟩
abbrev cX1_allows : ByteArray := prog_3_method_4_code
def yX1_allows : MethodName := ⟨RX1, "allows", "(III)Z"⟩
abbrev cX1_bar : ByteArray := prog_3_method_5_code
def yX1_bar : MethodName := ⟨RX1, "bar", "(IZZ)Z"⟩
abbrev cX1_add : ByteArray := prog_3_method_6_code
def yX1_add : MethodName := ⟨RX1, "add", "(IIZZI)I"⟩
abbrev cX1_dropAt : ByteArray := prog_3_method_7_code
def yX1_dropAt : MethodName := ⟨RX1, "dropAt", "(I)V"⟩
abbrev cX1_advance : ByteArray := prog_3_method_8_code
def yX1_advance : MethodName := ⟨RX1, "advance", "(I)I"⟩
def RX2 : String := "ShelfServer$Resource"
def TX2 : u_T := fun k => match k with
  | 0 => ("ShelfServer$Resource", "path", "I", false)
  | 1 => ("ShelfServer$Resource", "kind", "I", false)
  | 2 => ("ShelfServer$Resource", "content", "I", false)
  | 3 => ("ShelfServer$Resource", "isGoing", "Z", false)
  | 4 => ("ShelfServer$Resource", "versions", "[I", true)
  | _ => ("ShelfServer$Resource", "versionCount", "I", false)
def tyX2 : Nat → FieldType := fun k => match k with
  | 0 => .int
  | 1 => .int
  | 2 => .int
  | 3 => .boolean
  | 4 => .array .int
  | _ => .int
abbrev wsX20 : List Cond := u_ws RX2 TX2 6
theorem nmX2 : ∀ a, a < 6 → ∀ b, b < 6 → a ≠ b → (TX2 a).2.1 ≠ (TX2 b).2.1 := by decide +kernel
theorem tyX2_ok : ∀ k, k < 6 → parseFieldDescriptor (TX2 k).2.2.1 = some (tyX2 k) := by decide +kernel
abbrev cX2_init : ByteArray := prog_4_method_1_code
def yX2_init : MethodName := ⟨RX2, "<init>", "()V"⟩
abbrev cX2_begin : ByteArray := prog_4_method_2_code
def yX2_begin : MethodName := ⟨RX2, "begin", "(III)V"⟩
abbrev cX2_hasVersion : ByteArray := prog_4_method_3_code
def yX2_hasVersion : MethodName := ⟨RX2, "hasVersion", "(I)Z"⟩
abbrev cX2_addVersion : ByteArray := prog_4_method_4_code
def yX2_addVersion : MethodName := ⟨RX2, "addVersion", "()I"⟩
abbrev cX2_takeVersion : ByteArray := prog_4_method_5_code
def yX2_takeVersion : MethodName := ⟨RX2, "takeVersion", "(I)V"⟩
def RX3 : String := "ShelfServer$Shelf"
def TX3 : u_T := fun k => match k with
  | 0 => ("ShelfServer$Shelf", "row", "[LShelfServer$Resource;", true)
  | _ => ("ShelfServer$Shelf", "count", "I", false)
def tyX3 : Nat → FieldType := fun k => match k with
  | 0 => .array (.object "ShelfServer$Resource")
  | _ => .int
abbrev wsX30 : List Cond := u_ws RX3 TX3 2
theorem nmX3 : ∀ a, a < 2 → ∀ b, b < 2 → a ≠ b → (TX3 a).2.1 ≠ (TX3 b).2.1 := by decide +kernel
theorem tyX3_ok : ∀ k, k < 2 → parseFieldDescriptor (TX3 k).2.2.1 = some (tyX3 k) := by decide +kernel
abbrev cX3_init : ByteArray := prog_5_method_1_code
def yX3_init : MethodName := ⟨RX3, "<init>", "()V"⟩
abbrev cX3_indexOf : ByteArray := prog_5_method_2_code
def yX3_indexOf : MethodName := ⟨RX3, "indexOf", "(I)I"⟩
abbrev cX3_find : ByteArray := prog_5_method_3_code
def yX3_find : MethodName := ⟨RX3, "find", "(I)LShelfServer$Resource;"⟩
abbrev cX3_findFile : ByteArray := prog_5_method_4_code
def yX3_findFile : MethodName := ⟨RX3, "findFile", "(I)LShelfServer$Resource;"⟩
abbrev cX3_kindAt : ByteArray := prog_5_method_5_code
def yX3_kindAt : MethodName := ⟨RX3, "kindAt", "(I)I"⟩
abbrev cX3_isCollection : ByteArray := prog_5_method_6_code
def yX3_isCollection : MethodName := ⟨RX3, "isCollection", "(I)Z"⟩
abbrev cX3_append : ByteArray := prog_5_method_7_code
def yX3_append : MethodName := ⟨RX3, "append", "(III)V"⟩
abbrev cX3_treeSize : ByteArray := prog_5_method_8_code
def yX3_treeSize : MethodName := ⟨RX3, "treeSize", "(I)I"⟩
abbrev cX3_fits : ByteArray := prog_5_method_9_code
def yX3_fits : MethodName := ⟨RX3, "fits", "(II)Z"⟩
abbrev cX3_appendCopyOfTree : ByteArray := prog_5_method_10_code
def yX3_appendCopyOfTree : MethodName := ⟨RX3, "appendCopyOfTree", "(II)V"⟩
abbrev cX3_renameTree : ByteArray := prog_5_method_11_code
def yX3_renameTree : MethodName := ⟨RX3, "renameTree", "(II)V"⟩
abbrev cX3_markTree : ByteArray := prog_5_method_12_code
def yX3_markTree : MethodName := ⟨RX3, "markTree", "(I)V"⟩
abbrev cX3_spareUpFrom : ByteArray := prog_5_method_13_code
def yX3_spareUpFrom : MethodName := ⟨RX3, "spareUpFrom", "(I)V"⟩
abbrev cX3_removeMarked : ByteArray := prog_5_method_14_code
def yX3_removeMarked : MethodName := ⟨RX3, "removeMarked", "()V"⟩
abbrev cX3_memberCount : ByteArray := prog_5_method_15_code
def yX3_memberCount : MethodName := ⟨RX3, "memberCount", "(I)I"⟩
abbrev cX3_memberIndex : ByteArray := prog_5_method_16_code
def yX3_memberIndex : MethodName := ⟨RX3, "memberIndex", "(II)I"⟩
abbrev cX3_placeMember : ByteArray := prog_5_method_17_code
def yX3_placeMember : MethodName := ⟨RX3, "placeMember", "(II)V"⟩
abbrev cX3_shift : ByteArray := prog_5_method_18_code
def yX3_shift : MethodName := ⟨RX3, "shift", "(II)V"⟩
def RX4 : String := "ShelfServer"
def TX4 : u_T := fun k => match k with
  | 0 => ("ShelfServer", "shelf", "LShelfServer$Shelf;", true)
  | 1 => ("ShelfServer", "locks", "LShelfServer$Locks;", true)
  | 2 => ("ShelfServer", "failed", "[I", true)
  | _ => ("ShelfServer", "failedCount", "I", false)
def tyX4 : Nat → FieldType := fun k => match k with
  | 0 => .object "ShelfServer$Shelf"
  | 1 => .object "ShelfServer$Locks"
  | 2 => .array .int
  | _ => .int
abbrev wsX40 : List Cond := u_ws RX4 TX4 4
theorem nmX4 : ∀ a, a < 4 → ∀ b, b < 4 → a ≠ b → (TX4 a).2.1 ≠ (TX4 b).2.1 := by decide +kernel
theorem tyX4_ok : ∀ k, k < 4 → parseFieldDescriptor (TX4 k).2.2.1 = some (tyX4 k) := by decide +kernel
abbrev cX4_init : ByteArray := prog_1_method_1_code
def yX4_init : MethodName := ⟨RX4, "<init>", "()V"⟩
abbrev cX4_makeCollection : ByteArray := prog_1_method_2_code
def yX4_makeCollection : MethodName := ⟨RX4, "makeCollection", "(III)I"⟩
abbrev cX4_put : ByteArray := prog_1_method_3_code
def yX4_put : MethodName := ⟨RX4, "put", "(IIIII)I"⟩
abbrev cX4_delete : ByteArray := prog_1_method_4_code
def yX4_delete : MethodName := ⟨RX4, "delete", "(III)I"⟩
abbrev cX4_failures : ByteArray := prog_1_method_5_code
def yX4_failures : MethodName := ⟨RX4, "failures", "()I"⟩
abbrev cX4_failureAt : ByteArray := prog_1_method_6_code
def yX4_failureAt : MethodName := ⟨RX4, "failureAt", "(I)I"⟩
abbrev cX4_copy : ByteArray := prog_1_method_7_code
def yX4_copy : MethodName := ⟨RX4, "copy", "(IIIZI)I"⟩
abbrev cX4_move : ByteArray := prog_1_method_8_code
def yX4_move : MethodName := ⟨RX4, "move", "(IIIZI)I"⟩
abbrev cX4_kindOf : ByteArray := prog_1_method_9_code
def yX4_kindOf : MethodName := ⟨RX4, "kindOf", "(I)I"⟩
abbrev cX4_content : ByteArray := prog_1_method_10_code
def yX4_content : MethodName := ⟨RX4, "content", "(I)I"⟩
abbrev cX4_resources : ByteArray := prog_1_method_11_code
def yX4_resources : MethodName := ⟨RX4, "resources", "()I"⟩
abbrev cX4_members : ByteArray := prog_1_method_12_code
def yX4_members : MethodName := ⟨RX4, "members", "(I)I"⟩
abbrev cX4_memberAt : ByteArray := prog_1_method_13_code
def yX4_memberAt : MethodName := ⟨RX4, "memberAt", "(II)I"⟩
abbrev cX4_order : ByteArray := prog_1_method_14_code
def yX4_order : MethodName := ⟨RX4, "order", "(IIII)I"⟩
abbrev cX4_lock : ByteArray := prog_1_method_15_code
def yX4_lock : MethodName := ⟨RX4, "lock", "(IIZZII)I"⟩
abbrev cX4_refresh : ByteArray := prog_1_method_16_code
def yX4_refresh : MethodName := ⟨RX4, "refresh", "(III)I"⟩
abbrev cX4_pass : ByteArray := prog_1_method_17_code
def yX4_pass : MethodName := ⟨RX4, "pass", "(I)I"⟩
abbrev cX4_covering : ByteArray := prog_1_method_18_code
def yX4_covering : MethodName := ⟨RX4, "covering", "(I)I"⟩
abbrev cX4_mayChange : ByteArray := prog_1_method_19_code
def yX4_mayChange : MethodName := ⟨RX4, "mayChange", "(III)Z"⟩
abbrev cX4_keep : ByteArray := prog_1_method_20_code
def yX4_keep : MethodName := ⟨RX4, "keep", "(I)I"⟩
abbrev cX4_restore : ByteArray := prog_1_method_21_code
def yX4_restore : MethodName := ⟨RX4, "restore", "(IIII)I"⟩
abbrev cX4_requireRange : ByteArray := prog_1_method_22_code
def yX4_requireRange : MethodName := ⟨RX4, "requireRange", "(III)V"⟩
abbrev cX4_requireNotNegative : ByteArray := prog_1_method_23_code
def yX4_requireNotNegative : MethodName := ⟨RX4, "requireNotNegative", "(I)V"⟩
abbrev cX4_requireClient : ByteArray := prog_1_method_24_code
def yX4_requireClient : MethodName := ⟨RX4, "requireClient", "(I)V"⟩
abbrev cX4_requirePath : ByteArray := prog_1_method_25_code
def yX4_requirePath : MethodName := ⟨RX4, "requirePath", "(I)V"⟩
abbrev cX4_requirePathBelowTop : ByteArray := prog_1_method_26_code
def yX4_requirePathBelowTop : MethodName := ⟨RX4, "requirePathBelowTop", "(I)V"⟩
abbrev cX4_requireTransfer : ByteArray := prog_1_method_27_code
def yX4_requireTransfer : MethodName := ⟨RX4, "requireTransfer", "(IIII)V"⟩
abbrev cX4_isPath : ByteArray := prog_1_method_28_code
def yX4_isPath : MethodName := ⟨RX4, "isPath", "(I)Z"⟩
abbrev cX4_parentOf : ByteArray := prog_1_method_29_code
def yX4_parentOf : MethodName := ⟨RX4, "parentOf", "(I)I"⟩
abbrev cX4_isAbove : ByteArray := prog_1_method_30_code
def yX4_isAbove : MethodName := ⟨RX4, "isAbove", "(II)Z"⟩
abbrev cX4_isIn : ByteArray := prog_1_method_31_code
def yX4_isIn : MethodName := ⟨RX4, "isIn", "(II)Z"⟩
abbrev cX4_moved : ByteArray := prog_1_method_32_code
def yX4_moved : MethodName := ⟨RX4, "moved", "(III)I"⟩
abbrev cX4_allowsWithParent : ByteArray := prog_1_method_33_code
def yX4_allowsWithParent : MethodName := ⟨RX4, "allowsWithParent", "(III)Z"⟩
abbrev cX4_allowsTree : ByteArray := prog_1_method_34_code
def yX4_allowsTree : MethodName := ⟨RX4, "allowsTree", "(III)Z"⟩
abbrev cX4_outcomeOfWriting : ByteArray := prog_1_method_35_code
def yX4_outcomeOfWriting : MethodName := ⟨RX4, "outcomeOfWriting", "(IIII)I"⟩
abbrev cX4_outcomeOfTarget : ByteArray := prog_1_method_36_code
def yX4_outcomeOfTarget : MethodName := ⟨RX4, "outcomeOfTarget", "(IIIZI)I"⟩
abbrev cX4_write : ByteArray := prog_1_method_37_code
def yX4_write : MethodName := ⟨RX4, "write", "(II)V"⟩
abbrev cX4_noteFailures : ByteArray := prog_1_method_38_code
def yX4_noteFailures : MethodName := ⟨RX4, "noteFailures", "(III)V"⟩
abbrev cX4_insertFailure : ByteArray := prog_1_method_39_code
def yX4_insertFailure : MethodName := ⟨RX4, "insertFailure", "(I)V"⟩
abbrev cX4_spareFailures : ByteArray := prog_1_method_40_code
def yX4_spareFailures : MethodName := ⟨RX4, "spareFailures", "()V"⟩
abbrev cX4_removeTree : ByteArray := prog_1_method_41_code
def yX4_removeTree : MethodName := ⟨RX4, "removeTree", "(I)V"⟩
abbrev cX4_removeMarked : ByteArray := prog_1_method_42_code
def yX4_removeMarked : MethodName := ⟨RX4, "removeMarked", "()V"⟩
abbrev cX4_dropLocksOfTree : ByteArray := prog_1_method_43_code
def yX4_dropLocksOfTree : MethodName := ⟨RX4, "dropLocksOfTree", "(I)V"⟩
def RX5 : String := "ShelfServerModel"
def TX5 : u_T := fun k => match k with
  | 0 => ("ShelfServerModel", "used", "[Z", true)
  | 1 => ("ShelfServerModel", "path", "[I", true)
  | 2 => ("ShelfServerModel", "kind", "[I", true)
  | 3 => ("ShelfServerModel", "content", "[I", true)
  | 4 => ("ShelfServerModel", "rank", "[I", true)
  | 5 => ("ShelfServerModel", "ranks", "I", false)
  | 6 => ("ShelfServerModel", "versions", "[I", true)
  | 7 => ("ShelfServerModel", "kept", "[I", true)
  | 8 => ("ShelfServerModel", "time", "I", false)
  | 9 => ("ShelfServerModel", "locks", "I", false)
  | 10 => ("ShelfServerModel", "owner", "[I", true)
  | 11 => ("ShelfServerModel", "spot", "[I", true)
  | 12 => ("ShelfServerModel", "shared", "[Z", true)
  | 13 => ("ShelfServerModel", "deep", "[Z", true)
  | 14 => ("ShelfServerModel", "end", "[I", true)
  | 15 => ("ShelfServerModel", "failures", "I", false)
  | 16 => ("ShelfServerModel", "failed", "[I", true)
  | 17 => ("ShelfServerModel", "marked", "[Z", true)
  | 18 => ("ShelfServerModel", "fixed", "[Z", true)
  | _ => ("ShelfServerModel", "thrown", "I", false)
def tyX5 : Nat → FieldType := fun k => match k with
  | 0 => .array .boolean
  | 1 => .array .int
  | 2 => .array .int
  | 3 => .array .int
  | 4 => .array .int
  | 5 => .int
  | 6 => .array .int
  | 7 => .array .int
  | 8 => .int
  | 9 => .int
  | 10 => .array .int
  | 11 => .array .int
  | 12 => .array .boolean
  | 13 => .array .boolean
  | 14 => .array .int
  | 15 => .int
  | 16 => .array .int
  | 17 => .array .boolean
  | 18 => .array .boolean
  | _ => .int
abbrev wsX50 : List Cond := u_ws RX5 TX5 20
theorem nmX5 : ∀ a, a < 20 → ∀ b, b < 20 → a ≠ b → (TX5 a).2.1 ≠ (TX5 b).2.1 := by decide +kernel
theorem tyX5_ok : ∀ k, k < 20 → parseFieldDescriptor (TX5 k).2.2.1 = some (tyX5 k) := by decide +kernel
abbrev cX5_init : ByteArray := prog_7_method_1_code
def yX5_init : MethodName := ⟨RX5, "<init>", "()V"⟩
abbrev cX5_thrown : ByteArray := prog_7_method_2_code
def yX5_thrown : MethodName := ⟨RX5, "thrown", "()I"⟩
abbrev cX5_isIn : ByteArray := prog_7_method_3_code
def yX5_isIn : MethodName := ⟨RX5, "isIn", "(III)Z"⟩
abbrev cX5_isPath : ByteArray := prog_7_method_4_code
def yX5_isPath : MethodName := ⟨RX5, "isPath", "(I)Z"⟩
abbrev cX5_isName : ByteArray := prog_7_method_5_code
def yX5_isName : MethodName := ⟨RX5, "isName", "(I)Z"⟩
abbrev cX5_isClient : ByteArray := prog_7_method_6_code
def yX5_isClient : MethodName := ⟨RX5, "isClient", "(I)Z"⟩
abbrev cX5_isRight : ByteArray := prog_7_method_7_code
def yX5_isRight : MethodName := ⟨RX5, "isRight", "(III)Z"⟩
abbrev cX5_place : ByteArray := prog_7_method_8_code
def yX5_place : MethodName := ⟨RX5, "place", "(I)I"⟩
abbrev cX5_kinds : ByteArray := prog_7_method_9_code
def yX5_kinds : MethodName := ⟨RX5, "kinds", "(I)I"⟩
abbrev cX5_count : ByteArray := prog_7_method_10_code
def yX5_count : MethodName := ⟨RX5, "count", "()I"⟩
abbrev cX5_isAbove : ByteArray := prog_7_method_11_code
def yX5_isAbove : MethodName := ⟨RX5, "isAbove", "(II)Z"⟩
abbrev cX5_isOf : ByteArray := prog_7_method_12_code
def yX5_isOf : MethodName := ⟨RX5, "isOf", "(II)Z"⟩
abbrev cX5_makes : ByteArray := prog_7_method_13_code
def yX5_makes : MethodName := ⟨RX5, "makes", "(III)I"⟩
abbrev cX5_goes : ByteArray := prog_7_method_14_code
def yX5_goes : MethodName := ⟨RX5, "goes", "(I)V"⟩
abbrev cX5_isOn : ByteArray := prog_7_method_15_code
def yX5_isOn : MethodName := ⟨RX5, "isOn", "(I)Z"⟩
abbrev cX5_covers : ByteArray := prog_7_method_16_code
def yX5_covers : MethodName := ⟨RX5, "covers", "(II)Z"⟩
abbrev cX5_set : ByteArray := prog_7_method_17_code
def yX5_set : MethodName := ⟨RX5, "set", "(I)I"⟩
abbrev cX5_may : ByteArray := prog_7_method_18_code
def yX5_may : MethodName := ⟨RX5, "may", "(III)Z"⟩
abbrev cX5_mayAll : ByteArray := prog_7_method_19_code
def yX5_mayAll : MethodName := ⟨RX5, "mayAll", "(III)Z"⟩
abbrev cX5_mayMake : ByteArray := prog_7_method_20_code
def yX5_mayMake : MethodName := ⟨RX5, "mayMake", "(III)Z"⟩
abbrev cX5_makeCollection : ByteArray := prog_7_method_21_code
def yX5_makeCollection : MethodName := ⟨RX5, "makeCollection", "(III)I"⟩
abbrev cX5_puts : ByteArray := prog_7_method_22_code
def yX5_puts : MethodName := ⟨RX5, "puts", "(IIII)I"⟩
abbrev cX5_put : ByteArray := prog_7_method_23_code
def yX5_put : MethodName := ⟨RX5, "put", "(IIIII)I"⟩
abbrev cX5_delete : ByteArray := prog_7_method_24_code
def yX5_delete : MethodName := ⟨RX5, "delete", "(III)I"⟩
abbrev cX5_failures : ByteArray := prog_7_method_25_code
def yX5_failures : MethodName := ⟨RX5, "failures", "()I"⟩
abbrev cX5_failureAt : ByteArray := prog_7_method_26_code
def yX5_failureAt : MethodName := ⟨RX5, "failureAt", "(I)I"⟩
abbrev cX5_digits : ByteArray := prog_7_method_27_code
def yX5_digits : MethodName := ⟨RX5, "digits", "(I)I"⟩
abbrev cX5_power : ByteArray := prog_7_method_28_code
def yX5_power : MethodName := ⟨RX5, "power", "(II)I"⟩
abbrev cX5_brings : ByteArray := prog_7_method_29_code
def yX5_brings : MethodName := ⟨RX5, "brings", "(IIIZIZ)I"⟩
abbrev cX5_carries : ByteArray := prog_7_method_30_code
def yX5_carries : MethodName := ⟨RX5, "carries", "(IIZ)V"⟩
abbrev cX5_lowest : ByteArray := prog_7_method_31_code
def yX5_lowest : MethodName := ⟨RX5, "lowest", "()I"⟩
abbrev cX5_copy : ByteArray := prog_7_method_32_code
def yX5_copy : MethodName := ⟨RX5, "copy", "(IIIZI)I"⟩
abbrev cX5_move : ByteArray := prog_7_method_33_code
def yX5_move : MethodName := ⟨RX5, "move", "(IIIZI)I"⟩
abbrev cX5_asks : ByteArray := prog_7_method_34_code
def yX5_asks : MethodName := ⟨RX5, "asks", "(I)Z"⟩
abbrev cX5_kindOf : ByteArray := prog_7_method_35_code
def yX5_kindOf : MethodName := ⟨RX5, "kindOf", "(I)I"⟩
abbrev cX5_content : ByteArray := prog_7_method_36_code
def yX5_content : MethodName := ⟨RX5, "content", "(I)I"⟩
abbrev cX5_resources : ByteArray := prog_7_method_37_code
def yX5_resources : MethodName := ⟨RX5, "resources", "()I"⟩
abbrev cX5_isMember : ByteArray := prog_7_method_38_code
def yX5_isMember : MethodName := ⟨RX5, "isMember", "(II)Z"⟩
abbrev cX5_membersOf : ByteArray := prog_7_method_39_code
def yX5_membersOf : MethodName := ⟨RX5, "membersOf", "(I)I"⟩
abbrev cX5_members : ByteArray := prog_7_method_40_code
def yX5_members : MethodName := ⟨RX5, "members", "(I)I"⟩
abbrev cX5_memberOf : ByteArray := prog_7_method_41_code
def yX5_memberOf : MethodName := ⟨RX5, "memberOf", "(II)I"⟩
abbrev cX5_memberAt : ByteArray := prog_7_method_42_code
def yX5_memberAt : MethodName := ⟨RX5, "memberAt", "(II)I"⟩
abbrev cX5_order : ByteArray := prog_7_method_43_code
def yX5_order : MethodName := ⟨RX5, "order", "(IIII)I"⟩
abbrev cX5_clashes : ByteArray := prog_7_method_44_code
def yX5_clashes : MethodName := ⟨RX5, "clashes", "(IZZ)Z"⟩
abbrev cX5_lock : ByteArray := prog_7_method_45_code
def yX5_lock : MethodName := ⟨RX5, "lock", "(IIZZII)I"⟩
abbrev cX5_refresh : ByteArray := prog_7_method_46_code
def yX5_refresh : MethodName := ⟨RX5, "refresh", "(III)I"⟩
abbrev cX5_pass : ByteArray := prog_7_method_47_code
def yX5_pass : MethodName := ⟨RX5, "pass", "(I)I"⟩
abbrev cX5_covering : ByteArray := prog_7_method_48_code
def yX5_covering : MethodName := ⟨RX5, "covering", "(I)I"⟩
abbrev cX5_mayChange : ByteArray := prog_7_method_49_code
def yX5_mayChange : MethodName := ⟨RX5, "mayChange", "(III)Z"⟩
abbrev cX5_keep : ByteArray := prog_7_method_50_code
def yX5_keep : MethodName := ⟨RX5, "keep", "(I)I"⟩
abbrev cX5_restore : ByteArray := prog_7_method_51_code
def yX5_restore : MethodName := ⟨RX5, "restore", "(IIII)I"⟩
def RJ0 : String := "java/lang/String"
def TJ0 : u_T := fun k => match k with
  | _ => ("", "", "", false)
def tyJ0 : Nat → FieldType := fun k => match k with
  | _ => .int
abbrev wsJ00 : List Cond := u_ws RJ0 TJ0 0
theorem nmJ0 : ∀ a, a < 0 → ∀ b, b < 0 → a ≠ b → (TJ0 a).2.1 ≠ (TJ0 b).2.1 := by decide +kernel
theorem tyJ0_ok : ∀ k, k < 0 → parseFieldDescriptor (TJ0 k).2.2.1 = some (tyJ0 k) := by decide +kernel
def RL : String := "ShelfServerLaw"
abbrev cL_makeCollection : ByteArray := method_3_code
def yL_makeCollection : MethodName := ⟨RL, "makeCollection", "(LShelfServer;III[J)I"⟩
abbrev cL_put : ByteArray := method_4_code
def yL_put : MethodName := ⟨RL, "put", "(LShelfServer;IIIII[J)I"⟩
abbrev cL_delete : ByteArray := method_5_code
def yL_delete : MethodName := ⟨RL, "delete", "(LShelfServer;III[J)I"⟩
abbrev cL_failureAt : ByteArray := method_6_code
def yL_failureAt : MethodName := ⟨RL, "failureAt", "(LShelfServer;I[J)I"⟩
abbrev cL_copy : ByteArray := method_7_code
def yL_copy : MethodName := ⟨RL, "copy", "(LShelfServer;IIIZI[J)I"⟩
abbrev cL_move : ByteArray := method_8_code
def yL_move : MethodName := ⟨RL, "move", "(LShelfServer;IIIZI[J)I"⟩
abbrev cL_kindOf : ByteArray := method_9_code
def yL_kindOf : MethodName := ⟨RL, "kindOf", "(LShelfServer;I[J)I"⟩
abbrev cL_content : ByteArray := method_10_code
def yL_content : MethodName := ⟨RL, "content", "(LShelfServer;I[J)I"⟩
abbrev cL_members : ByteArray := method_11_code
def yL_members : MethodName := ⟨RL, "members", "(LShelfServer;I[J)I"⟩
abbrev cL_memberAt : ByteArray := method_12_code
def yL_memberAt : MethodName := ⟨RL, "memberAt", "(LShelfServer;II[J)I"⟩
abbrev cL_order : ByteArray := method_13_code
def yL_order : MethodName := ⟨RL, "order", "(LShelfServer;IIII[J)I"⟩
abbrev cL_lock : ByteArray := method_14_code
def yL_lock : MethodName := ⟨RL, "lock", "(LShelfServer;IIZZII[J)I"⟩
abbrev cL_refresh : ByteArray := method_15_code
def yL_refresh : MethodName := ⟨RL, "refresh", "(LShelfServer;III[J)I"⟩
abbrev cL_pass : ByteArray := method_16_code
def yL_pass : MethodName := ⟨RL, "pass", "(LShelfServer;I[J)I"⟩
abbrev cL_covering : ByteArray := method_17_code
def yL_covering : MethodName := ⟨RL, "covering", "(LShelfServer;I[J)I"⟩
abbrev cL_mayChange : ByteArray := method_18_code
def yL_mayChange : MethodName := ⟨RL, "mayChange", "(LShelfServer;III[J)I"⟩
abbrev cL_keep : ByteArray := method_19_code
def yL_keep : MethodName := ⟨RL, "keep", "(LShelfServer;I[J)I"⟩
abbrev cL_restore : ByteArray := method_20_code
def yL_restore : MethodName := ⟨RL, "restore", "(LShelfServer;IIII[J)I"⟩
abbrev cL_law : ByteArray := code
def yL_law : MethodName := ⟨RL, "law", "([I)Z"⟩
abbrev vwCl : List vw_C := [(RX0, TX0, 5), (RX1, TX1, 3), (RX2, TX2, 6), (RX3, TX3, 2), (RX4, TX4, 4), (RX5, TX5, 20)]
/-- all words of the tables that a call may pay with -/
def wsA : List Cond := lw_tbl.filter goodWord
theorem inA {w : Cond} {k : Nat} (h : lw_tbl[k]? = some w) (g : goodWord w = true) : w ∈ wsA := List.mem_filter.mpr ⟨List.mem_of_getElem? h, g⟩
theorem wsA_tbl {w : Cond} (h : w ∈ wsA) : w ∈ lw_tbl := (List.mem_filter.mp h).1
theorem goodA {ws : List Cond} (h : ∀ w ∈ ws, w ∈ wsA) : GoodIn wsA ws := fun w hw => ⟨h w hw, good_of_word (List.mem_filter.mp (h w hw)).2⟩
theorem inaX0 : ∀ w ∈ wsX00, w ∈ wsA := by decide +kernel
theorem inaX1 : ∀ w ∈ wsX10, w ∈ wsA := by decide +kernel
theorem inaX2 : ∀ w ∈ wsX20, w ∈ wsA := by decide +kernel
theorem inaX3 : ∀ w ∈ wsX30, w ∈ wsA := by decide +kernel
theorem inaX4 : ∀ w ∈ wsX40, w ∈ wsA := by decide +kernel
theorem inaX5 : ∀ w ∈ wsX50, w ∈ wsA := by decide +kernel
end
section
theorem dX0_init_0 : decode cX0_init 0 = .ok (.aload_n 0, 1) := by decide +kernel
theorem dX0_init_1 : decode cX0_init 1 = .ok (.invokespecial 1, 3) := by decide +kernel
theorem dX0_init_4 : decode cX0_init 4 = .ok (.return_, 1) := by decide +kernel
theorem dX0_covers_0 : decode cX0_covers 0 = .ok (.iload_n 1, 1) := by decide +kernel
theorem dX0_covers_1 : decode cX0_covers 1 = .ok (.aload_n 0, 1) := by decide +kernel
theorem dX0_covers_2 : decode cX0_covers 2 = .ok (.getfield 7, 3) := by decide +kernel
theorem dX0_covers_5 : decode cX0_covers 5 = .ok (.if_icmp .eq 21, 3) := by decide +kernel
theorem dX0_covers_8 : decode cX0_covers 8 = .ok (.aload_n 0, 1) := by decide +kernel
theorem dX0_covers_9 : decode cX0_covers 9 = .ok (.getfield 13, 3) := by decide +kernel
theorem dX0_covers_12 : decode cX0_covers 12 = .ok (.ifCond .eq 18, 3) := by decide +kernel
theorem dX0_covers_15 : decode cX0_covers 15 = .ok (.aload_n 0, 1) := by decide +kernel
theorem dX0_covers_16 : decode cX0_covers 16 = .ok (.getfield 7, 3) := by decide +kernel
theorem dX0_covers_19 : decode cX0_covers 19 = .ok (.iload_n 1, 1) := by decide +kernel
theorem dX0_covers_20 : decode cX0_covers 20 = .ok (.invokestatic 17, 3) := by decide +kernel
theorem dX0_covers_23 : decode cX0_covers 23 = .ok (.ifCond .eq 7, 3) := by decide +kernel
theorem dX0_covers_26 : decode cX0_covers 26 = .ok (.iconst 1, 1) := by decide +kernel
theorem dX0_covers_27 : decode cX0_covers 27 = .ok (.goto 4, 3) := by decide +kernel
theorem dX0_covers_30 : decode cX0_covers 30 = .ok (.iconst 0, 1) := by decide +kernel
theorem dX0_covers_31 : decode cX0_covers 31 = .ok (.ireturn, 1) := by decide +kernel
theorem dX1_init_0 : decode cX1_init 0 = .ok (.aload_n 0, 1) := by decide +kernel
theorem dX1_init_1 : decode cX1_init 1 = .ok (.invokespecial 3, 3) := by decide +kernel
theorem dX1_init_4 : decode cX1_init 4 = .ok (.aload_n 0, 1) := by decide +kernel
theorem dX1_init_5 : decode cX1_init 5 = .ok (.bipush 30, 2) := by decide +kernel
theorem dX1_init_7 : decode cX1_init 7 = .ok (.anewarray 9, 3) := by decide +kernel
theorem dX1_init_10 : decode cX1_init 10 = .ok (.putfield 11, 3) := by decide +kernel
theorem dX1_init_13 : decode cX1_init 13 = .ok (.iconst 0, 1) := by decide +kernel
theorem dX1_init_14 : decode cX1_init 14 = .ok (.istore_n 1, 1) := by decide +kernel
theorem dX1_init_15 : decode cX1_init 15 = .ok (.iload_n 1, 1) := by decide +kernel
theorem dX1_init_16 : decode cX1_init 16 = .ok (.aload_n 0, 1) := by decide +kernel
theorem dX1_init_17 : decode cX1_init 17 = .ok (.getfield 11, 3) := by decide +kernel
theorem dX1_init_20 : decode cX1_init 20 = .ok (.arraylength, 1) := by decide +kernel
theorem dX1_init_21 : decode cX1_init 21 = .ok (.if_icmp .ge 22, 3) := by decide +kernel
theorem dX1_init_24 : decode cX1_init 24 = .ok (.aload_n 0, 1) := by decide +kernel
theorem dX1_init_25 : decode cX1_init 25 = .ok (.getfield 11, 3) := by decide +kernel
theorem dX1_init_28 : decode cX1_init 28 = .ok (.iload_n 1, 1) := by decide +kernel
theorem dX1_init_29 : decode cX1_init 29 = .ok (.new 9, 3) := by decide +kernel
theorem dX1_init_32 : decode cX1_init 32 = .ok (.dup, 1) := by decide +kernel
theorem dX1_init_33 : decode cX1_init 33 = .ok (.invokespecial 17, 3) := by decide +kernel
theorem dX1_init_36 : decode cX1_init 36 = .ok (.aastore, 1) := by decide +kernel
theorem dX1_init_37 : decode cX1_init 37 = .ok (.iinc 1 1, 3) := by decide +kernel
theorem dX1_init_40 : decode cX1_init 40 = .ok (.goto (-25), 3) := by decide +kernel
theorem dX1_init_43 : decode cX1_init 43 = .ok (.aload_n 0, 1) := by decide +kernel
theorem dX1_init_44 : decode cX1_init 44 = .ok (.iconst 0, 1) := by decide +kernel
theorem dX1_init_45 : decode cX1_init 45 = .ok (.putfield 18, 3) := by decide +kernel
theorem dX1_init_48 : decode cX1_init 48 = .ok (.aload_n 0, 1) := by decide +kernel
theorem dX1_init_49 : decode cX1_init 49 = .ok (.iconst 0, 1) := by decide +kernel
theorem dX1_init_50 : decode cX1_init 50 = .ok (.putfield 22, 3) := by decide +kernel
theorem dX1_init_53 : decode cX1_init 53 = .ok (.return_, 1) := by decide +kernel
theorem dX1_find_0 : decode cX1_find 0 = .ok (.iload_n 1, 1) := by decide +kernel
theorem dX1_find_1 : decode cX1_find 1 = .ok (.ifCond .lt 20, 3) := by decide +kernel
theorem dX1_find_4 : decode cX1_find 4 = .ok (.iload_n 1, 1) := by decide +kernel
theorem dX1_find_5 : decode cX1_find 5 = .ok (.aload_n 0, 1) := by decide +kernel
theorem dX1_find_6 : decode cX1_find 6 = .ok (.getfield 18, 3) := by decide +kernel
theorem dX1_find_9 : decode cX1_find 9 = .ok (.if_icmp .ge 12, 3) := by decide +kernel
theorem dX1_find_12 : decode cX1_find 12 = .ok (.iload_n 1, 1) := by decide +kernel
theorem dX1_find_13 : decode cX1_find 13 = .ok (.aload_n 0, 1) := by decide +kernel
theorem dX1_find_14 : decode cX1_find 14 = .ok (.getfield 11, 3) := by decide +kernel
theorem dX1_find_17 : decode cX1_find 17 = .ok (.arraylength, 1) := by decide +kernel
theorem dX1_find_18 : decode cX1_find 18 = .ok (.if_icmp .lt 5, 3) := by decide +kernel
theorem dX1_find_21 : decode cX1_find 21 = .ok (.aconst_null, 1) := by decide +kernel
theorem dX1_find_22 : decode cX1_find 22 = .ok (.areturn, 1) := by decide +kernel
theorem dX1_find_23 : decode cX1_find 23 = .ok (.aload_n 0, 1) := by decide +kernel
theorem dX1_find_24 : decode cX1_find 24 = .ok (.getfield 11, 3) := by decide +kernel
theorem dX1_find_27 : decode cX1_find 27 = .ok (.iload_n 1, 1) := by decide +kernel
theorem dX1_find_28 : decode cX1_find 28 = .ok (.aaload, 1) := by decide +kernel
theorem dX1_find_29 : decode cX1_find 29 = .ok (.getfield 25, 3) := by decide +kernel
theorem dX1_find_32 : decode cX1_find 32 = .ok (.aload_n 0, 1) := by decide +kernel
theorem dX1_find_33 : decode cX1_find 33 = .ok (.getfield 22, 3) := by decide +kernel
theorem dX1_find_36 : decode cX1_find 36 = .ok (.if_icmp .le 12, 3) := by decide +kernel
theorem dX1_find_39 : decode cX1_find 39 = .ok (.aload_n 0, 1) := by decide +kernel
theorem dX1_find_40 : decode cX1_find 40 = .ok (.getfield 11, 3) := by decide +kernel
theorem dX1_find_43 : decode cX1_find 43 = .ok (.iload_n 1, 1) := by decide +kernel
theorem dX1_find_44 : decode cX1_find 44 = .ok (.aaload, 1) := by decide +kernel
theorem dX1_find_45 : decode cX1_find 45 = .ok (.goto 4, 3) := by decide +kernel
theorem dX1_find_48 : decode cX1_find 48 = .ok (.aconst_null, 1) := by decide +kernel
theorem dX1_find_49 : decode cX1_find 49 = .ok (.areturn, 1) := by decide +kernel
theorem dX1_tokensOver_0 : decode cX1_tokensOver 0 = .ok (.iconst 0, 1) := by decide +kernel
theorem dX1_tokensOver_1 : decode cX1_tokensOver 1 = .ok (.istore_n 2, 1) := by decide +kernel
theorem dX1_tokensOver_2 : decode cX1_tokensOver 2 = .ok (.iconst 0, 1) := by decide +kernel
theorem dX1_tokensOver_3 : decode cX1_tokensOver 3 = .ok (.istore_n 3, 1) := by decide +kernel
theorem dX1_tokensOver_4 : decode cX1_tokensOver 4 = .ok (.iload_n 3, 1) := by decide +kernel
theorem dX1_tokensOver_5 : decode cX1_tokensOver 5 = .ok (.aload_n 0, 1) := by decide +kernel
theorem dX1_tokensOver_6 : decode cX1_tokensOver 6 = .ok (.getfield 18, 3) := by decide +kernel
theorem dX1_tokensOver_9 : decode cX1_tokensOver 9 = .ok (.if_icmp .ge 36, 3) := by decide +kernel
theorem dX1_tokensOver_12 : decode cX1_tokensOver 12 = .ok (.aload_n 0, 1) := by decide +kernel
theorem dX1_tokensOver_13 : decode cX1_tokensOver 13 = .ok (.iload_n 3, 1) := by decide +kernel
theorem dX1_tokensOver_14 : decode cX1_tokensOver 14 = .ok (.invokevirtual 28, 3) := by decide +kernel
theorem dX1_tokensOver_17 : decode cX1_tokensOver 17 = .ok (.astore 4, 2) := by decide +kernel
theorem dX1_tokensOver_19 : decode cX1_tokensOver 19 = .ok (.aload 4, 2) := by decide +kernel
theorem dX1_tokensOver_21 : decode cX1_tokensOver 21 = .ok (.ifnull 18, 3) := by decide +kernel
theorem dX1_tokensOver_24 : decode cX1_tokensOver 24 = .ok (.aload 4, 2) := by decide +kernel
theorem dX1_tokensOver_26 : decode cX1_tokensOver 26 = .ok (.iload_n 1, 1) := by decide +kernel
theorem dX1_tokensOver_27 : decode cX1_tokensOver 27 = .ok (.invokevirtual 32, 3) := by decide +kernel
theorem dX1_tokensOver_30 : decode cX1_tokensOver 30 = .ok (.ifCond .eq 9, 3) := by decide +kernel
theorem dX1_tokensOver_33 : decode cX1_tokensOver 33 = .ok (.iload_n 2, 1) := by decide +kernel
theorem dX1_tokensOver_34 : decode cX1_tokensOver 34 = .ok (.iconst 1, 1) := by decide +kernel
theorem dX1_tokensOver_35 : decode cX1_tokensOver 35 = .ok (.iload_n 3, 1) := by decide +kernel
theorem dX1_tokensOver_36 : decode cX1_tokensOver 36 = .ok (.ishl, 1) := by decide +kernel
theorem dX1_tokensOver_37 : decode cX1_tokensOver 37 = .ok (.ior, 1) := by decide +kernel
theorem dX1_tokensOver_38 : decode cX1_tokensOver 38 = .ok (.istore_n 2, 1) := by decide +kernel
theorem dX1_tokensOver_39 : decode cX1_tokensOver 39 = .ok (.iinc 3 1, 3) := by decide +kernel
theorem dX1_tokensOver_42 : decode cX1_tokensOver 42 = .ok (.goto (-38), 3) := by decide +kernel
theorem dX1_tokensOver_45 : decode cX1_tokensOver 45 = .ok (.iload_n 2, 1) := by decide +kernel
theorem dX1_tokensOver_46 : decode cX1_tokensOver 46 = .ok (.ireturn, 1) := by decide +kernel
theorem dX1_allows_0 : decode cX1_allows 0 = .ok (.aload_n 0, 1) := by decide +kernel
theorem dX1_allows_1 : decode cX1_allows 1 = .ok (.iload_n 2, 1) := by decide +kernel
theorem dX1_allows_2 : decode cX1_allows 2 = .ok (.invokevirtual 36, 3) := by decide +kernel
theorem dX1_allows_5 : decode cX1_allows 5 = .ok (.istore 4, 2) := by decide +kernel
theorem dX1_allows_7 : decode cX1_allows 7 = .ok (.iload 4, 2) := by decide +kernel
theorem dX1_allows_9 : decode cX1_allows 9 = .ok (.ifCond .ne 5, 3) := by decide +kernel
theorem dX1_allows_12 : decode cX1_allows 12 = .ok (.iconst 1, 1) := by decide +kernel
theorem dX1_allows_13 : decode cX1_allows 13 = .ok (.ireturn, 1) := by decide +kernel
theorem dX1_allows_14 : decode cX1_allows 14 = .ok (.iload 4, 2) := by decide +kernel
theorem dX1_allows_16 : decode cX1_allows 16 = .ok (.iload_n 3, 1) := by decide +kernel
theorem dX1_allows_17 : decode cX1_allows 17 = .ok (.iand, 1) := by decide +kernel
theorem dX1_allows_18 : decode cX1_allows 18 = .ok (.istore 5, 2) := by decide +kernel
theorem dX1_allows_20 : decode cX1_allows 20 = .ok (.iconst 0, 1) := by decide +kernel
theorem dX1_allows_21 : decode cX1_allows 21 = .ok (.istore 6, 2) := by decide +kernel
theorem dX1_allows_23 : decode cX1_allows 23 = .ok (.iload 6, 2) := by decide +kernel
theorem dX1_allows_25 : decode cX1_allows 25 = .ok (.aload_n 0, 1) := by decide +kernel
theorem dX1_allows_26 : decode cX1_allows 26 = .ok (.getfield 18, 3) := by decide +kernel
theorem dX1_allows_29 : decode cX1_allows 29 = .ok (.if_icmp .ge 35, 3) := by decide +kernel
theorem dX1_allows_32 : decode cX1_allows 32 = .ok (.iload 5, 2) := by decide +kernel
theorem dX1_allows_34 : decode cX1_allows 34 = .ok (.iconst 1, 1) := by decide +kernel
theorem dX1_allows_35 : decode cX1_allows 35 = .ok (.iload 6, 2) := by decide +kernel
theorem dX1_allows_37 : decode cX1_allows 37 = .ok (.ishl, 1) := by decide +kernel
theorem dX1_allows_38 : decode cX1_allows 38 = .ok (.iand, 1) := by decide +kernel
theorem dX1_allows_39 : decode cX1_allows 39 = .ok (.ifCond .eq 19, 3) := by decide +kernel
theorem dX1_allows_42 : decode cX1_allows 42 = .ok (.aload_n 0, 1) := by decide +kernel
theorem dX1_allows_43 : decode cX1_allows 43 = .ok (.getfield 11, 3) := by decide +kernel
theorem dX1_allows_46 : decode cX1_allows 46 = .ok (.iload 6, 2) := by decide +kernel
theorem dX1_allows_48 : decode cX1_allows 48 = .ok (.aaload, 1) := by decide +kernel
theorem dX1_allows_49 : decode cX1_allows 49 = .ok (.getfield 40, 3) := by decide +kernel
theorem dX1_allows_52 : decode cX1_allows 52 = .ok (.iload_n 1, 1) := by decide +kernel
theorem dX1_allows_53 : decode cX1_allows 53 = .ok (.if_icmp .ne 5, 3) := by decide +kernel
theorem dX1_allows_56 : decode cX1_allows 56 = .ok (.iconst 1, 1) := by decide +kernel
theorem dX1_allows_57 : decode cX1_allows 57 = .ok (.ireturn, 1) := by decide +kernel
theorem dX1_allows_58 : decode cX1_allows 58 = .ok (.iinc 6 1, 3) := by decide +kernel
theorem dX1_allows_61 : decode cX1_allows 61 = .ok (.goto (-38), 3) := by decide +kernel
theorem dX1_allows_64 : decode cX1_allows 64 = .ok (.iconst 0, 1) := by decide +kernel
theorem dX1_allows_65 : decode cX1_allows 65 = .ok (.ireturn, 1) := by decide +kernel
theorem dX1_bar_0 : decode cX1_bar 0 = .ok (.iconst 0, 1) := by decide +kernel
theorem dX1_bar_1 : decode cX1_bar 1 = .ok (.istore 4, 2) := by decide +kernel
theorem dX1_bar_3 : decode cX1_bar 3 = .ok (.iload 4, 2) := by decide +kernel
theorem dX1_bar_5 : decode cX1_bar 5 = .ok (.aload_n 0, 1) := by decide +kernel
theorem dX1_bar_6 : decode cX1_bar 6 = .ok (.getfield 18, 3) := by decide +kernel
theorem dX1_bar_9 : decode cX1_bar 9 = .ok (.if_icmp .ge 61, 3) := by decide +kernel
theorem dX1_bar_12 : decode cX1_bar 12 = .ok (.aload_n 0, 1) := by decide +kernel
theorem dX1_bar_13 : decode cX1_bar 13 = .ok (.iload 4, 2) := by decide +kernel
theorem dX1_bar_15 : decode cX1_bar 15 = .ok (.invokevirtual 28, 3) := by decide +kernel
theorem dX1_bar_18 : decode cX1_bar 18 = .ok (.astore 5, 2) := by decide +kernel
theorem dX1_bar_20 : decode cX1_bar 20 = .ok (.aload 5, 2) := by decide +kernel
theorem dX1_bar_22 : decode cX1_bar 22 = .ok (.ifnull 42, 3) := by decide +kernel
theorem dX1_bar_25 : decode cX1_bar 25 = .ok (.iload_n 2, 1) := by decide +kernel
theorem dX1_bar_26 : decode cX1_bar 26 = .ok (.ifCond .eq 11, 3) := by decide +kernel
theorem dX1_bar_29 : decode cX1_bar 29 = .ok (.aload 5, 2) := by decide +kernel
theorem dX1_bar_31 : decode cX1_bar 31 = .ok (.getfield 43, 3) := by decide +kernel
theorem dX1_bar_34 : decode cX1_bar 34 = .ok (.ifCond .ne 30, 3) := by decide +kernel
theorem dX1_bar_37 : decode cX1_bar 37 = .ok (.aload 5, 2) := by decide +kernel
theorem dX1_bar_39 : decode cX1_bar 39 = .ok (.iload_n 1, 1) := by decide +kernel
theorem dX1_bar_40 : decode cX1_bar 40 = .ok (.invokevirtual 32, 3) := by decide +kernel
theorem dX1_bar_43 : decode cX1_bar 43 = .ok (.ifCond .ne 19, 3) := by decide +kernel
theorem dX1_bar_46 : decode cX1_bar 46 = .ok (.iload_n 3, 1) := by decide +kernel
theorem dX1_bar_47 : decode cX1_bar 47 = .ok (.ifCond .eq 17, 3) := by decide +kernel
theorem dX1_bar_50 : decode cX1_bar 50 = .ok (.iload_n 1, 1) := by decide +kernel
theorem dX1_bar_51 : decode cX1_bar 51 = .ok (.aload 5, 2) := by decide +kernel
theorem dX1_bar_53 : decode cX1_bar 53 = .ok (.getfield 47, 3) := by decide +kernel
theorem dX1_bar_56 : decode cX1_bar 56 = .ok (.invokestatic 50, 3) := by decide +kernel
theorem dX1_bar_59 : decode cX1_bar 59 = .ok (.ifCond .eq 5, 3) := by decide +kernel
theorem dX1_bar_62 : decode cX1_bar 62 = .ok (.iconst 1, 1) := by decide +kernel
theorem dX1_bar_63 : decode cX1_bar 63 = .ok (.ireturn, 1) := by decide +kernel
theorem dX1_bar_64 : decode cX1_bar 64 = .ok (.iinc 4 1, 3) := by decide +kernel
theorem dX1_bar_67 : decode cX1_bar 67 = .ok (.goto (-64), 3) := by decide +kernel
theorem dX1_bar_70 : decode cX1_bar 70 = .ok (.iconst 0, 1) := by decide +kernel
theorem dX1_bar_71 : decode cX1_bar 71 = .ok (.ireturn, 1) := by decide +kernel
theorem dX1_add_0 : decode cX1_add 0 = .ok (.aload_n 0, 1) := by decide +kernel
theorem dX1_add_1 : decode cX1_add 1 = .ok (.getfield 18, 3) := by decide +kernel
theorem dX1_add_4 : decode cX1_add 4 = .ok (.aload_n 0, 1) := by decide +kernel
theorem dX1_add_5 : decode cX1_add 5 = .ok (.getfield 11, 3) := by decide +kernel
theorem dX1_add_8 : decode cX1_add 8 = .ok (.arraylength, 1) := by decide +kernel
theorem dX1_add_9 : decode cX1_add 9 = .ok (.if_icmp .lt 5, 3) := by decide +kernel
theorem dX1_add_12 : decode cX1_add 12 = .ok (.iconst (-1), 1) := by decide +kernel
theorem dX1_add_13 : decode cX1_add 13 = .ok (.ireturn, 1) := by decide +kernel
theorem dX1_add_14 : decode cX1_add 14 = .ok (.aload_n 0, 1) := by decide +kernel
theorem dX1_add_15 : decode cX1_add 15 = .ok (.getfield 11, 3) := by decide +kernel
theorem dX1_add_18 : decode cX1_add 18 = .ok (.aload_n 0, 1) := by decide +kernel
theorem dX1_add_19 : decode cX1_add 19 = .ok (.getfield 18, 3) := by decide +kernel
theorem dX1_add_22 : decode cX1_add 22 = .ok (.aaload, 1) := by decide +kernel
theorem dX1_add_23 : decode cX1_add 23 = .ok (.astore 6, 2) := by decide +kernel
theorem dX1_add_25 : decode cX1_add 25 = .ok (.aload 6, 2) := by decide +kernel
theorem dX1_add_27 : decode cX1_add 27 = .ok (.iload_n 1, 1) := by decide +kernel
theorem dX1_add_28 : decode cX1_add 28 = .ok (.putfield 40, 3) := by decide +kernel
theorem dX1_add_31 : decode cX1_add 31 = .ok (.aload 6, 2) := by decide +kernel
theorem dX1_add_33 : decode cX1_add 33 = .ok (.iload_n 2, 1) := by decide +kernel
theorem dX1_add_34 : decode cX1_add 34 = .ok (.putfield 47, 3) := by decide +kernel
theorem dX1_add_37 : decode cX1_add 37 = .ok (.aload 6, 2) := by decide +kernel
theorem dX1_add_39 : decode cX1_add 39 = .ok (.iload_n 3, 1) := by decide +kernel
theorem dX1_add_40 : decode cX1_add 40 = .ok (.putfield 43, 3) := by decide +kernel
theorem dX1_add_43 : decode cX1_add 43 = .ok (.aload 6, 2) := by decide +kernel
theorem dX1_add_45 : decode cX1_add 45 = .ok (.iload 4, 2) := by decide +kernel
theorem dX1_add_47 : decode cX1_add 47 = .ok (.putfield 54, 3) := by decide +kernel
theorem dX1_add_50 : decode cX1_add 50 = .ok (.aload 6, 2) := by decide +kernel
theorem dX1_add_52 : decode cX1_add 52 = .ok (.aload_n 0, 1) := by decide +kernel
theorem dX1_add_53 : decode cX1_add 53 = .ok (.getfield 22, 3) := by decide +kernel
theorem dX1_add_56 : decode cX1_add 56 = .ok (.iload 5, 2) := by decide +kernel
theorem dX1_add_58 : decode cX1_add 58 = .ok (.iadd, 1) := by decide +kernel
theorem dX1_add_59 : decode cX1_add 59 = .ok (.putfield 25, 3) := by decide +kernel
theorem dX1_add_62 : decode cX1_add 62 = .ok (.aload_n 0, 1) := by decide +kernel
theorem dX1_add_63 : decode cX1_add 63 = .ok (.dup, 1) := by decide +kernel
theorem dX1_add_64 : decode cX1_add 64 = .ok (.getfield 18, 3) := by decide +kernel
theorem dX1_add_67 : decode cX1_add 67 = .ok (.iconst 1, 1) := by decide +kernel
theorem dX1_add_68 : decode cX1_add 68 = .ok (.iadd, 1) := by decide +kernel
theorem dX1_add_69 : decode cX1_add 69 = .ok (.putfield 18, 3) := by decide +kernel
theorem dX1_add_72 : decode cX1_add 72 = .ok (.aload_n 0, 1) := by decide +kernel
theorem dX1_add_73 : decode cX1_add 73 = .ok (.getfield 18, 3) := by decide +kernel
theorem dX1_add_76 : decode cX1_add 76 = .ok (.iconst 1, 1) := by decide +kernel
theorem dX1_add_77 : decode cX1_add 77 = .ok (.isub, 1) := by decide +kernel
theorem dX1_add_78 : decode cX1_add 78 = .ok (.ireturn, 1) := by decide +kernel
theorem dX1_dropAt_0 : decode cX1_dropAt 0 = .ok (.iconst 0, 1) := by decide +kernel
theorem dX1_dropAt_1 : decode cX1_dropAt 1 = .ok (.istore_n 2, 1) := by decide +kernel
theorem dX1_dropAt_2 : decode cX1_dropAt 2 = .ok (.iload_n 2, 1) := by decide +kernel
theorem dX1_dropAt_3 : decode cX1_dropAt 3 = .ok (.aload_n 0, 1) := by decide +kernel
theorem dX1_dropAt_4 : decode cX1_dropAt 4 = .ok (.getfield 18, 3) := by decide +kernel
theorem dX1_dropAt_7 : decode cX1_dropAt 7 = .ok (.if_icmp .ge 35, 3) := by decide +kernel
theorem dX1_dropAt_10 : decode cX1_dropAt 10 = .ok (.aload_n 0, 1) := by decide +kernel
theorem dX1_dropAt_11 : decode cX1_dropAt 11 = .ok (.iload_n 2, 1) := by decide +kernel
theorem dX1_dropAt_12 : decode cX1_dropAt 12 = .ok (.invokevirtual 28, 3) := by decide +kernel
theorem dX1_dropAt_15 : decode cX1_dropAt 15 = .ok (.astore_n 3, 1) := by decide +kernel
theorem dX1_dropAt_16 : decode cX1_dropAt 16 = .ok (.aload_n 3, 1) := by decide +kernel
theorem dX1_dropAt_17 : decode cX1_dropAt 17 = .ok (.ifnull 19, 3) := by decide +kernel
theorem dX1_dropAt_20 : decode cX1_dropAt 20 = .ok (.aload_n 3, 1) := by decide +kernel
theorem dX1_dropAt_21 : decode cX1_dropAt 21 = .ok (.getfield 47, 3) := by decide +kernel
theorem dX1_dropAt_24 : decode cX1_dropAt 24 = .ok (.iload_n 1, 1) := by decide +kernel
theorem dX1_dropAt_25 : decode cX1_dropAt 25 = .ok (.if_icmp .ne 11, 3) := by decide +kernel
theorem dX1_dropAt_28 : decode cX1_dropAt 28 = .ok (.aload_n 3, 1) := by decide +kernel
theorem dX1_dropAt_29 : decode cX1_dropAt 29 = .ok (.aload_n 0, 1) := by decide +kernel
theorem dX1_dropAt_30 : decode cX1_dropAt 30 = .ok (.getfield 22, 3) := by decide +kernel
theorem dX1_dropAt_33 : decode cX1_dropAt 33 = .ok (.putfield 25, 3) := by decide +kernel
theorem dX1_dropAt_36 : decode cX1_dropAt 36 = .ok (.iinc 2 1, 3) := by decide +kernel
theorem dX1_dropAt_39 : decode cX1_dropAt 39 = .ok (.goto (-37), 3) := by decide +kernel
theorem dX1_dropAt_42 : decode cX1_dropAt 42 = .ok (.return_, 1) := by decide +kernel
theorem dX1_advance_0 : decode cX1_advance 0 = .ok (.aload_n 0, 1) := by decide +kernel
theorem dX1_advance_1 : decode cX1_advance 1 = .ok (.getfield 22, 3) := by decide +kernel
theorem dX1_advance_4 : decode cX1_advance 4 = .ok (.iload_n 1, 1) := by decide +kernel
theorem dX1_advance_5 : decode cX1_advance 5 = .ok (.iadd, 1) := by decide +kernel
theorem dX1_advance_6 : decode cX1_advance 6 = .ok (.istore_n 2, 1) := by decide +kernel
theorem dX1_advance_7 : decode cX1_advance 7 = .ok (.iconst 0, 1) := by decide +kernel
theorem dX1_advance_8 : decode cX1_advance 8 = .ok (.istore_n 3, 1) := by decide +kernel
theorem dX1_advance_9 : decode cX1_advance 9 = .ok (.iconst 0, 1) := by decide +kernel
theorem dX1_advance_10 : decode cX1_advance 10 = .ok (.istore 4, 2) := by decide +kernel
theorem dX1_advance_12 : decode cX1_advance 12 = .ok (.iload 4, 2) := by decide +kernel
theorem dX1_advance_14 : decode cX1_advance 14 = .ok (.aload_n 0, 1) := by decide +kernel
theorem dX1_advance_15 : decode cX1_advance 15 = .ok (.getfield 18, 3) := by decide +kernel
theorem dX1_advance_18 : decode cX1_advance 18 = .ok (.if_icmp .ge 34, 3) := by decide +kernel
theorem dX1_advance_21 : decode cX1_advance 21 = .ok (.aload_n 0, 1) := by decide +kernel
theorem dX1_advance_22 : decode cX1_advance 22 = .ok (.iload 4, 2) := by decide +kernel
theorem dX1_advance_24 : decode cX1_advance 24 = .ok (.invokevirtual 28, 3) := by decide +kernel
theorem dX1_advance_27 : decode cX1_advance 27 = .ok (.astore 5, 2) := by decide +kernel
theorem dX1_advance_29 : decode cX1_advance 29 = .ok (.aload 5, 2) := by decide +kernel
theorem dX1_advance_31 : decode cX1_advance 31 = .ok (.ifnull 15, 3) := by decide +kernel
theorem dX1_advance_34 : decode cX1_advance 34 = .ok (.aload 5, 2) := by decide +kernel
theorem dX1_advance_36 : decode cX1_advance 36 = .ok (.getfield 25, 3) := by decide +kernel
theorem dX1_advance_39 : decode cX1_advance 39 = .ok (.iload_n 2, 1) := by decide +kernel
theorem dX1_advance_40 : decode cX1_advance 40 = .ok (.if_icmp .gt 6, 3) := by decide +kernel
theorem dX1_advance_43 : decode cX1_advance 43 = .ok (.iinc 3 1, 3) := by decide +kernel
theorem dX1_advance_46 : decode cX1_advance 46 = .ok (.iinc 4 1, 3) := by decide +kernel
theorem dX1_advance_49 : decode cX1_advance 49 = .ok (.goto (-37), 3) := by decide +kernel
theorem dX1_advance_52 : decode cX1_advance 52 = .ok (.aload_n 0, 1) := by decide +kernel
theorem dX1_advance_53 : decode cX1_advance 53 = .ok (.iload_n 2, 1) := by decide +kernel
theorem dX1_advance_54 : decode cX1_advance 54 = .ok (.putfield 22, 3) := by decide +kernel
theorem dX1_advance_57 : decode cX1_advance 57 = .ok (.iload_n 3, 1) := by decide +kernel
theorem dX1_advance_58 : decode cX1_advance 58 = .ok (.ireturn, 1) := by decide +kernel
theorem dX2_init_0 : decode cX2_init 0 = .ok (.aload_n 0, 1) := by decide +kernel
theorem dX2_init_1 : decode cX2_init 1 = .ok (.invokespecial 3, 3) := by decide +kernel
theorem dX2_init_4 : decode cX2_init 4 = .ok (.aload_n 0, 1) := by decide +kernel
theorem dX2_init_5 : decode cX2_init 5 = .ok (.bipush 10, 2) := by decide +kernel
theorem dX2_init_7 : decode cX2_init 7 = .ok (.newarray .int, 2) := by decide +kernel
theorem dX2_init_9 : decode cX2_init 9 = .ok (.putfield 9, 3) := by decide +kernel
theorem dX2_init_12 : decode cX2_init 12 = .ok (.return_, 1) := by decide +kernel
theorem dX2_begin_0 : decode cX2_begin 0 = .ok (.aload_n 0, 1) := by decide +kernel
theorem dX2_begin_1 : decode cX2_begin 1 = .ok (.iload_n 1, 1) := by decide +kernel
theorem dX2_begin_2 : decode cX2_begin 2 = .ok (.putfield 15, 3) := by decide +kernel
theorem dX2_begin_5 : decode cX2_begin 5 = .ok (.aload_n 0, 1) := by decide +kernel
theorem dX2_begin_6 : decode cX2_begin 6 = .ok (.iload_n 2, 1) := by decide +kernel
theorem dX2_begin_7 : decode cX2_begin 7 = .ok (.putfield 19, 3) := by decide +kernel
theorem dX2_begin_10 : decode cX2_begin 10 = .ok (.aload_n 0, 1) := by decide +kernel
theorem dX2_begin_11 : decode cX2_begin 11 = .ok (.iload_n 3, 1) := by decide +kernel
theorem dX2_begin_12 : decode cX2_begin 12 = .ok (.putfield 22, 3) := by decide +kernel
theorem dX2_begin_15 : decode cX2_begin 15 = .ok (.aload_n 0, 1) := by decide +kernel
theorem dX2_begin_16 : decode cX2_begin 16 = .ok (.iconst 0, 1) := by decide +kernel
theorem dX2_begin_17 : decode cX2_begin 17 = .ok (.putfield 25, 3) := by decide +kernel
theorem dX2_begin_20 : decode cX2_begin 20 = .ok (.aload_n 0, 1) := by decide +kernel
theorem dX2_begin_21 : decode cX2_begin 21 = .ok (.iconst 0, 1) := by decide +kernel
theorem dX2_begin_22 : decode cX2_begin 22 = .ok (.putfield 29, 3) := by decide +kernel
theorem dX2_begin_25 : decode cX2_begin 25 = .ok (.return_, 1) := by decide +kernel
theorem dX2_hasVersion_0 : decode cX2_hasVersion 0 = .ok (.iload_n 1, 1) := by decide +kernel
theorem dX2_hasVersion_1 : decode cX2_hasVersion 1 = .ok (.ifCond .lt 24, 3) := by decide +kernel
theorem dX2_hasVersion_4 : decode cX2_hasVersion 4 = .ok (.iload_n 1, 1) := by decide +kernel
theorem dX2_hasVersion_5 : decode cX2_hasVersion 5 = .ok (.aload_n 0, 1) := by decide +kernel
theorem dX2_hasVersion_6 : decode cX2_hasVersion 6 = .ok (.getfield 29, 3) := by decide +kernel
theorem dX2_hasVersion_9 : decode cX2_hasVersion 9 = .ok (.if_icmp .ge 16, 3) := by decide +kernel
theorem dX2_hasVersion_12 : decode cX2_hasVersion 12 = .ok (.iload_n 1, 1) := by decide +kernel
theorem dX2_hasVersion_13 : decode cX2_hasVersion 13 = .ok (.aload_n 0, 1) := by decide +kernel
theorem dX2_hasVersion_14 : decode cX2_hasVersion 14 = .ok (.getfield 9, 3) := by decide +kernel
theorem dX2_hasVersion_17 : decode cX2_hasVersion 17 = .ok (.arraylength, 1) := by decide +kernel
theorem dX2_hasVersion_18 : decode cX2_hasVersion 18 = .ok (.if_icmp .ge 7, 3) := by decide +kernel
theorem dX2_hasVersion_21 : decode cX2_hasVersion 21 = .ok (.iconst 1, 1) := by decide +kernel
theorem dX2_hasVersion_22 : decode cX2_hasVersion 22 = .ok (.goto 4, 3) := by decide +kernel
theorem dX2_hasVersion_25 : decode cX2_hasVersion 25 = .ok (.iconst 0, 1) := by decide +kernel
theorem dX2_hasVersion_26 : decode cX2_hasVersion 26 = .ok (.ireturn, 1) := by decide +kernel
theorem dX2_addVersion_0 : decode cX2_addVersion 0 = .ok (.aload_n 0, 1) := by decide +kernel
theorem dX2_addVersion_1 : decode cX2_addVersion 1 = .ok (.getfield 29, 3) := by decide +kernel
theorem dX2_addVersion_4 : decode cX2_addVersion 4 = .ok (.aload_n 0, 1) := by decide +kernel
theorem dX2_addVersion_5 : decode cX2_addVersion 5 = .ok (.getfield 9, 3) := by decide +kernel
theorem dX2_addVersion_8 : decode cX2_addVersion 8 = .ok (.arraylength, 1) := by decide +kernel
theorem dX2_addVersion_9 : decode cX2_addVersion 9 = .ok (.if_icmp .lt 5, 3) := by decide +kernel
theorem dX2_addVersion_12 : decode cX2_addVersion 12 = .ok (.iconst (-1), 1) := by decide +kernel
theorem dX2_addVersion_13 : decode cX2_addVersion 13 = .ok (.ireturn, 1) := by decide +kernel
theorem dX2_addVersion_14 : decode cX2_addVersion 14 = .ok (.aload_n 0, 1) := by decide +kernel
theorem dX2_addVersion_15 : decode cX2_addVersion 15 = .ok (.getfield 9, 3) := by decide +kernel
theorem dX2_addVersion_18 : decode cX2_addVersion 18 = .ok (.aload_n 0, 1) := by decide +kernel
theorem dX2_addVersion_19 : decode cX2_addVersion 19 = .ok (.getfield 29, 3) := by decide +kernel
theorem dX2_addVersion_22 : decode cX2_addVersion 22 = .ok (.aload_n 0, 1) := by decide +kernel
theorem dX2_addVersion_23 : decode cX2_addVersion 23 = .ok (.getfield 22, 3) := by decide +kernel
theorem dX2_addVersion_26 : decode cX2_addVersion 26 = .ok (.iastore, 1) := by decide +kernel
theorem dX2_addVersion_27 : decode cX2_addVersion 27 = .ok (.aload_n 0, 1) := by decide +kernel
theorem dX2_addVersion_28 : decode cX2_addVersion 28 = .ok (.dup, 1) := by decide +kernel
theorem dX2_addVersion_29 : decode cX2_addVersion 29 = .ok (.getfield 29, 3) := by decide +kernel
theorem dX2_addVersion_32 : decode cX2_addVersion 32 = .ok (.iconst 1, 1) := by decide +kernel
theorem dX2_addVersion_33 : decode cX2_addVersion 33 = .ok (.iadd, 1) := by decide +kernel
theorem dX2_addVersion_34 : decode cX2_addVersion 34 = .ok (.putfield 29, 3) := by decide +kernel
theorem dX2_addVersion_37 : decode cX2_addVersion 37 = .ok (.aload_n 0, 1) := by decide +kernel
theorem dX2_addVersion_38 : decode cX2_addVersion 38 = .ok (.getfield 29, 3) := by decide +kernel
theorem dX2_addVersion_41 : decode cX2_addVersion 41 = .ok (.iconst 1, 1) := by decide +kernel
theorem dX2_addVersion_42 : decode cX2_addVersion 42 = .ok (.isub, 1) := by decide +kernel
theorem dX2_addVersion_43 : decode cX2_addVersion 43 = .ok (.ireturn, 1) := by decide +kernel
theorem dX2_takeVersion_0 : decode cX2_takeVersion 0 = .ok (.aload_n 0, 1) := by decide +kernel
theorem dX2_takeVersion_1 : decode cX2_takeVersion 1 = .ok (.iload_n 1, 1) := by decide +kernel
theorem dX2_takeVersion_2 : decode cX2_takeVersion 2 = .ok (.invokevirtual 32, 3) := by decide +kernel
theorem dX2_takeVersion_5 : decode cX2_takeVersion 5 = .ok (.ifCond .eq 13, 3) := by decide +kernel
theorem dX2_takeVersion_8 : decode cX2_takeVersion 8 = .ok (.aload_n 0, 1) := by decide +kernel
theorem dX2_takeVersion_9 : decode cX2_takeVersion 9 = .ok (.aload_n 0, 1) := by decide +kernel
theorem dX2_takeVersion_10 : decode cX2_takeVersion 10 = .ok (.getfield 9, 3) := by decide +kernel
theorem dX2_takeVersion_13 : decode cX2_takeVersion 13 = .ok (.iload_n 1, 1) := by decide +kernel
theorem dX2_takeVersion_14 : decode cX2_takeVersion 14 = .ok (.iaload, 1) := by decide +kernel
theorem dX2_takeVersion_15 : decode cX2_takeVersion 15 = .ok (.putfield 22, 3) := by decide +kernel
theorem dX2_takeVersion_18 : decode cX2_takeVersion 18 = .ok (.return_, 1) := by decide +kernel
theorem dX3_init_0 : decode cX3_init 0 = .ok (.aload_n 0, 1) := by decide +kernel
theorem dX3_init_1 : decode cX3_init 1 = .ok (.invokespecial 3, 3) := by decide +kernel
theorem dX3_init_4 : decode cX3_init 4 = .ok (.aload_n 0, 1) := by decide +kernel
theorem dX3_init_5 : decode cX3_init 5 = .ok (.bipush 60, 2) := by decide +kernel
theorem dX3_init_7 : decode cX3_init 7 = .ok (.anewarray 9, 3) := by decide +kernel
theorem dX3_init_10 : decode cX3_init 10 = .ok (.putfield 11, 3) := by decide +kernel
theorem dX3_init_13 : decode cX3_init 13 = .ok (.iconst 0, 1) := by decide +kernel
theorem dX3_init_14 : decode cX3_init 14 = .ok (.istore_n 1, 1) := by decide +kernel
theorem dX3_init_15 : decode cX3_init 15 = .ok (.iload_n 1, 1) := by decide +kernel
theorem dX3_init_16 : decode cX3_init 16 = .ok (.aload_n 0, 1) := by decide +kernel
theorem dX3_init_17 : decode cX3_init 17 = .ok (.getfield 11, 3) := by decide +kernel
theorem dX3_init_20 : decode cX3_init 20 = .ok (.arraylength, 1) := by decide +kernel
theorem dX3_init_21 : decode cX3_init 21 = .ok (.if_icmp .ge 22, 3) := by decide +kernel
theorem dX3_init_24 : decode cX3_init 24 = .ok (.aload_n 0, 1) := by decide +kernel
theorem dX3_init_25 : decode cX3_init 25 = .ok (.getfield 11, 3) := by decide +kernel
theorem dX3_init_28 : decode cX3_init 28 = .ok (.iload_n 1, 1) := by decide +kernel
theorem dX3_init_29 : decode cX3_init 29 = .ok (.new 9, 3) := by decide +kernel
theorem dX3_init_32 : decode cX3_init 32 = .ok (.dup, 1) := by decide +kernel
theorem dX3_init_33 : decode cX3_init 33 = .ok (.invokespecial 17, 3) := by decide +kernel
theorem dX3_init_36 : decode cX3_init 36 = .ok (.aastore, 1) := by decide +kernel
theorem dX3_init_37 : decode cX3_init 37 = .ok (.iinc 1 1, 3) := by decide +kernel
theorem dX3_init_40 : decode cX3_init 40 = .ok (.goto (-25), 3) := by decide +kernel
theorem dX3_init_43 : decode cX3_init 43 = .ok (.aload_n 0, 1) := by decide +kernel
theorem dX3_init_44 : decode cX3_init 44 = .ok (.iconst 0, 1) := by decide +kernel
theorem dX3_init_45 : decode cX3_init 45 = .ok (.putfield 18, 3) := by decide +kernel
theorem dX3_init_48 : decode cX3_init 48 = .ok (.return_, 1) := by decide +kernel
theorem dX3_indexOf_0 : decode cX3_indexOf 0 = .ok (.iconst 0, 1) := by decide +kernel
theorem dX3_indexOf_1 : decode cX3_indexOf 1 = .ok (.istore_n 2, 1) := by decide +kernel
theorem dX3_indexOf_2 : decode cX3_indexOf 2 = .ok (.iload_n 2, 1) := by decide +kernel
theorem dX3_indexOf_3 : decode cX3_indexOf 3 = .ok (.aload_n 0, 1) := by decide +kernel
theorem dX3_indexOf_4 : decode cX3_indexOf 4 = .ok (.getfield 18, 3) := by decide +kernel
theorem dX3_indexOf_7 : decode cX3_indexOf 7 = .ok (.if_icmp .ge 24, 3) := by decide +kernel
theorem dX3_indexOf_10 : decode cX3_indexOf 10 = .ok (.aload_n 0, 1) := by decide +kernel
theorem dX3_indexOf_11 : decode cX3_indexOf 11 = .ok (.getfield 11, 3) := by decide +kernel
theorem dX3_indexOf_14 : decode cX3_indexOf 14 = .ok (.iload_n 2, 1) := by decide +kernel
theorem dX3_indexOf_15 : decode cX3_indexOf 15 = .ok (.aaload, 1) := by decide +kernel
theorem dX3_indexOf_16 : decode cX3_indexOf 16 = .ok (.getfield 22, 3) := by decide +kernel
theorem dX3_indexOf_19 : decode cX3_indexOf 19 = .ok (.iload_n 1, 1) := by decide +kernel
theorem dX3_indexOf_20 : decode cX3_indexOf 20 = .ok (.if_icmp .ne 5, 3) := by decide +kernel
theorem dX3_indexOf_23 : decode cX3_indexOf 23 = .ok (.iload_n 2, 1) := by decide +kernel
theorem dX3_indexOf_24 : decode cX3_indexOf 24 = .ok (.ireturn, 1) := by decide +kernel
theorem dX3_indexOf_25 : decode cX3_indexOf 25 = .ok (.iinc 2 1, 3) := by decide +kernel
theorem dX3_indexOf_28 : decode cX3_indexOf 28 = .ok (.goto (-26), 3) := by decide +kernel
theorem dX3_indexOf_31 : decode cX3_indexOf 31 = .ok (.iconst (-1), 1) := by decide +kernel
theorem dX3_indexOf_32 : decode cX3_indexOf 32 = .ok (.ireturn, 1) := by decide +kernel
theorem dX3_find_0 : decode cX3_find 0 = .ok (.aload_n 0, 1) := by decide +kernel
theorem dX3_find_1 : decode cX3_find 1 = .ok (.iload_n 1, 1) := by decide +kernel
theorem dX3_find_2 : decode cX3_find 2 = .ok (.invokevirtual 25, 3) := by decide +kernel
theorem dX3_find_5 : decode cX3_find 5 = .ok (.istore_n 2, 1) := by decide +kernel
theorem dX3_find_6 : decode cX3_find 6 = .ok (.iload_n 2, 1) := by decide +kernel
theorem dX3_find_7 : decode cX3_find 7 = .ok (.ifCond .ge 7, 3) := by decide +kernel
theorem dX3_find_10 : decode cX3_find 10 = .ok (.aconst_null, 1) := by decide +kernel
theorem dX3_find_11 : decode cX3_find 11 = .ok (.goto 9, 3) := by decide +kernel
theorem dX3_find_14 : decode cX3_find 14 = .ok (.aload_n 0, 1) := by decide +kernel
theorem dX3_find_15 : decode cX3_find 15 = .ok (.getfield 11, 3) := by decide +kernel
theorem dX3_find_18 : decode cX3_find 18 = .ok (.iload_n 2, 1) := by decide +kernel
theorem dX3_find_19 : decode cX3_find 19 = .ok (.aaload, 1) := by decide +kernel
theorem dX3_find_20 : decode cX3_find 20 = .ok (.areturn, 1) := by decide +kernel
theorem dX3_findFile_0 : decode cX3_findFile 0 = .ok (.aload_n 0, 1) := by decide +kernel
theorem dX3_findFile_1 : decode cX3_findFile 1 = .ok (.iload_n 1, 1) := by decide +kernel
theorem dX3_findFile_2 : decode cX3_findFile 2 = .ok (.invokevirtual 29, 3) := by decide +kernel
theorem dX3_findFile_5 : decode cX3_findFile 5 = .ok (.astore_n 2, 1) := by decide +kernel
theorem dX3_findFile_6 : decode cX3_findFile 6 = .ok (.aload_n 2, 1) := by decide +kernel
theorem dX3_findFile_7 : decode cX3_findFile 7 = .ok (.ifnull 11, 3) := by decide +kernel
theorem dX3_findFile_10 : decode cX3_findFile 10 = .ok (.aload_n 2, 1) := by decide +kernel
theorem dX3_findFile_11 : decode cX3_findFile 11 = .ok (.getfield 33, 3) := by decide +kernel
theorem dX3_findFile_14 : decode cX3_findFile 14 = .ok (.iconst 1, 1) := by decide +kernel
theorem dX3_findFile_15 : decode cX3_findFile 15 = .ok (.if_icmp .eq 7, 3) := by decide +kernel
theorem dX3_findFile_18 : decode cX3_findFile 18 = .ok (.aconst_null, 1) := by decide +kernel
theorem dX3_findFile_19 : decode cX3_findFile 19 = .ok (.goto 4, 3) := by decide +kernel
theorem dX3_findFile_22 : decode cX3_findFile 22 = .ok (.aload_n 2, 1) := by decide +kernel
theorem dX3_findFile_23 : decode cX3_findFile 23 = .ok (.areturn, 1) := by decide +kernel
theorem dX3_kindAt_0 : decode cX3_kindAt 0 = .ok (.iload_n 1, 1) := by decide +kernel
theorem dX3_kindAt_1 : decode cX3_kindAt 1 = .ok (.ifCond .ne 5, 3) := by decide +kernel
theorem dX3_kindAt_4 : decode cX3_kindAt 4 = .ok (.iconst 2, 1) := by decide +kernel
theorem dX3_kindAt_5 : decode cX3_kindAt 5 = .ok (.ireturn, 1) := by decide +kernel
theorem dX3_kindAt_6 : decode cX3_kindAt 6 = .ok (.aload_n 0, 1) := by decide +kernel
theorem dX3_kindAt_7 : decode cX3_kindAt 7 = .ok (.iload_n 1, 1) := by decide +kernel
theorem dX3_kindAt_8 : decode cX3_kindAt 8 = .ok (.invokevirtual 29, 3) := by decide +kernel
theorem dX3_kindAt_11 : decode cX3_kindAt 11 = .ok (.astore_n 2, 1) := by decide +kernel
theorem dX3_kindAt_12 : decode cX3_kindAt 12 = .ok (.aload_n 2, 1) := by decide +kernel
theorem dX3_kindAt_13 : decode cX3_kindAt 13 = .ok (.ifnonnull 7, 3) := by decide +kernel
theorem dX3_kindAt_16 : decode cX3_kindAt 16 = .ok (.iconst (-1), 1) := by decide +kernel
theorem dX3_kindAt_17 : decode cX3_kindAt 17 = .ok (.goto 7, 3) := by decide +kernel
theorem dX3_kindAt_20 : decode cX3_kindAt 20 = .ok (.aload_n 2, 1) := by decide +kernel
theorem dX3_kindAt_21 : decode cX3_kindAt 21 = .ok (.getfield 33, 3) := by decide +kernel
theorem dX3_kindAt_24 : decode cX3_kindAt 24 = .ok (.ireturn, 1) := by decide +kernel
theorem dX3_isCollection_0 : decode cX3_isCollection 0 = .ok (.aload_n 0, 1) := by decide +kernel
theorem dX3_isCollection_1 : decode cX3_isCollection 1 = .ok (.iload_n 1, 1) := by decide +kernel
theorem dX3_isCollection_2 : decode cX3_isCollection 2 = .ok (.invokevirtual 36, 3) := by decide +kernel
theorem dX3_isCollection_5 : decode cX3_isCollection 5 = .ok (.iconst 2, 1) := by decide +kernel
theorem dX3_isCollection_6 : decode cX3_isCollection 6 = .ok (.if_icmp .ne 7, 3) := by decide +kernel
theorem dX3_isCollection_9 : decode cX3_isCollection 9 = .ok (.iconst 1, 1) := by decide +kernel
theorem dX3_isCollection_10 : decode cX3_isCollection 10 = .ok (.goto 4, 3) := by decide +kernel
theorem dX3_isCollection_13 : decode cX3_isCollection 13 = .ok (.iconst 0, 1) := by decide +kernel
theorem dX3_isCollection_14 : decode cX3_isCollection 14 = .ok (.ireturn, 1) := by decide +kernel
theorem dX3_append_0 : decode cX3_append 0 = .ok (.aload_n 0, 1) := by decide +kernel
theorem dX3_append_1 : decode cX3_append 1 = .ok (.getfield 18, 3) := by decide +kernel
theorem dX3_append_4 : decode cX3_append 4 = .ok (.aload_n 0, 1) := by decide +kernel
theorem dX3_append_5 : decode cX3_append 5 = .ok (.getfield 11, 3) := by decide +kernel
theorem dX3_append_8 : decode cX3_append 8 = .ok (.arraylength, 1) := by decide +kernel
theorem dX3_append_9 : decode cX3_append 9 = .ok (.if_icmp .lt 4, 3) := by decide +kernel
theorem dX3_append_12 : decode cX3_append 12 = .ok (.return_, 1) := by decide +kernel
theorem dX3_append_13 : decode cX3_append 13 = .ok (.aload_n 0, 1) := by decide +kernel
theorem dX3_append_14 : decode cX3_append 14 = .ok (.getfield 11, 3) := by decide +kernel
theorem dX3_append_17 : decode cX3_append 17 = .ok (.aload_n 0, 1) := by decide +kernel
theorem dX3_append_18 : decode cX3_append 18 = .ok (.getfield 18, 3) := by decide +kernel
theorem dX3_append_21 : decode cX3_append 21 = .ok (.aaload, 1) := by decide +kernel
theorem dX3_append_22 : decode cX3_append 22 = .ok (.iload_n 1, 1) := by decide +kernel
theorem dX3_append_23 : decode cX3_append 23 = .ok (.iload_n 2, 1) := by decide +kernel
theorem dX3_append_24 : decode cX3_append 24 = .ok (.iload_n 3, 1) := by decide +kernel
theorem dX3_append_25 : decode cX3_append 25 = .ok (.invokevirtual 39, 3) := by decide +kernel
theorem dX3_append_28 : decode cX3_append 28 = .ok (.aload_n 0, 1) := by decide +kernel
theorem dX3_append_29 : decode cX3_append 29 = .ok (.dup, 1) := by decide +kernel
theorem dX3_append_30 : decode cX3_append 30 = .ok (.getfield 18, 3) := by decide +kernel
theorem dX3_append_33 : decode cX3_append 33 = .ok (.iconst 1, 1) := by decide +kernel
theorem dX3_append_34 : decode cX3_append 34 = .ok (.iadd, 1) := by decide +kernel
theorem dX3_append_35 : decode cX3_append 35 = .ok (.putfield 18, 3) := by decide +kernel
theorem dX3_append_38 : decode cX3_append 38 = .ok (.return_, 1) := by decide +kernel
theorem dX3_treeSize_0 : decode cX3_treeSize 0 = .ok (.iconst 0, 1) := by decide +kernel
theorem dX3_treeSize_1 : decode cX3_treeSize 1 = .ok (.istore_n 2, 1) := by decide +kernel
theorem dX3_treeSize_2 : decode cX3_treeSize 2 = .ok (.iconst 0, 1) := by decide +kernel
theorem dX3_treeSize_3 : decode cX3_treeSize 3 = .ok (.istore_n 3, 1) := by decide +kernel
theorem dX3_treeSize_4 : decode cX3_treeSize 4 = .ok (.iload_n 3, 1) := by decide +kernel
theorem dX3_treeSize_5 : decode cX3_treeSize 5 = .ok (.aload_n 0, 1) := by decide +kernel
theorem dX3_treeSize_6 : decode cX3_treeSize 6 = .ok (.getfield 18, 3) := by decide +kernel
theorem dX3_treeSize_9 : decode cX3_treeSize 9 = .ok (.if_icmp .ge 28, 3) := by decide +kernel
theorem dX3_treeSize_12 : decode cX3_treeSize 12 = .ok (.iload_n 1, 1) := by decide +kernel
theorem dX3_treeSize_13 : decode cX3_treeSize 13 = .ok (.aload_n 0, 1) := by decide +kernel
theorem dX3_treeSize_14 : decode cX3_treeSize 14 = .ok (.getfield 11, 3) := by decide +kernel
theorem dX3_treeSize_17 : decode cX3_treeSize 17 = .ok (.iload_n 3, 1) := by decide +kernel
theorem dX3_treeSize_18 : decode cX3_treeSize 18 = .ok (.aaload, 1) := by decide +kernel
theorem dX3_treeSize_19 : decode cX3_treeSize 19 = .ok (.getfield 22, 3) := by decide +kernel
theorem dX3_treeSize_22 : decode cX3_treeSize 22 = .ok (.invokestatic 43, 3) := by decide +kernel
theorem dX3_treeSize_25 : decode cX3_treeSize 25 = .ok (.ifCond .eq 6, 3) := by decide +kernel
theorem dX3_treeSize_28 : decode cX3_treeSize 28 = .ok (.iinc 2 1, 3) := by decide +kernel
theorem dX3_treeSize_31 : decode cX3_treeSize 31 = .ok (.iinc 3 1, 3) := by decide +kernel
theorem dX3_treeSize_34 : decode cX3_treeSize 34 = .ok (.goto (-30), 3) := by decide +kernel
theorem dX3_treeSize_37 : decode cX3_treeSize 37 = .ok (.iload_n 2, 1) := by decide +kernel
theorem dX3_treeSize_38 : decode cX3_treeSize 38 = .ok (.ireturn, 1) := by decide +kernel
theorem dX3_fits_0 : decode cX3_fits 0 = .ok (.iconst 0, 1) := by decide +kernel
theorem dX3_fits_1 : decode cX3_fits 1 = .ok (.istore_n 3, 1) := by decide +kernel
theorem dX3_fits_2 : decode cX3_fits 2 = .ok (.iload_n 3, 1) := by decide +kernel
theorem dX3_fits_3 : decode cX3_fits 3 = .ok (.aload_n 0, 1) := by decide +kernel
theorem dX3_fits_4 : decode cX3_fits 4 = .ok (.getfield 18, 3) := by decide +kernel
theorem dX3_fits_7 : decode cX3_fits 7 = .ok (.if_icmp .ge 47, 3) := by decide +kernel
theorem dX3_fits_10 : decode cX3_fits 10 = .ok (.iload_n 1, 1) := by decide +kernel
theorem dX3_fits_11 : decode cX3_fits 11 = .ok (.aload_n 0, 1) := by decide +kernel
theorem dX3_fits_12 : decode cX3_fits 12 = .ok (.getfield 11, 3) := by decide +kernel
theorem dX3_fits_15 : decode cX3_fits 15 = .ok (.iload_n 3, 1) := by decide +kernel
theorem dX3_fits_16 : decode cX3_fits 16 = .ok (.aaload, 1) := by decide +kernel
theorem dX3_fits_17 : decode cX3_fits 17 = .ok (.getfield 22, 3) := by decide +kernel
theorem dX3_fits_20 : decode cX3_fits 20 = .ok (.invokestatic 43, 3) := by decide +kernel
theorem dX3_fits_23 : decode cX3_fits 23 = .ok (.ifCond .eq 25, 3) := by decide +kernel
theorem dX3_fits_26 : decode cX3_fits 26 = .ok (.aload_n 0, 1) := by decide +kernel
theorem dX3_fits_27 : decode cX3_fits 27 = .ok (.getfield 11, 3) := by decide +kernel
theorem dX3_fits_30 : decode cX3_fits 30 = .ok (.iload_n 3, 1) := by decide +kernel
theorem dX3_fits_31 : decode cX3_fits 31 = .ok (.aaload, 1) := by decide +kernel
theorem dX3_fits_32 : decode cX3_fits 32 = .ok (.getfield 22, 3) := by decide +kernel
theorem dX3_fits_35 : decode cX3_fits 35 = .ok (.iload_n 1, 1) := by decide +kernel
theorem dX3_fits_36 : decode cX3_fits 36 = .ok (.iload_n 2, 1) := by decide +kernel
theorem dX3_fits_37 : decode cX3_fits 37 = .ok (.invokestatic 47, 3) := by decide +kernel
theorem dX3_fits_40 : decode cX3_fits 40 = .ok (.sipush 9999, 3) := by decide +kernel
theorem dX3_fits_43 : decode cX3_fits 43 = .ok (.if_icmp .le 5, 3) := by decide +kernel
theorem dX3_fits_46 : decode cX3_fits 46 = .ok (.iconst 0, 1) := by decide +kernel
theorem dX3_fits_47 : decode cX3_fits 47 = .ok (.ireturn, 1) := by decide +kernel
theorem dX3_fits_48 : decode cX3_fits 48 = .ok (.iinc 3 1, 3) := by decide +kernel
theorem dX3_fits_51 : decode cX3_fits 51 = .ok (.goto (-49), 3) := by decide +kernel
theorem dX3_fits_54 : decode cX3_fits 54 = .ok (.iconst 1, 1) := by decide +kernel
theorem dX3_fits_55 : decode cX3_fits 55 = .ok (.ireturn, 1) := by decide +kernel
theorem dX3_appendCopyOfTree_0 : decode cX3_appendCopyOfTree 0 = .ok (.aload_n 0, 1) := by decide +kernel
theorem dX3_appendCopyOfTree_1 : decode cX3_appendCopyOfTree 1 = .ok (.getfield 18, 3) := by decide +kernel
theorem dX3_appendCopyOfTree_4 : decode cX3_appendCopyOfTree 4 = .ok (.istore_n 3, 1) := by decide +kernel
theorem dX3_appendCopyOfTree_5 : decode cX3_appendCopyOfTree 5 = .ok (.iconst 0, 1) := by decide +kernel
theorem dX3_appendCopyOfTree_6 : decode cX3_appendCopyOfTree 6 = .ok (.istore 4, 2) := by decide +kernel
theorem dX3_appendCopyOfTree_8 : decode cX3_appendCopyOfTree 8 = .ok (.iload 4, 2) := by decide +kernel
theorem dX3_appendCopyOfTree_10 : decode cX3_appendCopyOfTree 10 = .ok (.iload_n 3, 1) := by decide +kernel
theorem dX3_appendCopyOfTree_11 : decode cX3_appendCopyOfTree 11 = .ok (.if_icmp .ge 54, 3) := by decide +kernel
theorem dX3_appendCopyOfTree_14 : decode cX3_appendCopyOfTree 14 = .ok (.aload_n 0, 1) := by decide +kernel
theorem dX3_appendCopyOfTree_15 : decode cX3_appendCopyOfTree 15 = .ok (.getfield 11, 3) := by decide +kernel
theorem dX3_appendCopyOfTree_18 : decode cX3_appendCopyOfTree 18 = .ok (.iload 4, 2) := by decide +kernel
theorem dX3_appendCopyOfTree_20 : decode cX3_appendCopyOfTree 20 = .ok (.aaload, 1) := by decide +kernel
theorem dX3_appendCopyOfTree_21 : decode cX3_appendCopyOfTree 21 = .ok (.astore 5, 2) := by decide +kernel
theorem dX3_appendCopyOfTree_23 : decode cX3_appendCopyOfTree 23 = .ok (.iload_n 1, 1) := by decide +kernel
theorem dX3_appendCopyOfTree_24 : decode cX3_appendCopyOfTree 24 = .ok (.aload 5, 2) := by decide +kernel
theorem dX3_appendCopyOfTree_26 : decode cX3_appendCopyOfTree 26 = .ok (.getfield 22, 3) := by decide +kernel
theorem dX3_appendCopyOfTree_29 : decode cX3_appendCopyOfTree 29 = .ok (.invokestatic 43, 3) := by decide +kernel
theorem dX3_appendCopyOfTree_32 : decode cX3_appendCopyOfTree 32 = .ok (.ifCond .eq 27, 3) := by decide +kernel
theorem dX3_appendCopyOfTree_35 : decode cX3_appendCopyOfTree 35 = .ok (.aload_n 0, 1) := by decide +kernel
theorem dX3_appendCopyOfTree_36 : decode cX3_appendCopyOfTree 36 = .ok (.aload 5, 2) := by decide +kernel
theorem dX3_appendCopyOfTree_38 : decode cX3_appendCopyOfTree 38 = .ok (.getfield 22, 3) := by decide +kernel
theorem dX3_appendCopyOfTree_41 : decode cX3_appendCopyOfTree 41 = .ok (.iload_n 1, 1) := by decide +kernel
theorem dX3_appendCopyOfTree_42 : decode cX3_appendCopyOfTree 42 = .ok (.iload_n 2, 1) := by decide +kernel
theorem dX3_appendCopyOfTree_43 : decode cX3_appendCopyOfTree 43 = .ok (.invokestatic 47, 3) := by decide +kernel
theorem dX3_appendCopyOfTree_46 : decode cX3_appendCopyOfTree 46 = .ok (.aload 5, 2) := by decide +kernel
theorem dX3_appendCopyOfTree_48 : decode cX3_appendCopyOfTree 48 = .ok (.getfield 33, 3) := by decide +kernel
theorem dX3_appendCopyOfTree_51 : decode cX3_appendCopyOfTree 51 = .ok (.aload 5, 2) := by decide +kernel
theorem dX3_appendCopyOfTree_53 : decode cX3_appendCopyOfTree 53 = .ok (.getfield 51, 3) := by decide +kernel
theorem dX3_appendCopyOfTree_56 : decode cX3_appendCopyOfTree 56 = .ok (.invokevirtual 54, 3) := by decide +kernel
theorem dX3_appendCopyOfTree_59 : decode cX3_appendCopyOfTree 59 = .ok (.iinc 4 1, 3) := by decide +kernel
theorem dX3_appendCopyOfTree_62 : decode cX3_appendCopyOfTree 62 = .ok (.goto (-54), 3) := by decide +kernel
theorem dX3_appendCopyOfTree_65 : decode cX3_appendCopyOfTree 65 = .ok (.return_, 1) := by decide +kernel
theorem dX3_renameTree_0 : decode cX3_renameTree 0 = .ok (.iconst 0, 1) := by decide +kernel
theorem dX3_renameTree_1 : decode cX3_renameTree 1 = .ok (.istore_n 3, 1) := by decide +kernel
theorem dX3_renameTree_2 : decode cX3_renameTree 2 = .ok (.iload_n 3, 1) := by decide +kernel
theorem dX3_renameTree_3 : decode cX3_renameTree 3 = .ok (.aload_n 0, 1) := by decide +kernel
theorem dX3_renameTree_4 : decode cX3_renameTree 4 = .ok (.getfield 18, 3) := by decide +kernel
theorem dX3_renameTree_7 : decode cX3_renameTree 7 = .ok (.if_icmp .ge 48, 3) := by decide +kernel
theorem dX3_renameTree_10 : decode cX3_renameTree 10 = .ok (.iload_n 1, 1) := by decide +kernel
theorem dX3_renameTree_11 : decode cX3_renameTree 11 = .ok (.aload_n 0, 1) := by decide +kernel
theorem dX3_renameTree_12 : decode cX3_renameTree 12 = .ok (.getfield 11, 3) := by decide +kernel
theorem dX3_renameTree_15 : decode cX3_renameTree 15 = .ok (.iload_n 3, 1) := by decide +kernel
theorem dX3_renameTree_16 : decode cX3_renameTree 16 = .ok (.aaload, 1) := by decide +kernel
theorem dX3_renameTree_17 : decode cX3_renameTree 17 = .ok (.getfield 22, 3) := by decide +kernel
theorem dX3_renameTree_20 : decode cX3_renameTree 20 = .ok (.invokestatic 43, 3) := by decide +kernel
theorem dX3_renameTree_23 : decode cX3_renameTree 23 = .ok (.ifCond .eq 26, 3) := by decide +kernel
theorem dX3_renameTree_26 : decode cX3_renameTree 26 = .ok (.aload_n 0, 1) := by decide +kernel
theorem dX3_renameTree_27 : decode cX3_renameTree 27 = .ok (.getfield 11, 3) := by decide +kernel
theorem dX3_renameTree_30 : decode cX3_renameTree 30 = .ok (.iload_n 3, 1) := by decide +kernel
theorem dX3_renameTree_31 : decode cX3_renameTree 31 = .ok (.aaload, 1) := by decide +kernel
theorem dX3_renameTree_32 : decode cX3_renameTree 32 = .ok (.aload_n 0, 1) := by decide +kernel
theorem dX3_renameTree_33 : decode cX3_renameTree 33 = .ok (.getfield 11, 3) := by decide +kernel
theorem dX3_renameTree_36 : decode cX3_renameTree 36 = .ok (.iload_n 3, 1) := by decide +kernel
theorem dX3_renameTree_37 : decode cX3_renameTree 37 = .ok (.aaload, 1) := by decide +kernel
theorem dX3_renameTree_38 : decode cX3_renameTree 38 = .ok (.getfield 22, 3) := by decide +kernel
theorem dX3_renameTree_41 : decode cX3_renameTree 41 = .ok (.iload_n 1, 1) := by decide +kernel
theorem dX3_renameTree_42 : decode cX3_renameTree 42 = .ok (.iload_n 2, 1) := by decide +kernel
theorem dX3_renameTree_43 : decode cX3_renameTree 43 = .ok (.invokestatic 47, 3) := by decide +kernel
theorem dX3_renameTree_46 : decode cX3_renameTree 46 = .ok (.putfield 22, 3) := by decide +kernel
theorem dX3_renameTree_49 : decode cX3_renameTree 49 = .ok (.iinc 3 1, 3) := by decide +kernel
theorem dX3_renameTree_52 : decode cX3_renameTree 52 = .ok (.goto (-50), 3) := by decide +kernel
theorem dX3_renameTree_55 : decode cX3_renameTree 55 = .ok (.aload_n 0, 1) := by decide +kernel
theorem dX3_renameTree_56 : decode cX3_renameTree 56 = .ok (.iload_n 2, 1) := by decide +kernel
theorem dX3_renameTree_57 : decode cX3_renameTree 57 = .ok (.aload_n 0, 1) := by decide +kernel
theorem dX3_renameTree_58 : decode cX3_renameTree 58 = .ok (.getfield 18, 3) := by decide +kernel
theorem dX3_renameTree_61 : decode cX3_renameTree 61 = .ok (.invokevirtual 57, 3) := by decide +kernel
theorem dX3_renameTree_64 : decode cX3_renameTree 64 = .ok (.return_, 1) := by decide +kernel
theorem dX3_markTree_0 : decode cX3_markTree 0 = .ok (.iconst 0, 1) := by decide +kernel
theorem dX3_markTree_1 : decode cX3_markTree 1 = .ok (.istore_n 2, 1) := by decide +kernel
theorem dX3_markTree_2 : decode cX3_markTree 2 = .ok (.iload_n 2, 1) := by decide +kernel
theorem dX3_markTree_3 : decode cX3_markTree 3 = .ok (.aload_n 0, 1) := by decide +kernel
theorem dX3_markTree_4 : decode cX3_markTree 4 = .ok (.getfield 18, 3) := by decide +kernel
theorem dX3_markTree_7 : decode cX3_markTree 7 = .ok (.if_icmp .ge 31, 3) := by decide +kernel
theorem dX3_markTree_10 : decode cX3_markTree 10 = .ok (.aload_n 0, 1) := by decide +kernel
theorem dX3_markTree_11 : decode cX3_markTree 11 = .ok (.getfield 11, 3) := by decide +kernel
theorem dX3_markTree_14 : decode cX3_markTree 14 = .ok (.iload_n 2, 1) := by decide +kernel
theorem dX3_markTree_15 : decode cX3_markTree 15 = .ok (.aaload, 1) := by decide +kernel
theorem dX3_markTree_16 : decode cX3_markTree 16 = .ok (.iload_n 1, 1) := by decide +kernel
theorem dX3_markTree_17 : decode cX3_markTree 17 = .ok (.aload_n 0, 1) := by decide +kernel
theorem dX3_markTree_18 : decode cX3_markTree 18 = .ok (.getfield 11, 3) := by decide +kernel
theorem dX3_markTree_21 : decode cX3_markTree 21 = .ok (.iload_n 2, 1) := by decide +kernel
theorem dX3_markTree_22 : decode cX3_markTree 22 = .ok (.aaload, 1) := by decide +kernel
theorem dX3_markTree_23 : decode cX3_markTree 23 = .ok (.getfield 22, 3) := by decide +kernel
theorem dX3_markTree_26 : decode cX3_markTree 26 = .ok (.invokestatic 43, 3) := by decide +kernel
theorem dX3_markTree_29 : decode cX3_markTree 29 = .ok (.putfield 61, 3) := by decide +kernel
theorem dX3_markTree_32 : decode cX3_markTree 32 = .ok (.iinc 2 1, 3) := by decide +kernel
theorem dX3_markTree_35 : decode cX3_markTree 35 = .ok (.goto (-33), 3) := by decide +kernel
theorem dX3_markTree_38 : decode cX3_markTree 38 = .ok (.return_, 1) := by decide +kernel
theorem dX3_spareUpFrom_0 : decode cX3_spareUpFrom 0 = .ok (.iconst 0, 1) := by decide +kernel
theorem dX3_spareUpFrom_1 : decode cX3_spareUpFrom 1 = .ok (.istore_n 2, 1) := by decide +kernel
theorem dX3_spareUpFrom_2 : decode cX3_spareUpFrom 2 = .ok (.iload_n 2, 1) := by decide +kernel
theorem dX3_spareUpFrom_3 : decode cX3_spareUpFrom 3 = .ok (.aload_n 0, 1) := by decide +kernel
theorem dX3_spareUpFrom_4 : decode cX3_spareUpFrom 4 = .ok (.getfield 18, 3) := by decide +kernel
theorem dX3_spareUpFrom_7 : decode cX3_spareUpFrom 7 = .ok (.if_icmp .ge 35, 3) := by decide +kernel
theorem dX3_spareUpFrom_10 : decode cX3_spareUpFrom 10 = .ok (.aload_n 0, 1) := by decide +kernel
theorem dX3_spareUpFrom_11 : decode cX3_spareUpFrom 11 = .ok (.getfield 11, 3) := by decide +kernel
theorem dX3_spareUpFrom_14 : decode cX3_spareUpFrom 14 = .ok (.iload_n 2, 1) := by decide +kernel
theorem dX3_spareUpFrom_15 : decode cX3_spareUpFrom 15 = .ok (.aaload, 1) := by decide +kernel
theorem dX3_spareUpFrom_16 : decode cX3_spareUpFrom 16 = .ok (.getfield 22, 3) := by decide +kernel
theorem dX3_spareUpFrom_19 : decode cX3_spareUpFrom 19 = .ok (.iload_n 1, 1) := by decide +kernel
theorem dX3_spareUpFrom_20 : decode cX3_spareUpFrom 20 = .ok (.invokestatic 43, 3) := by decide +kernel
theorem dX3_spareUpFrom_23 : decode cX3_spareUpFrom 23 = .ok (.ifCond .eq 13, 3) := by decide +kernel
theorem dX3_spareUpFrom_26 : decode cX3_spareUpFrom 26 = .ok (.aload_n 0, 1) := by decide +kernel
theorem dX3_spareUpFrom_27 : decode cX3_spareUpFrom 27 = .ok (.getfield 11, 3) := by decide +kernel
theorem dX3_spareUpFrom_30 : decode cX3_spareUpFrom 30 = .ok (.iload_n 2, 1) := by decide +kernel
theorem dX3_spareUpFrom_31 : decode cX3_spareUpFrom 31 = .ok (.aaload, 1) := by decide +kernel
theorem dX3_spareUpFrom_32 : decode cX3_spareUpFrom 32 = .ok (.iconst 0, 1) := by decide +kernel
theorem dX3_spareUpFrom_33 : decode cX3_spareUpFrom 33 = .ok (.putfield 61, 3) := by decide +kernel
theorem dX3_spareUpFrom_36 : decode cX3_spareUpFrom 36 = .ok (.iinc 2 1, 3) := by decide +kernel
theorem dX3_spareUpFrom_39 : decode cX3_spareUpFrom 39 = .ok (.goto (-37), 3) := by decide +kernel
theorem dX3_spareUpFrom_42 : decode cX3_spareUpFrom 42 = .ok (.return_, 1) := by decide +kernel
theorem dX3_removeMarked_0 : decode cX3_removeMarked 0 = .ok (.iconst 0, 1) := by decide +kernel
theorem dX3_removeMarked_1 : decode cX3_removeMarked 1 = .ok (.istore_n 1, 1) := by decide +kernel
theorem dX3_removeMarked_2 : decode cX3_removeMarked 2 = .ok (.iconst 0, 1) := by decide +kernel
theorem dX3_removeMarked_3 : decode cX3_removeMarked 3 = .ok (.istore_n 2, 1) := by decide +kernel
theorem dX3_removeMarked_4 : decode cX3_removeMarked 4 = .ok (.iload_n 2, 1) := by decide +kernel
theorem dX3_removeMarked_5 : decode cX3_removeMarked 5 = .ok (.aload_n 0, 1) := by decide +kernel
theorem dX3_removeMarked_6 : decode cX3_removeMarked 6 = .ok (.getfield 18, 3) := by decide +kernel
theorem dX3_removeMarked_9 : decode cX3_removeMarked 9 = .ok (.if_icmp .ge 45, 3) := by decide +kernel
theorem dX3_removeMarked_12 : decode cX3_removeMarked 12 = .ok (.aload_n 0, 1) := by decide +kernel
theorem dX3_removeMarked_13 : decode cX3_removeMarked 13 = .ok (.getfield 11, 3) := by decide +kernel
theorem dX3_removeMarked_16 : decode cX3_removeMarked 16 = .ok (.iload_n 2, 1) := by decide +kernel
theorem dX3_removeMarked_17 : decode cX3_removeMarked 17 = .ok (.aaload, 1) := by decide +kernel
theorem dX3_removeMarked_18 : decode cX3_removeMarked 18 = .ok (.astore_n 3, 1) := by decide +kernel
theorem dX3_removeMarked_19 : decode cX3_removeMarked 19 = .ok (.aload_n 3, 1) := by decide +kernel
theorem dX3_removeMarked_20 : decode cX3_removeMarked 20 = .ok (.getfield 61, 3) := by decide +kernel
theorem dX3_removeMarked_23 : decode cX3_removeMarked 23 = .ok (.ifCond .ne 25, 3) := by decide +kernel
theorem dX3_removeMarked_26 : decode cX3_removeMarked 26 = .ok (.aload_n 0, 1) := by decide +kernel
theorem dX3_removeMarked_27 : decode cX3_removeMarked 27 = .ok (.getfield 11, 3) := by decide +kernel
theorem dX3_removeMarked_30 : decode cX3_removeMarked 30 = .ok (.iload_n 2, 1) := by decide +kernel
theorem dX3_removeMarked_31 : decode cX3_removeMarked 31 = .ok (.aload_n 0, 1) := by decide +kernel
theorem dX3_removeMarked_32 : decode cX3_removeMarked 32 = .ok (.getfield 11, 3) := by decide +kernel
theorem dX3_removeMarked_35 : decode cX3_removeMarked 35 = .ok (.iload_n 1, 1) := by decide +kernel
theorem dX3_removeMarked_36 : decode cX3_removeMarked 36 = .ok (.aaload, 1) := by decide +kernel
theorem dX3_removeMarked_37 : decode cX3_removeMarked 37 = .ok (.aastore, 1) := by decide +kernel
theorem dX3_removeMarked_38 : decode cX3_removeMarked 38 = .ok (.aload_n 0, 1) := by decide +kernel
theorem dX3_removeMarked_39 : decode cX3_removeMarked 39 = .ok (.getfield 11, 3) := by decide +kernel
theorem dX3_removeMarked_42 : decode cX3_removeMarked 42 = .ok (.iload_n 1, 1) := by decide +kernel
theorem dX3_removeMarked_43 : decode cX3_removeMarked 43 = .ok (.aload_n 3, 1) := by decide +kernel
theorem dX3_removeMarked_44 : decode cX3_removeMarked 44 = .ok (.aastore, 1) := by decide +kernel
theorem dX3_removeMarked_45 : decode cX3_removeMarked 45 = .ok (.iinc 1 1, 3) := by decide +kernel
theorem dX3_removeMarked_48 : decode cX3_removeMarked 48 = .ok (.iinc 2 1, 3) := by decide +kernel
theorem dX3_removeMarked_51 : decode cX3_removeMarked 51 = .ok (.goto (-47), 3) := by decide +kernel
theorem dX3_removeMarked_54 : decode cX3_removeMarked 54 = .ok (.aload_n 0, 1) := by decide +kernel
theorem dX3_removeMarked_55 : decode cX3_removeMarked 55 = .ok (.iload_n 1, 1) := by decide +kernel
theorem dX3_removeMarked_56 : decode cX3_removeMarked 56 = .ok (.putfield 18, 3) := by decide +kernel
theorem dX3_removeMarked_59 : decode cX3_removeMarked 59 = .ok (.return_, 1) := by decide +kernel
theorem dX3_memberCount_0 : decode cX3_memberCount 0 = .ok (.iconst 0, 1) := by decide +kernel
theorem dX3_memberCount_1 : decode cX3_memberCount 1 = .ok (.istore_n 2, 1) := by decide +kernel
theorem dX3_memberCount_2 : decode cX3_memberCount 2 = .ok (.iconst 0, 1) := by decide +kernel
theorem dX3_memberCount_3 : decode cX3_memberCount 3 = .ok (.istore_n 3, 1) := by decide +kernel
theorem dX3_memberCount_4 : decode cX3_memberCount 4 = .ok (.iload_n 3, 1) := by decide +kernel
theorem dX3_memberCount_5 : decode cX3_memberCount 5 = .ok (.aload_n 0, 1) := by decide +kernel
theorem dX3_memberCount_6 : decode cX3_memberCount 6 = .ok (.getfield 18, 3) := by decide +kernel
theorem dX3_memberCount_9 : decode cX3_memberCount 9 = .ok (.if_icmp .ge 28, 3) := by decide +kernel
theorem dX3_memberCount_12 : decode cX3_memberCount 12 = .ok (.aload_n 0, 1) := by decide +kernel
theorem dX3_memberCount_13 : decode cX3_memberCount 13 = .ok (.getfield 11, 3) := by decide +kernel
theorem dX3_memberCount_16 : decode cX3_memberCount 16 = .ok (.iload_n 3, 1) := by decide +kernel
theorem dX3_memberCount_17 : decode cX3_memberCount 17 = .ok (.aaload, 1) := by decide +kernel
theorem dX3_memberCount_18 : decode cX3_memberCount 18 = .ok (.getfield 22, 3) := by decide +kernel
theorem dX3_memberCount_21 : decode cX3_memberCount 21 = .ok (.invokestatic 65, 3) := by decide +kernel
theorem dX3_memberCount_24 : decode cX3_memberCount 24 = .ok (.iload_n 1, 1) := by decide +kernel
theorem dX3_memberCount_25 : decode cX3_memberCount 25 = .ok (.if_icmp .ne 6, 3) := by decide +kernel
theorem dX3_memberCount_28 : decode cX3_memberCount 28 = .ok (.iinc 2 1, 3) := by decide +kernel
theorem dX3_memberCount_31 : decode cX3_memberCount 31 = .ok (.iinc 3 1, 3) := by decide +kernel
theorem dX3_memberCount_34 : decode cX3_memberCount 34 = .ok (.goto (-30), 3) := by decide +kernel
theorem dX3_memberCount_37 : decode cX3_memberCount 37 = .ok (.iload_n 2, 1) := by decide +kernel
theorem dX3_memberCount_38 : decode cX3_memberCount 38 = .ok (.ireturn, 1) := by decide +kernel
theorem dX3_memberIndex_0 : decode cX3_memberIndex 0 = .ok (.iconst 0, 1) := by decide +kernel
theorem dX3_memberIndex_1 : decode cX3_memberIndex 1 = .ok (.istore_n 3, 1) := by decide +kernel
theorem dX3_memberIndex_2 : decode cX3_memberIndex 2 = .ok (.iconst 0, 1) := by decide +kernel
theorem dX3_memberIndex_3 : decode cX3_memberIndex 3 = .ok (.istore 4, 2) := by decide +kernel
theorem dX3_memberIndex_5 : decode cX3_memberIndex 5 = .ok (.iload 4, 2) := by decide +kernel
theorem dX3_memberIndex_7 : decode cX3_memberIndex 7 = .ok (.aload_n 0, 1) := by decide +kernel
theorem dX3_memberIndex_8 : decode cX3_memberIndex 8 = .ok (.getfield 18, 3) := by decide +kernel
theorem dX3_memberIndex_11 : decode cX3_memberIndex 11 = .ok (.if_icmp .ge 37, 3) := by decide +kernel
theorem dX3_memberIndex_14 : decode cX3_memberIndex 14 = .ok (.aload_n 0, 1) := by decide +kernel
theorem dX3_memberIndex_15 : decode cX3_memberIndex 15 = .ok (.getfield 11, 3) := by decide +kernel
theorem dX3_memberIndex_18 : decode cX3_memberIndex 18 = .ok (.iload 4, 2) := by decide +kernel
theorem dX3_memberIndex_20 : decode cX3_memberIndex 20 = .ok (.aaload, 1) := by decide +kernel
theorem dX3_memberIndex_21 : decode cX3_memberIndex 21 = .ok (.getfield 22, 3) := by decide +kernel
theorem dX3_memberIndex_24 : decode cX3_memberIndex 24 = .ok (.invokestatic 65, 3) := by decide +kernel
theorem dX3_memberIndex_27 : decode cX3_memberIndex 27 = .ok (.iload_n 1, 1) := by decide +kernel
theorem dX3_memberIndex_28 : decode cX3_memberIndex 28 = .ok (.if_icmp .ne 14, 3) := by decide +kernel
theorem dX3_memberIndex_31 : decode cX3_memberIndex 31 = .ok (.iload_n 3, 1) := by decide +kernel
theorem dX3_memberIndex_32 : decode cX3_memberIndex 32 = .ok (.iload_n 2, 1) := by decide +kernel
theorem dX3_memberIndex_33 : decode cX3_memberIndex 33 = .ok (.if_icmp .ne 6, 3) := by decide +kernel
theorem dX3_memberIndex_36 : decode cX3_memberIndex 36 = .ok (.iload 4, 2) := by decide +kernel
theorem dX3_memberIndex_38 : decode cX3_memberIndex 38 = .ok (.ireturn, 1) := by decide +kernel
theorem dX3_memberIndex_39 : decode cX3_memberIndex 39 = .ok (.iinc 3 1, 3) := by decide +kernel
theorem dX3_memberIndex_42 : decode cX3_memberIndex 42 = .ok (.iinc 4 1, 3) := by decide +kernel
theorem dX3_memberIndex_45 : decode cX3_memberIndex 45 = .ok (.goto (-40), 3) := by decide +kernel
theorem dX3_memberIndex_48 : decode cX3_memberIndex 48 = .ok (.iconst (-1), 1) := by decide +kernel
theorem dX3_memberIndex_49 : decode cX3_memberIndex 49 = .ok (.ireturn, 1) := by decide +kernel
theorem dX3_placeMember_0 : decode cX3_placeMember 0 = .ok (.aload_n 0, 1) := by decide +kernel
theorem dX3_placeMember_1 : decode cX3_placeMember 1 = .ok (.iload_n 1, 1) := by decide +kernel
theorem dX3_placeMember_2 : decode cX3_placeMember 2 = .ok (.invokevirtual 25, 3) := by decide +kernel
theorem dX3_placeMember_5 : decode cX3_placeMember 5 = .ok (.istore_n 3, 1) := by decide +kernel
theorem dX3_placeMember_6 : decode cX3_placeMember 6 = .ok (.iload_n 3, 1) := by decide +kernel
theorem dX3_placeMember_7 : decode cX3_placeMember 7 = .ok (.ifCond .ge 4, 3) := by decide +kernel
theorem dX3_placeMember_10 : decode cX3_placeMember 10 = .ok (.return_, 1) := by decide +kernel
theorem dX3_placeMember_11 : decode cX3_placeMember 11 = .ok (.aload_n 0, 1) := by decide +kernel
theorem dX3_placeMember_12 : decode cX3_placeMember 12 = .ok (.iload_n 3, 1) := by decide +kernel
theorem dX3_placeMember_13 : decode cX3_placeMember 13 = .ok (.aload_n 0, 1) := by decide +kernel
theorem dX3_placeMember_14 : decode cX3_placeMember 14 = .ok (.getfield 18, 3) := by decide +kernel
theorem dX3_placeMember_17 : decode cX3_placeMember 17 = .ok (.iconst 1, 1) := by decide +kernel
theorem dX3_placeMember_18 : decode cX3_placeMember 18 = .ok (.isub, 1) := by decide +kernel
theorem dX3_placeMember_19 : decode cX3_placeMember 19 = .ok (.invokevirtual 68, 3) := by decide +kernel
theorem dX3_placeMember_22 : decode cX3_placeMember 22 = .ok (.aload_n 0, 1) := by decide +kernel
theorem dX3_placeMember_23 : decode cX3_placeMember 23 = .ok (.iload_n 1, 1) := by decide +kernel
theorem dX3_placeMember_24 : decode cX3_placeMember 24 = .ok (.invokestatic 65, 3) := by decide +kernel
theorem dX3_placeMember_27 : decode cX3_placeMember 27 = .ok (.iload_n 2, 1) := by decide +kernel
theorem dX3_placeMember_28 : decode cX3_placeMember 28 = .ok (.invokevirtual 71, 3) := by decide +kernel
theorem dX3_placeMember_31 : decode cX3_placeMember 31 = .ok (.istore 4, 2) := by decide +kernel
theorem dX3_placeMember_33 : decode cX3_placeMember 33 = .ok (.iload 4, 2) := by decide +kernel
theorem dX3_placeMember_35 : decode cX3_placeMember 35 = .ok (.ifCond .lt 15, 3) := by decide +kernel
theorem dX3_placeMember_38 : decode cX3_placeMember 38 = .ok (.aload_n 0, 1) := by decide +kernel
theorem dX3_placeMember_39 : decode cX3_placeMember 39 = .ok (.aload_n 0, 1) := by decide +kernel
theorem dX3_placeMember_40 : decode cX3_placeMember 40 = .ok (.getfield 18, 3) := by decide +kernel
theorem dX3_placeMember_43 : decode cX3_placeMember 43 = .ok (.iconst 1, 1) := by decide +kernel
theorem dX3_placeMember_44 : decode cX3_placeMember 44 = .ok (.isub, 1) := by decide +kernel
theorem dX3_placeMember_45 : decode cX3_placeMember 45 = .ok (.iload 4, 2) := by decide +kernel
theorem dX3_placeMember_47 : decode cX3_placeMember 47 = .ok (.invokevirtual 68, 3) := by decide +kernel
theorem dX3_placeMember_50 : decode cX3_placeMember 50 = .ok (.return_, 1) := by decide +kernel
theorem dX3_shift_0 : decode cX3_shift 0 = .ok (.iload_n 1, 1) := by decide +kernel
theorem dX3_shift_1 : decode cX3_shift 1 = .ok (.ifCond .lt 25, 3) := by decide +kernel
theorem dX3_shift_4 : decode cX3_shift 4 = .ok (.iload_n 1, 1) := by decide +kernel
theorem dX3_shift_5 : decode cX3_shift 5 = .ok (.aload_n 0, 1) := by decide +kernel
theorem dX3_shift_6 : decode cX3_shift 6 = .ok (.getfield 11, 3) := by decide +kernel
theorem dX3_shift_9 : decode cX3_shift 9 = .ok (.arraylength, 1) := by decide +kernel
theorem dX3_shift_10 : decode cX3_shift 10 = .ok (.if_icmp .ge 16, 3) := by decide +kernel
theorem dX3_shift_13 : decode cX3_shift 13 = .ok (.iload_n 2, 1) := by decide +kernel
theorem dX3_shift_14 : decode cX3_shift 14 = .ok (.ifCond .lt 12, 3) := by decide +kernel
theorem dX3_shift_17 : decode cX3_shift 17 = .ok (.iload_n 2, 1) := by decide +kernel
theorem dX3_shift_18 : decode cX3_shift 18 = .ok (.aload_n 0, 1) := by decide +kernel
theorem dX3_shift_19 : decode cX3_shift 19 = .ok (.getfield 11, 3) := by decide +kernel
theorem dX3_shift_22 : decode cX3_shift 22 = .ok (.arraylength, 1) := by decide +kernel
theorem dX3_shift_23 : decode cX3_shift 23 = .ok (.if_icmp .lt 4, 3) := by decide +kernel
theorem dX3_shift_26 : decode cX3_shift 26 = .ok (.return_, 1) := by decide +kernel
theorem dX3_shift_27 : decode cX3_shift 27 = .ok (.aload_n 0, 1) := by decide +kernel
theorem dX3_shift_28 : decode cX3_shift 28 = .ok (.getfield 11, 3) := by decide +kernel
theorem dX3_shift_31 : decode cX3_shift 31 = .ok (.iload_n 1, 1) := by decide +kernel
theorem dX3_shift_32 : decode cX3_shift 32 = .ok (.aaload, 1) := by decide +kernel
theorem dX3_shift_33 : decode cX3_shift 33 = .ok (.astore_n 3, 1) := by decide +kernel
theorem dX3_shift_34 : decode cX3_shift 34 = .ok (.iload_n 1, 1) := by decide +kernel
theorem dX3_shift_35 : decode cX3_shift 35 = .ok (.istore 4, 2) := by decide +kernel
theorem dX3_shift_37 : decode cX3_shift 37 = .ok (.iload 4, 2) := by decide +kernel
theorem dX3_shift_39 : decode cX3_shift 39 = .ok (.iload_n 2, 1) := by decide +kernel
theorem dX3_shift_40 : decode cX3_shift 40 = .ok (.if_icmp .ge 25, 3) := by decide +kernel
theorem dX3_shift_43 : decode cX3_shift 43 = .ok (.aload_n 0, 1) := by decide +kernel
theorem dX3_shift_44 : decode cX3_shift 44 = .ok (.getfield 11, 3) := by decide +kernel
theorem dX3_shift_47 : decode cX3_shift 47 = .ok (.iload 4, 2) := by decide +kernel
theorem dX3_shift_49 : decode cX3_shift 49 = .ok (.aload_n 0, 1) := by decide +kernel
theorem dX3_shift_50 : decode cX3_shift 50 = .ok (.getfield 11, 3) := by decide +kernel
theorem dX3_shift_53 : decode cX3_shift 53 = .ok (.iload 4, 2) := by decide +kernel
theorem dX3_shift_55 : decode cX3_shift 55 = .ok (.iconst 1, 1) := by decide +kernel
theorem dX3_shift_56 : decode cX3_shift 56 = .ok (.iadd, 1) := by decide +kernel
theorem dX3_shift_57 : decode cX3_shift 57 = .ok (.aaload, 1) := by decide +kernel
theorem dX3_shift_58 : decode cX3_shift 58 = .ok (.aastore, 1) := by decide +kernel
theorem dX3_shift_59 : decode cX3_shift 59 = .ok (.iinc 4 1, 3) := by decide +kernel
theorem dX3_shift_62 : decode cX3_shift 62 = .ok (.goto (-25), 3) := by decide +kernel
theorem dX3_shift_65 : decode cX3_shift 65 = .ok (.iload_n 1, 1) := by decide +kernel
theorem dX3_shift_66 : decode cX3_shift 66 = .ok (.istore 4, 2) := by decide +kernel
theorem dX3_shift_68 : decode cX3_shift 68 = .ok (.iload 4, 2) := by decide +kernel
theorem dX3_shift_70 : decode cX3_shift 70 = .ok (.iload_n 2, 1) := by decide +kernel
theorem dX3_shift_71 : decode cX3_shift 71 = .ok (.if_icmp .le 25, 3) := by decide +kernel
theorem dX3_shift_74 : decode cX3_shift 74 = .ok (.aload_n 0, 1) := by decide +kernel
theorem dX3_shift_75 : decode cX3_shift 75 = .ok (.getfield 11, 3) := by decide +kernel
theorem dX3_shift_78 : decode cX3_shift 78 = .ok (.iload 4, 2) := by decide +kernel
theorem dX3_shift_80 : decode cX3_shift 80 = .ok (.aload_n 0, 1) := by decide +kernel
theorem dX3_shift_81 : decode cX3_shift 81 = .ok (.getfield 11, 3) := by decide +kernel
theorem dX3_shift_84 : decode cX3_shift 84 = .ok (.iload 4, 2) := by decide +kernel
theorem dX3_shift_86 : decode cX3_shift 86 = .ok (.iconst 1, 1) := by decide +kernel
theorem dX3_shift_87 : decode cX3_shift 87 = .ok (.isub, 1) := by decide +kernel
theorem dX3_shift_88 : decode cX3_shift 88 = .ok (.aaload, 1) := by decide +kernel
theorem dX3_shift_89 : decode cX3_shift 89 = .ok (.aastore, 1) := by decide +kernel
theorem dX3_shift_90 : decode cX3_shift 90 = .ok (.iinc 4 (-1), 3) := by decide +kernel
theorem dX3_shift_93 : decode cX3_shift 93 = .ok (.goto (-25), 3) := by decide +kernel
theorem dX3_shift_96 : decode cX3_shift 96 = .ok (.aload_n 0, 1) := by decide +kernel
theorem dX3_shift_97 : decode cX3_shift 97 = .ok (.getfield 11, 3) := by decide +kernel
theorem dX3_shift_100 : decode cX3_shift 100 = .ok (.iload_n 2, 1) := by decide +kernel
theorem dX3_shift_101 : decode cX3_shift 101 = .ok (.aload_n 3, 1) := by decide +kernel
theorem dX3_shift_102 : decode cX3_shift 102 = .ok (.aastore, 1) := by decide +kernel
theorem dX3_shift_103 : decode cX3_shift 103 = .ok (.return_, 1) := by decide +kernel
theorem dX4_init_0 : decode cX4_init 0 = .ok (.aload_n 0, 1) := by decide +kernel
theorem dX4_init_1 : decode cX4_init 1 = .ok (.invokespecial 1, 3) := by decide +kernel
theorem dX4_init_4 : decode cX4_init 4 = .ok (.aload_n 0, 1) := by decide +kernel
theorem dX4_init_5 : decode cX4_init 5 = .ok (.new 7, 3) := by decide +kernel
theorem dX4_init_8 : decode cX4_init 8 = .ok (.dup, 1) := by decide +kernel
theorem dX4_init_9 : decode cX4_init 9 = .ok (.invokespecial 9, 3) := by decide +kernel
theorem dX4_init_12 : decode cX4_init 12 = .ok (.putfield 10, 3) := by decide +kernel
theorem dX4_init_15 : decode cX4_init 15 = .ok (.aload_n 0, 1) := by decide +kernel
theorem dX4_init_16 : decode cX4_init 16 = .ok (.new 16, 3) := by decide +kernel
theorem dX4_init_19 : decode cX4_init 19 = .ok (.dup, 1) := by decide +kernel
theorem dX4_init_20 : decode cX4_init 20 = .ok (.invokespecial 18, 3) := by decide +kernel
theorem dX4_init_23 : decode cX4_init 23 = .ok (.putfield 19, 3) := by decide +kernel
theorem dX4_init_26 : decode cX4_init 26 = .ok (.aload_n 0, 1) := by decide +kernel
theorem dX4_init_27 : decode cX4_init 27 = .ok (.bipush 60, 2) := by decide +kernel
theorem dX4_init_29 : decode cX4_init 29 = .ok (.newarray .int, 2) := by decide +kernel
theorem dX4_init_31 : decode cX4_init 31 = .ok (.putfield 23, 3) := by decide +kernel
theorem dX4_init_34 : decode cX4_init 34 = .ok (.aload_n 0, 1) := by decide +kernel
theorem dX4_init_35 : decode cX4_init 35 = .ok (.iconst 0, 1) := by decide +kernel
theorem dX4_init_36 : decode cX4_init 36 = .ok (.putfield 27, 3) := by decide +kernel
theorem dX4_init_39 : decode cX4_init 39 = .ok (.return_, 1) := by decide +kernel
theorem dX4_makeCollection_0 : decode cX4_makeCollection 0 = .ok (.iload_n 1, 1) := by decide +kernel
theorem dX4_makeCollection_1 : decode cX4_makeCollection 1 = .ok (.invokestatic 31, 3) := by decide +kernel
theorem dX4_makeCollection_4 : decode cX4_makeCollection 4 = .ok (.iload_n 2, 1) := by decide +kernel
theorem dX4_makeCollection_5 : decode cX4_makeCollection 5 = .ok (.invokestatic 35, 3) := by decide +kernel
theorem dX4_makeCollection_8 : decode cX4_makeCollection 8 = .ok (.iload_n 3, 1) := by decide +kernel
theorem dX4_makeCollection_9 : decode cX4_makeCollection 9 = .ok (.invokestatic 38, 3) := by decide +kernel
theorem dX4_makeCollection_12 : decode cX4_makeCollection 12 = .ok (.aload_n 0, 1) := by decide +kernel
theorem dX4_makeCollection_13 : decode cX4_makeCollection 13 = .ok (.getfield 10, 3) := by decide +kernel
theorem dX4_makeCollection_16 : decode cX4_makeCollection 16 = .ok (.iload_n 2, 1) := by decide +kernel
theorem dX4_makeCollection_17 : decode cX4_makeCollection 17 = .ok (.invokestatic 41, 3) := by decide +kernel
theorem dX4_makeCollection_20 : decode cX4_makeCollection 20 = .ok (.invokevirtual 45, 3) := by decide +kernel
theorem dX4_makeCollection_23 : decode cX4_makeCollection 23 = .ok (.ifCond .ne 5, 3) := by decide +kernel
theorem dX4_makeCollection_26 : decode cX4_makeCollection 26 = .ok (.iconst 1, 1) := by decide +kernel
theorem dX4_makeCollection_27 : decode cX4_makeCollection 27 = .ok (.ireturn, 1) := by decide +kernel
theorem dX4_makeCollection_28 : decode cX4_makeCollection 28 = .ok (.aload_n 0, 1) := by decide +kernel
theorem dX4_makeCollection_29 : decode cX4_makeCollection 29 = .ok (.getfield 10, 3) := by decide +kernel
theorem dX4_makeCollection_32 : decode cX4_makeCollection 32 = .ok (.iload_n 2, 1) := by decide +kernel
theorem dX4_makeCollection_33 : decode cX4_makeCollection 33 = .ok (.invokevirtual 49, 3) := by decide +kernel
theorem dX4_makeCollection_36 : decode cX4_makeCollection 36 = .ok (.ifnull 5, 3) := by decide +kernel
theorem dX4_makeCollection_39 : decode cX4_makeCollection 39 = .ok (.iconst 2, 1) := by decide +kernel
theorem dX4_makeCollection_40 : decode cX4_makeCollection 40 = .ok (.ireturn, 1) := by decide +kernel
theorem dX4_makeCollection_41 : decode cX4_makeCollection 41 = .ok (.aload_n 0, 1) := by decide +kernel
theorem dX4_makeCollection_42 : decode cX4_makeCollection 42 = .ok (.iload_n 1, 1) := by decide +kernel
theorem dX4_makeCollection_43 : decode cX4_makeCollection 43 = .ok (.iload_n 2, 1) := by decide +kernel
theorem dX4_makeCollection_44 : decode cX4_makeCollection 44 = .ok (.iload_n 3, 1) := by decide +kernel
theorem dX4_makeCollection_45 : decode cX4_makeCollection 45 = .ok (.invokevirtual 53, 3) := by decide +kernel
theorem dX4_makeCollection_48 : decode cX4_makeCollection 48 = .ok (.ifCond .ne 5, 3) := by decide +kernel
theorem dX4_makeCollection_51 : decode cX4_makeCollection 51 = .ok (.iconst 4, 1) := by decide +kernel
theorem dX4_makeCollection_52 : decode cX4_makeCollection 52 = .ok (.ireturn, 1) := by decide +kernel
theorem dX4_makeCollection_53 : decode cX4_makeCollection 53 = .ok (.aload_n 0, 1) := by decide +kernel
theorem dX4_makeCollection_54 : decode cX4_makeCollection 54 = .ok (.getfield 10, 3) := by decide +kernel
theorem dX4_makeCollection_57 : decode cX4_makeCollection 57 = .ok (.getfield 57, 3) := by decide +kernel
theorem dX4_makeCollection_60 : decode cX4_makeCollection 60 = .ok (.bipush 60, 2) := by decide +kernel
theorem dX4_makeCollection_62 : decode cX4_makeCollection 62 = .ok (.if_icmp .lt 5, 3) := by decide +kernel
theorem dX4_makeCollection_65 : decode cX4_makeCollection 65 = .ok (.iconst 5, 1) := by decide +kernel
theorem dX4_makeCollection_66 : decode cX4_makeCollection 66 = .ok (.ireturn, 1) := by decide +kernel
theorem dX4_makeCollection_67 : decode cX4_makeCollection 67 = .ok (.aload_n 0, 1) := by decide +kernel
theorem dX4_makeCollection_68 : decode cX4_makeCollection 68 = .ok (.getfield 10, 3) := by decide +kernel
theorem dX4_makeCollection_71 : decode cX4_makeCollection 71 = .ok (.iload_n 2, 1) := by decide +kernel
theorem dX4_makeCollection_72 : decode cX4_makeCollection 72 = .ok (.iconst 2, 1) := by decide +kernel
theorem dX4_makeCollection_73 : decode cX4_makeCollection 73 = .ok (.iconst 0, 1) := by decide +kernel
theorem dX4_makeCollection_74 : decode cX4_makeCollection 74 = .ok (.invokevirtual 60, 3) := by decide +kernel
theorem dX4_makeCollection_77 : decode cX4_makeCollection 77 = .ok (.iconst 0, 1) := by decide +kernel
theorem dX4_makeCollection_78 : decode cX4_makeCollection 78 = .ok (.ireturn, 1) := by decide +kernel
theorem dX4_put_0 : decode cX4_put 0 = .ok (.iload_n 1, 1) := by decide +kernel
theorem dX4_put_1 : decode cX4_put 1 = .ok (.invokestatic 31, 3) := by decide +kernel
theorem dX4_put_4 : decode cX4_put 4 = .ok (.iload_n 2, 1) := by decide +kernel
theorem dX4_put_5 : decode cX4_put 5 = .ok (.invokestatic 35, 3) := by decide +kernel
theorem dX4_put_8 : decode cX4_put 8 = .ok (.iload_n 3, 1) := by decide +kernel
theorem dX4_put_9 : decode cX4_put 9 = .ok (.iconst 0, 1) := by decide +kernel
theorem dX4_put_10 : decode cX4_put 10 = .ok (.sipush 999, 3) := by decide +kernel
theorem dX4_put_13 : decode cX4_put 13 = .ok (.invokestatic 64, 3) := by decide +kernel
theorem dX4_put_16 : decode cX4_put 16 = .ok (.iload 4, 2) := by decide +kernel
theorem dX4_put_18 : decode cX4_put 18 = .ok (.iconst (-1), 1) := by decide +kernel
theorem dX4_put_19 : decode cX4_put 19 = .ok (.sipush 999, 3) := by decide +kernel
theorem dX4_put_22 : decode cX4_put 22 = .ok (.invokestatic 64, 3) := by decide +kernel
theorem dX4_put_25 : decode cX4_put 25 = .ok (.iload 5, 2) := by decide +kernel
theorem dX4_put_27 : decode cX4_put 27 = .ok (.invokestatic 38, 3) := by decide +kernel
theorem dX4_put_30 : decode cX4_put 30 = .ok (.aload_n 0, 1) := by decide +kernel
theorem dX4_put_31 : decode cX4_put 31 = .ok (.iload_n 1, 1) := by decide +kernel
theorem dX4_put_32 : decode cX4_put 32 = .ok (.iload_n 2, 1) := by decide +kernel
theorem dX4_put_33 : decode cX4_put 33 = .ok (.iload 4, 2) := by decide +kernel
theorem dX4_put_35 : decode cX4_put 35 = .ok (.iload 5, 2) := by decide +kernel
theorem dX4_put_37 : decode cX4_put 37 = .ok (.invokevirtual 67, 3) := by decide +kernel
theorem dX4_put_40 : decode cX4_put 40 = .ok (.istore 6, 2) := by decide +kernel
theorem dX4_put_42 : decode cX4_put 42 = .ok (.iload 6, 2) := by decide +kernel
theorem dX4_put_44 : decode cX4_put 44 = .ok (.ifCond .ne 9, 3) := by decide +kernel
theorem dX4_put_47 : decode cX4_put 47 = .ok (.aload_n 0, 1) := by decide +kernel
theorem dX4_put_48 : decode cX4_put 48 = .ok (.iload_n 2, 1) := by decide +kernel
theorem dX4_put_49 : decode cX4_put 49 = .ok (.iload_n 3, 1) := by decide +kernel
theorem dX4_put_50 : decode cX4_put 50 = .ok (.invokevirtual 71, 3) := by decide +kernel
theorem dX4_put_53 : decode cX4_put 53 = .ok (.iload 6, 2) := by decide +kernel
theorem dX4_put_55 : decode cX4_put 55 = .ok (.ireturn, 1) := by decide +kernel
theorem dX4_delete_0 : decode cX4_delete 0 = .ok (.iload_n 1, 1) := by decide +kernel
theorem dX4_delete_1 : decode cX4_delete 1 = .ok (.invokestatic 31, 3) := by decide +kernel
theorem dX4_delete_4 : decode cX4_delete 4 = .ok (.iload_n 2, 1) := by decide +kernel
theorem dX4_delete_5 : decode cX4_delete 5 = .ok (.invokestatic 35, 3) := by decide +kernel
theorem dX4_delete_8 : decode cX4_delete 8 = .ok (.iload_n 3, 1) := by decide +kernel
theorem dX4_delete_9 : decode cX4_delete 9 = .ok (.invokestatic 38, 3) := by decide +kernel
theorem dX4_delete_12 : decode cX4_delete 12 = .ok (.aload_n 0, 1) := by decide +kernel
theorem dX4_delete_13 : decode cX4_delete 13 = .ok (.iconst 0, 1) := by decide +kernel
theorem dX4_delete_14 : decode cX4_delete 14 = .ok (.putfield 27, 3) := by decide +kernel
theorem dX4_delete_17 : decode cX4_delete 17 = .ok (.aload_n 0, 1) := by decide +kernel
theorem dX4_delete_18 : decode cX4_delete 18 = .ok (.getfield 10, 3) := by decide +kernel
theorem dX4_delete_21 : decode cX4_delete 21 = .ok (.iload_n 2, 1) := by decide +kernel
theorem dX4_delete_22 : decode cX4_delete 22 = .ok (.invokevirtual 49, 3) := by decide +kernel
theorem dX4_delete_25 : decode cX4_delete 25 = .ok (.ifnonnull 5, 3) := by decide +kernel
theorem dX4_delete_28 : decode cX4_delete 28 = .ok (.iconst 1, 1) := by decide +kernel
theorem dX4_delete_29 : decode cX4_delete 29 = .ok (.ireturn, 1) := by decide +kernel
theorem dX4_delete_30 : decode cX4_delete 30 = .ok (.aload_n 0, 1) := by decide +kernel
theorem dX4_delete_31 : decode cX4_delete 31 = .ok (.iload_n 1, 1) := by decide +kernel
theorem dX4_delete_32 : decode cX4_delete 32 = .ok (.iload_n 2, 1) := by decide +kernel
theorem dX4_delete_33 : decode cX4_delete 33 = .ok (.iload_n 3, 1) := by decide +kernel
theorem dX4_delete_34 : decode cX4_delete 34 = .ok (.invokevirtual 53, 3) := by decide +kernel
theorem dX4_delete_37 : decode cX4_delete 37 = .ok (.ifCond .ne 5, 3) := by decide +kernel
theorem dX4_delete_40 : decode cX4_delete 40 = .ok (.iconst 4, 1) := by decide +kernel
theorem dX4_delete_41 : decode cX4_delete 41 = .ok (.ireturn, 1) := by decide +kernel
theorem dX4_delete_42 : decode cX4_delete 42 = .ok (.aload_n 0, 1) := by decide +kernel
theorem dX4_delete_43 : decode cX4_delete 43 = .ok (.iload_n 1, 1) := by decide +kernel
theorem dX4_delete_44 : decode cX4_delete 44 = .ok (.iload_n 2, 1) := by decide +kernel
theorem dX4_delete_45 : decode cX4_delete 45 = .ok (.iload_n 3, 1) := by decide +kernel
theorem dX4_delete_46 : decode cX4_delete 46 = .ok (.invokevirtual 75, 3) := by decide +kernel
theorem dX4_delete_49 : decode cX4_delete 49 = .ok (.aload_n 0, 1) := by decide +kernel
theorem dX4_delete_50 : decode cX4_delete 50 = .ok (.getfield 10, 3) := by decide +kernel
theorem dX4_delete_53 : decode cX4_delete 53 = .ok (.iload_n 2, 1) := by decide +kernel
theorem dX4_delete_54 : decode cX4_delete 54 = .ok (.invokevirtual 78, 3) := by decide +kernel
theorem dX4_delete_57 : decode cX4_delete 57 = .ok (.aload_n 0, 1) := by decide +kernel
theorem dX4_delete_58 : decode cX4_delete 58 = .ok (.invokevirtual 81, 3) := by decide +kernel
theorem dX4_delete_61 : decode cX4_delete 61 = .ok (.aload_n 0, 1) := by decide +kernel
theorem dX4_delete_62 : decode cX4_delete 62 = .ok (.invokevirtual 84, 3) := by decide +kernel
theorem dX4_delete_65 : decode cX4_delete 65 = .ok (.aload_n 0, 1) := by decide +kernel
theorem dX4_delete_66 : decode cX4_delete 66 = .ok (.getfield 27, 3) := by decide +kernel
theorem dX4_delete_69 : decode cX4_delete 69 = .ok (.ifCond .ne 7, 3) := by decide +kernel
theorem dX4_delete_72 : decode cX4_delete 72 = .ok (.iconst 0, 1) := by decide +kernel
theorem dX4_delete_73 : decode cX4_delete 73 = .ok (.goto 5, 3) := by decide +kernel
theorem dX4_delete_76 : decode cX4_delete 76 = .ok (.bipush 6, 2) := by decide +kernel
theorem dX4_delete_78 : decode cX4_delete 78 = .ok (.ireturn, 1) := by decide +kernel
theorem dX4_failures_0 : decode cX4_failures 0 = .ok (.aload_n 0, 1) := by decide +kernel
theorem dX4_failures_1 : decode cX4_failures 1 = .ok (.getfield 27, 3) := by decide +kernel
theorem dX4_failures_4 : decode cX4_failures 4 = .ok (.ireturn, 1) := by decide +kernel
theorem dX4_failureAt_0 : decode cX4_failureAt 0 = .ok (.iload_n 1, 1) := by decide +kernel
theorem dX4_failureAt_1 : decode cX4_failureAt 1 = .ok (.ifCond .lt 20, 3) := by decide +kernel
theorem dX4_failureAt_4 : decode cX4_failureAt 4 = .ok (.iload_n 1, 1) := by decide +kernel
theorem dX4_failureAt_5 : decode cX4_failureAt 5 = .ok (.aload_n 0, 1) := by decide +kernel
theorem dX4_failureAt_6 : decode cX4_failureAt 6 = .ok (.getfield 27, 3) := by decide +kernel
theorem dX4_failureAt_9 : decode cX4_failureAt 9 = .ok (.if_icmp .ge 12, 3) := by decide +kernel
theorem dX4_failureAt_12 : decode cX4_failureAt 12 = .ok (.iload_n 1, 1) := by decide +kernel
theorem dX4_failureAt_13 : decode cX4_failureAt 13 = .ok (.aload_n 0, 1) := by decide +kernel
theorem dX4_failureAt_14 : decode cX4_failureAt 14 = .ok (.getfield 23, 3) := by decide +kernel
theorem dX4_failureAt_17 : decode cX4_failureAt 17 = .ok (.arraylength, 1) := by decide +kernel
theorem dX4_failureAt_18 : decode cX4_failureAt 18 = .ok (.if_icmp .lt 13, 3) := by decide +kernel
theorem dX4_failureAt_21 : decode cX4_failureAt 21 = .ok (.new 87, 3) := by decide +kernel
theorem dX4_failureAt_24 : decode cX4_failureAt 24 = .ok (.dup, 1) := by decide +kernel
theorem dX4_failureAt_25 : decode cX4_failureAt 25 = .ok (.ldc 89, 2) := by decide +kernel
theorem dX4_failureAt_27 : decode cX4_failureAt 27 = .ok (.invokespecial 91, 3) := by decide +kernel
theorem dX4_failureAt_30 : decode cX4_failureAt 30 = .ok (.athrow, 1) := by decide +kernel
theorem dX4_failureAt_31 : decode cX4_failureAt 31 = .ok (.aload_n 0, 1) := by decide +kernel
theorem dX4_failureAt_32 : decode cX4_failureAt 32 = .ok (.getfield 23, 3) := by decide +kernel
theorem dX4_failureAt_35 : decode cX4_failureAt 35 = .ok (.iload_n 1, 1) := by decide +kernel
theorem dX4_failureAt_36 : decode cX4_failureAt 36 = .ok (.iaload, 1) := by decide +kernel
theorem dX4_failureAt_37 : decode cX4_failureAt 37 = .ok (.ireturn, 1) := by decide +kernel
theorem dX4_copy_0 : decode cX4_copy 0 = .ok (.iload_n 1, 1) := by decide +kernel
theorem dX4_copy_1 : decode cX4_copy 1 = .ok (.iload_n 2, 1) := by decide +kernel
theorem dX4_copy_2 : decode cX4_copy 2 = .ok (.iload_n 3, 1) := by decide +kernel
theorem dX4_copy_3 : decode cX4_copy 3 = .ok (.iload 5, 2) := by decide +kernel
theorem dX4_copy_5 : decode cX4_copy 5 = .ok (.invokestatic 94, 3) := by decide +kernel
theorem dX4_copy_8 : decode cX4_copy 8 = .ok (.aload_n 0, 1) := by decide +kernel
theorem dX4_copy_9 : decode cX4_copy 9 = .ok (.iload_n 1, 1) := by decide +kernel
theorem dX4_copy_10 : decode cX4_copy 10 = .ok (.iload_n 2, 1) := by decide +kernel
theorem dX4_copy_11 : decode cX4_copy 11 = .ok (.iload_n 3, 1) := by decide +kernel
theorem dX4_copy_12 : decode cX4_copy 12 = .ok (.iload 4, 2) := by decide +kernel
theorem dX4_copy_14 : decode cX4_copy 14 = .ok (.iload 5, 2) := by decide +kernel
theorem dX4_copy_16 : decode cX4_copy 16 = .ok (.invokevirtual 98, 3) := by decide +kernel
theorem dX4_copy_19 : decode cX4_copy 19 = .ok (.istore 6, 2) := by decide +kernel
theorem dX4_copy_21 : decode cX4_copy 21 = .ok (.iload 6, 2) := by decide +kernel
theorem dX4_copy_23 : decode cX4_copy 23 = .ok (.ifCond .eq 6, 3) := by decide +kernel
theorem dX4_copy_26 : decode cX4_copy 26 = .ok (.iload 6, 2) := by decide +kernel
theorem dX4_copy_28 : decode cX4_copy 28 = .ok (.ireturn, 1) := by decide +kernel
theorem dX4_copy_29 : decode cX4_copy 29 = .ok (.aload_n 0, 1) := by decide +kernel
theorem dX4_copy_30 : decode cX4_copy 30 = .ok (.getfield 10, 3) := by decide +kernel
theorem dX4_copy_33 : decode cX4_copy 33 = .ok (.getfield 57, 3) := by decide +kernel
theorem dX4_copy_36 : decode cX4_copy 36 = .ok (.aload_n 0, 1) := by decide +kernel
theorem dX4_copy_37 : decode cX4_copy 37 = .ok (.getfield 10, 3) := by decide +kernel
theorem dX4_copy_40 : decode cX4_copy 40 = .ok (.iload_n 3, 1) := by decide +kernel
theorem dX4_copy_41 : decode cX4_copy 41 = .ok (.invokevirtual 102, 3) := by decide +kernel
theorem dX4_copy_44 : decode cX4_copy 44 = .ok (.isub, 1) := by decide +kernel
theorem dX4_copy_45 : decode cX4_copy 45 = .ok (.aload_n 0, 1) := by decide +kernel
theorem dX4_copy_46 : decode cX4_copy 46 = .ok (.getfield 10, 3) := by decide +kernel
theorem dX4_copy_49 : decode cX4_copy 49 = .ok (.iload_n 2, 1) := by decide +kernel
theorem dX4_copy_50 : decode cX4_copy 50 = .ok (.invokevirtual 102, 3) := by decide +kernel
theorem dX4_copy_53 : decode cX4_copy 53 = .ok (.iadd, 1) := by decide +kernel
theorem dX4_copy_54 : decode cX4_copy 54 = .ok (.bipush 60, 2) := by decide +kernel
theorem dX4_copy_56 : decode cX4_copy 56 = .ok (.if_icmp .le 5, 3) := by decide +kernel
theorem dX4_copy_59 : decode cX4_copy 59 = .ok (.iconst 5, 1) := by decide +kernel
theorem dX4_copy_60 : decode cX4_copy 60 = .ok (.ireturn, 1) := by decide +kernel
theorem dX4_copy_61 : decode cX4_copy 61 = .ok (.aload_n 0, 1) := by decide +kernel
theorem dX4_copy_62 : decode cX4_copy 62 = .ok (.iload_n 3, 1) := by decide +kernel
theorem dX4_copy_63 : decode cX4_copy 63 = .ok (.invokevirtual 105, 3) := by decide +kernel
theorem dX4_copy_66 : decode cX4_copy 66 = .ok (.aload_n 0, 1) := by decide +kernel
theorem dX4_copy_67 : decode cX4_copy 67 = .ok (.getfield 10, 3) := by decide +kernel
theorem dX4_copy_70 : decode cX4_copy 70 = .ok (.iload_n 2, 1) := by decide +kernel
theorem dX4_copy_71 : decode cX4_copy 71 = .ok (.iload_n 3, 1) := by decide +kernel
theorem dX4_copy_72 : decode cX4_copy 72 = .ok (.invokevirtual 108, 3) := by decide +kernel
theorem dX4_copy_75 : decode cX4_copy 75 = .ok (.iconst 0, 1) := by decide +kernel
theorem dX4_copy_76 : decode cX4_copy 76 = .ok (.ireturn, 1) := by decide +kernel
theorem dX4_move_0 : decode cX4_move 0 = .ok (.iload_n 1, 1) := by decide +kernel
theorem dX4_move_1 : decode cX4_move 1 = .ok (.iload_n 2, 1) := by decide +kernel
theorem dX4_move_2 : decode cX4_move 2 = .ok (.iload_n 3, 1) := by decide +kernel
theorem dX4_move_3 : decode cX4_move 3 = .ok (.iload 5, 2) := by decide +kernel
theorem dX4_move_5 : decode cX4_move 5 = .ok (.invokestatic 94, 3) := by decide +kernel
theorem dX4_move_8 : decode cX4_move 8 = .ok (.aload_n 0, 1) := by decide +kernel
theorem dX4_move_9 : decode cX4_move 9 = .ok (.iload_n 1, 1) := by decide +kernel
theorem dX4_move_10 : decode cX4_move 10 = .ok (.iload_n 2, 1) := by decide +kernel
theorem dX4_move_11 : decode cX4_move 11 = .ok (.iload_n 3, 1) := by decide +kernel
theorem dX4_move_12 : decode cX4_move 12 = .ok (.iload 4, 2) := by decide +kernel
theorem dX4_move_14 : decode cX4_move 14 = .ok (.iload 5, 2) := by decide +kernel
theorem dX4_move_16 : decode cX4_move 16 = .ok (.invokevirtual 98, 3) := by decide +kernel
theorem dX4_move_19 : decode cX4_move 19 = .ok (.istore 6, 2) := by decide +kernel
theorem dX4_move_21 : decode cX4_move 21 = .ok (.iload 6, 2) := by decide +kernel
theorem dX4_move_23 : decode cX4_move 23 = .ok (.ifCond .eq 6, 3) := by decide +kernel
theorem dX4_move_26 : decode cX4_move 26 = .ok (.iload 6, 2) := by decide +kernel
theorem dX4_move_28 : decode cX4_move 28 = .ok (.ireturn, 1) := by decide +kernel
theorem dX4_move_29 : decode cX4_move 29 = .ok (.aload_n 0, 1) := by decide +kernel
theorem dX4_move_30 : decode cX4_move 30 = .ok (.getfield 19, 3) := by decide +kernel
theorem dX4_move_33 : decode cX4_move 33 = .ok (.iload_n 1, 1) := by decide +kernel
theorem dX4_move_34 : decode cX4_move 34 = .ok (.iload_n 2, 1) := by decide +kernel
theorem dX4_move_35 : decode cX4_move 35 = .ok (.invokestatic 41, 3) := by decide +kernel
theorem dX4_move_38 : decode cX4_move 38 = .ok (.iload 5, 2) := by decide +kernel
theorem dX4_move_40 : decode cX4_move 40 = .ok (.invokevirtual 111, 3) := by decide +kernel
theorem dX4_move_43 : decode cX4_move 43 = .ok (.ifCond .eq 14, 3) := by decide +kernel
theorem dX4_move_46 : decode cX4_move 46 = .ok (.aload_n 0, 1) := by decide +kernel
theorem dX4_move_47 : decode cX4_move 47 = .ok (.iload_n 1, 1) := by decide +kernel
theorem dX4_move_48 : decode cX4_move 48 = .ok (.iload_n 2, 1) := by decide +kernel
theorem dX4_move_49 : decode cX4_move 49 = .ok (.iload 5, 2) := by decide +kernel
theorem dX4_move_51 : decode cX4_move 51 = .ok (.invokevirtual 114, 3) := by decide +kernel
theorem dX4_move_54 : decode cX4_move 54 = .ok (.ifCond .ne 5, 3) := by decide +kernel
theorem dX4_move_57 : decode cX4_move 57 = .ok (.iconst 4, 1) := by decide +kernel
theorem dX4_move_58 : decode cX4_move 58 = .ok (.ireturn, 1) := by decide +kernel
theorem dX4_move_59 : decode cX4_move 59 = .ok (.aload_n 0, 1) := by decide +kernel
theorem dX4_move_60 : decode cX4_move 60 = .ok (.iload_n 3, 1) := by decide +kernel
theorem dX4_move_61 : decode cX4_move 61 = .ok (.invokevirtual 105, 3) := by decide +kernel
theorem dX4_move_64 : decode cX4_move 64 = .ok (.aload_n 0, 1) := by decide +kernel
theorem dX4_move_65 : decode cX4_move 65 = .ok (.iload_n 2, 1) := by decide +kernel
theorem dX4_move_66 : decode cX4_move 66 = .ok (.invokevirtual 117, 3) := by decide +kernel
theorem dX4_move_69 : decode cX4_move 69 = .ok (.aload_n 0, 1) := by decide +kernel
theorem dX4_move_70 : decode cX4_move 70 = .ok (.getfield 10, 3) := by decide +kernel
theorem dX4_move_73 : decode cX4_move 73 = .ok (.iload_n 2, 1) := by decide +kernel
theorem dX4_move_74 : decode cX4_move 74 = .ok (.iload_n 3, 1) := by decide +kernel
theorem dX4_move_75 : decode cX4_move 75 = .ok (.invokevirtual 120, 3) := by decide +kernel
theorem dX4_move_78 : decode cX4_move 78 = .ok (.iconst 0, 1) := by decide +kernel
theorem dX4_move_79 : decode cX4_move 79 = .ok (.ireturn, 1) := by decide +kernel
theorem dX4_kindOf_0 : decode cX4_kindOf 0 = .ok (.iload_n 1, 1) := by decide +kernel
theorem dX4_kindOf_1 : decode cX4_kindOf 1 = .ok (.invokestatic 123, 3) := by decide +kernel
theorem dX4_kindOf_4 : decode cX4_kindOf 4 = .ok (.aload_n 0, 1) := by decide +kernel
theorem dX4_kindOf_5 : decode cX4_kindOf 5 = .ok (.getfield 10, 3) := by decide +kernel
theorem dX4_kindOf_8 : decode cX4_kindOf 8 = .ok (.iload_n 1, 1) := by decide +kernel
theorem dX4_kindOf_9 : decode cX4_kindOf 9 = .ok (.invokevirtual 126, 3) := by decide +kernel
theorem dX4_kindOf_12 : decode cX4_kindOf 12 = .ok (.ireturn, 1) := by decide +kernel
theorem dX4_content_0 : decode cX4_content 0 = .ok (.iload_n 1, 1) := by decide +kernel
theorem dX4_content_1 : decode cX4_content 1 = .ok (.invokestatic 123, 3) := by decide +kernel
theorem dX4_content_4 : decode cX4_content 4 = .ok (.aload_n 0, 1) := by decide +kernel
theorem dX4_content_5 : decode cX4_content 5 = .ok (.getfield 10, 3) := by decide +kernel
theorem dX4_content_8 : decode cX4_content 8 = .ok (.iload_n 1, 1) := by decide +kernel
theorem dX4_content_9 : decode cX4_content 9 = .ok (.invokevirtual 129, 3) := by decide +kernel
theorem dX4_content_12 : decode cX4_content 12 = .ok (.astore_n 2, 1) := by decide +kernel
theorem dX4_content_13 : decode cX4_content 13 = .ok (.aload_n 2, 1) := by decide +kernel
theorem dX4_content_14 : decode cX4_content 14 = .ok (.ifnonnull 7, 3) := by decide +kernel
theorem dX4_content_17 : decode cX4_content 17 = .ok (.iconst (-1), 1) := by decide +kernel
theorem dX4_content_18 : decode cX4_content 18 = .ok (.goto 7, 3) := by decide +kernel
theorem dX4_content_21 : decode cX4_content 21 = .ok (.aload_n 2, 1) := by decide +kernel
theorem dX4_content_22 : decode cX4_content 22 = .ok (.getfield 132, 3) := by decide +kernel
theorem dX4_content_25 : decode cX4_content 25 = .ok (.ireturn, 1) := by decide +kernel
theorem dX4_resources_0 : decode cX4_resources 0 = .ok (.aload_n 0, 1) := by decide +kernel
theorem dX4_resources_1 : decode cX4_resources 1 = .ok (.getfield 10, 3) := by decide +kernel
theorem dX4_resources_4 : decode cX4_resources 4 = .ok (.getfield 57, 3) := by decide +kernel
theorem dX4_resources_7 : decode cX4_resources 7 = .ok (.ireturn, 1) := by decide +kernel
theorem dX4_members_0 : decode cX4_members 0 = .ok (.iload_n 1, 1) := by decide +kernel
theorem dX4_members_1 : decode cX4_members 1 = .ok (.invokestatic 123, 3) := by decide +kernel
theorem dX4_members_4 : decode cX4_members 4 = .ok (.aload_n 0, 1) := by decide +kernel
theorem dX4_members_5 : decode cX4_members 5 = .ok (.getfield 10, 3) := by decide +kernel
theorem dX4_members_8 : decode cX4_members 8 = .ok (.iload_n 1, 1) := by decide +kernel
theorem dX4_members_9 : decode cX4_members 9 = .ok (.invokevirtual 137, 3) := by decide +kernel
theorem dX4_members_12 : decode cX4_members 12 = .ok (.ireturn, 1) := by decide +kernel
theorem dX4_memberAt_0 : decode cX4_memberAt 0 = .ok (.iload_n 1, 1) := by decide +kernel
theorem dX4_memberAt_1 : decode cX4_memberAt 1 = .ok (.invokestatic 123, 3) := by decide +kernel
theorem dX4_memberAt_4 : decode cX4_memberAt 4 = .ok (.aload_n 0, 1) := by decide +kernel
theorem dX4_memberAt_5 : decode cX4_memberAt 5 = .ok (.getfield 10, 3) := by decide +kernel
theorem dX4_memberAt_8 : decode cX4_memberAt 8 = .ok (.iload_n 1, 1) := by decide +kernel
theorem dX4_memberAt_9 : decode cX4_memberAt 9 = .ok (.iload_n 2, 1) := by decide +kernel
theorem dX4_memberAt_10 : decode cX4_memberAt 10 = .ok (.invokevirtual 140, 3) := by decide +kernel
theorem dX4_memberAt_13 : decode cX4_memberAt 13 = .ok (.istore_n 3, 1) := by decide +kernel
theorem dX4_memberAt_14 : decode cX4_memberAt 14 = .ok (.iload_n 3, 1) := by decide +kernel
theorem dX4_memberAt_15 : decode cX4_memberAt 15 = .ok (.ifCond .lt 14, 3) := by decide +kernel
theorem dX4_memberAt_18 : decode cX4_memberAt 18 = .ok (.iload_n 3, 1) := by decide +kernel
theorem dX4_memberAt_19 : decode cX4_memberAt 19 = .ok (.aload_n 0, 1) := by decide +kernel
theorem dX4_memberAt_20 : decode cX4_memberAt 20 = .ok (.getfield 10, 3) := by decide +kernel
theorem dX4_memberAt_23 : decode cX4_memberAt 23 = .ok (.getfield 57, 3) := by decide +kernel
theorem dX4_memberAt_26 : decode cX4_memberAt 26 = .ok (.if_icmp .lt 13, 3) := by decide +kernel
theorem dX4_memberAt_29 : decode cX4_memberAt 29 = .ok (.new 87, 3) := by decide +kernel
theorem dX4_memberAt_32 : decode cX4_memberAt 32 = .ok (.dup, 1) := by decide +kernel
theorem dX4_memberAt_33 : decode cX4_memberAt 33 = .ok (.ldc 144, 2) := by decide +kernel
theorem dX4_memberAt_35 : decode cX4_memberAt 35 = .ok (.invokespecial 91, 3) := by decide +kernel
theorem dX4_memberAt_38 : decode cX4_memberAt 38 = .ok (.athrow, 1) := by decide +kernel
theorem dX4_memberAt_39 : decode cX4_memberAt 39 = .ok (.aload_n 0, 1) := by decide +kernel
theorem dX4_memberAt_40 : decode cX4_memberAt 40 = .ok (.getfield 10, 3) := by decide +kernel
theorem dX4_memberAt_43 : decode cX4_memberAt 43 = .ok (.getfield 146, 3) := by decide +kernel
theorem dX4_memberAt_46 : decode cX4_memberAt 46 = .ok (.iload_n 3, 1) := by decide +kernel
theorem dX4_memberAt_47 : decode cX4_memberAt 47 = .ok (.aaload, 1) := by decide +kernel
theorem dX4_memberAt_48 : decode cX4_memberAt 48 = .ok (.getfield 150, 3) := by decide +kernel
theorem dX4_memberAt_51 : decode cX4_memberAt 51 = .ok (.ireturn, 1) := by decide +kernel
theorem dX4_order_0 : decode cX4_order 0 = .ok (.iload_n 1, 1) := by decide +kernel
theorem dX4_order_1 : decode cX4_order 1 = .ok (.invokestatic 31, 3) := by decide +kernel
theorem dX4_order_4 : decode cX4_order 4 = .ok (.iload_n 2, 1) := by decide +kernel
theorem dX4_order_5 : decode cX4_order 5 = .ok (.invokestatic 35, 3) := by decide +kernel
theorem dX4_order_8 : decode cX4_order 8 = .ok (.iload_n 3, 1) := by decide +kernel
theorem dX4_order_9 : decode cX4_order 9 = .ok (.invokestatic 38, 3) := by decide +kernel
theorem dX4_order_12 : decode cX4_order 12 = .ok (.iload 4, 2) := by decide +kernel
theorem dX4_order_14 : decode cX4_order 14 = .ok (.invokestatic 38, 3) := by decide +kernel
theorem dX4_order_17 : decode cX4_order 17 = .ok (.aload_n 0, 1) := by decide +kernel
theorem dX4_order_18 : decode cX4_order 18 = .ok (.getfield 10, 3) := by decide +kernel
theorem dX4_order_21 : decode cX4_order 21 = .ok (.iload_n 2, 1) := by decide +kernel
theorem dX4_order_22 : decode cX4_order 22 = .ok (.invokevirtual 49, 3) := by decide +kernel
theorem dX4_order_25 : decode cX4_order 25 = .ok (.ifnonnull 5, 3) := by decide +kernel
theorem dX4_order_28 : decode cX4_order 28 = .ok (.iconst 1, 1) := by decide +kernel
theorem dX4_order_29 : decode cX4_order 29 = .ok (.ireturn, 1) := by decide +kernel
theorem dX4_order_30 : decode cX4_order 30 = .ok (.aload_n 0, 1) := by decide +kernel
theorem dX4_order_31 : decode cX4_order 31 = .ok (.getfield 19, 3) := by decide +kernel
theorem dX4_order_34 : decode cX4_order 34 = .ok (.iload_n 1, 1) := by decide +kernel
theorem dX4_order_35 : decode cX4_order 35 = .ok (.iload_n 2, 1) := by decide +kernel
theorem dX4_order_36 : decode cX4_order 36 = .ok (.invokestatic 41, 3) := by decide +kernel
theorem dX4_order_39 : decode cX4_order 39 = .ok (.iload 4, 2) := by decide +kernel
theorem dX4_order_41 : decode cX4_order 41 = .ok (.invokevirtual 111, 3) := by decide +kernel
theorem dX4_order_44 : decode cX4_order 44 = .ok (.ifCond .ne 5, 3) := by decide +kernel
theorem dX4_order_47 : decode cX4_order 47 = .ok (.iconst 4, 1) := by decide +kernel
theorem dX4_order_48 : decode cX4_order 48 = .ok (.ireturn, 1) := by decide +kernel
theorem dX4_order_49 : decode cX4_order 49 = .ok (.aload_n 0, 1) := by decide +kernel
theorem dX4_order_50 : decode cX4_order 50 = .ok (.getfield 10, 3) := by decide +kernel
theorem dX4_order_53 : decode cX4_order 53 = .ok (.iload_n 2, 1) := by decide +kernel
theorem dX4_order_54 : decode cX4_order 54 = .ok (.iload_n 3, 1) := by decide +kernel
theorem dX4_order_55 : decode cX4_order 55 = .ok (.invokevirtual 153, 3) := by decide +kernel
theorem dX4_order_58 : decode cX4_order 58 = .ok (.iconst 0, 1) := by decide +kernel
theorem dX4_order_59 : decode cX4_order 59 = .ok (.ireturn, 1) := by decide +kernel
theorem dX4_lock_0 : decode cX4_lock 0 = .ok (.iload_n 1, 1) := by decide +kernel
theorem dX4_lock_1 : decode cX4_lock 1 = .ok (.invokestatic 31, 3) := by decide +kernel
theorem dX4_lock_4 : decode cX4_lock 4 = .ok (.iload_n 2, 1) := by decide +kernel
theorem dX4_lock_5 : decode cX4_lock 5 = .ok (.invokestatic 123, 3) := by decide +kernel
theorem dX4_lock_8 : decode cX4_lock 8 = .ok (.iload 5, 2) := by decide +kernel
theorem dX4_lock_10 : decode cX4_lock 10 = .ok (.iconst 1, 1) := by decide +kernel
theorem dX4_lock_11 : decode cX4_lock 11 = .ok (.sipush 1000, 3) := by decide +kernel
theorem dX4_lock_14 : decode cX4_lock 14 = .ok (.invokestatic 64, 3) := by decide +kernel
theorem dX4_lock_17 : decode cX4_lock 17 = .ok (.iload 6, 2) := by decide +kernel
theorem dX4_lock_19 : decode cX4_lock 19 = .ok (.invokestatic 38, 3) := by decide +kernel
theorem dX4_lock_22 : decode cX4_lock 22 = .ok (.aload_n 0, 1) := by decide +kernel
theorem dX4_lock_23 : decode cX4_lock 23 = .ok (.getfield 19, 3) := by decide +kernel
theorem dX4_lock_26 : decode cX4_lock 26 = .ok (.getfield 156, 3) := by decide +kernel
theorem dX4_lock_29 : decode cX4_lock 29 = .ok (.bipush 30, 2) := by decide +kernel
theorem dX4_lock_31 : decode cX4_lock 31 = .ok (.if_icmp .lt 13, 3) := by decide +kernel
theorem dX4_lock_34 : decode cX4_lock 34 = .ok (.new 157, 3) := by decide +kernel
theorem dX4_lock_37 : decode cX4_lock 37 = .ok (.dup, 1) := by decide +kernel
theorem dX4_lock_38 : decode cX4_lock 38 = .ok (.ldc 159, 2) := by decide +kernel
theorem dX4_lock_40 : decode cX4_lock 40 = .ok (.invokespecial 161, 3) := by decide +kernel
theorem dX4_lock_43 : decode cX4_lock 43 = .ok (.athrow, 1) := by decide +kernel
theorem dX4_lock_44 : decode cX4_lock 44 = .ok (.aload_n 0, 1) := by decide +kernel
theorem dX4_lock_45 : decode cX4_lock 45 = .ok (.getfield 19, 3) := by decide +kernel
theorem dX4_lock_48 : decode cX4_lock 48 = .ok (.iload_n 2, 1) := by decide +kernel
theorem dX4_lock_49 : decode cX4_lock 49 = .ok (.iload_n 3, 1) := by decide +kernel
theorem dX4_lock_50 : decode cX4_lock 50 = .ok (.iload 4, 2) := by decide +kernel
theorem dX4_lock_52 : decode cX4_lock 52 = .ok (.invokevirtual 162, 3) := by decide +kernel
theorem dX4_lock_55 : decode cX4_lock 55 = .ok (.ifCond .eq 13, 3) := by decide +kernel
theorem dX4_lock_58 : decode cX4_lock 58 = .ok (.new 157, 3) := by decide +kernel
theorem dX4_lock_61 : decode cX4_lock 61 = .ok (.dup, 1) := by decide +kernel
theorem dX4_lock_62 : decode cX4_lock 62 = .ok (.ldc 166, 2) := by decide +kernel
theorem dX4_lock_64 : decode cX4_lock 64 = .ok (.invokespecial 161, 3) := by decide +kernel
theorem dX4_lock_67 : decode cX4_lock 67 = .ok (.athrow, 1) := by decide +kernel
theorem dX4_lock_68 : decode cX4_lock 68 = .ok (.aload_n 0, 1) := by decide +kernel
theorem dX4_lock_69 : decode cX4_lock 69 = .ok (.getfield 10, 3) := by decide +kernel
theorem dX4_lock_72 : decode cX4_lock 72 = .ok (.iload_n 2, 1) := by decide +kernel
theorem dX4_lock_73 : decode cX4_lock 73 = .ok (.invokevirtual 126, 3) := by decide +kernel
theorem dX4_lock_76 : decode cX4_lock 76 = .ok (.iconst (-1), 1) := by decide +kernel
theorem dX4_lock_77 : decode cX4_lock 77 = .ok (.if_icmp .ne 31, 3) := by decide +kernel
theorem dX4_lock_80 : decode cX4_lock 80 = .ok (.aload_n 0, 1) := by decide +kernel
theorem dX4_lock_81 : decode cX4_lock 81 = .ok (.iload_n 1, 1) := by decide +kernel
theorem dX4_lock_82 : decode cX4_lock 82 = .ok (.iload_n 2, 1) := by decide +kernel
theorem dX4_lock_83 : decode cX4_lock 83 = .ok (.iconst (-1), 1) := by decide +kernel
theorem dX4_lock_84 : decode cX4_lock 84 = .ok (.iload 6, 2) := by decide +kernel
theorem dX4_lock_86 : decode cX4_lock 86 = .ok (.invokevirtual 67, 3) := by decide +kernel
theorem dX4_lock_89 : decode cX4_lock 89 = .ok (.ifCond .eq 13, 3) := by decide +kernel
theorem dX4_lock_92 : decode cX4_lock 92 = .ok (.new 157, 3) := by decide +kernel
theorem dX4_lock_95 : decode cX4_lock 95 = .ok (.dup, 1) := by decide +kernel
theorem dX4_lock_96 : decode cX4_lock 96 = .ok (.ldc 168, 2) := by decide +kernel
theorem dX4_lock_98 : decode cX4_lock 98 = .ok (.invokespecial 161, 3) := by decide +kernel
theorem dX4_lock_101 : decode cX4_lock 101 = .ok (.athrow, 1) := by decide +kernel
theorem dX4_lock_102 : decode cX4_lock 102 = .ok (.aload_n 0, 1) := by decide +kernel
theorem dX4_lock_103 : decode cX4_lock 103 = .ok (.iload_n 2, 1) := by decide +kernel
theorem dX4_lock_104 : decode cX4_lock 104 = .ok (.iconst 0, 1) := by decide +kernel
theorem dX4_lock_105 : decode cX4_lock 105 = .ok (.invokevirtual 71, 3) := by decide +kernel
theorem dX4_lock_108 : decode cX4_lock 108 = .ok (.aload_n 0, 1) := by decide +kernel
theorem dX4_lock_109 : decode cX4_lock 109 = .ok (.getfield 19, 3) := by decide +kernel
theorem dX4_lock_112 : decode cX4_lock 112 = .ok (.iload_n 1, 1) := by decide +kernel
theorem dX4_lock_113 : decode cX4_lock 113 = .ok (.iload_n 2, 1) := by decide +kernel
theorem dX4_lock_114 : decode cX4_lock 114 = .ok (.iload_n 3, 1) := by decide +kernel
theorem dX4_lock_115 : decode cX4_lock 115 = .ok (.iload 4, 2) := by decide +kernel
theorem dX4_lock_117 : decode cX4_lock 117 = .ok (.iload 5, 2) := by decide +kernel
theorem dX4_lock_119 : decode cX4_lock 119 = .ok (.invokevirtual 170, 3) := by decide +kernel
theorem dX4_lock_122 : decode cX4_lock 122 = .ok (.ireturn, 1) := by decide +kernel
theorem dX4_refresh_0 : decode cX4_refresh 0 = .ok (.aload_n 0, 1) := by decide +kernel
theorem dX4_refresh_1 : decode cX4_refresh 1 = .ok (.getfield 19, 3) := by decide +kernel
theorem dX4_refresh_4 : decode cX4_refresh 4 = .ok (.iload_n 2, 1) := by decide +kernel
theorem dX4_refresh_5 : decode cX4_refresh 5 = .ok (.invokevirtual 174, 3) := by decide +kernel
theorem dX4_refresh_8 : decode cX4_refresh 8 = .ok (.astore 4, 2) := by decide +kernel
theorem dX4_refresh_10 : decode cX4_refresh 10 = .ok (.aload 4, 2) := by decide +kernel
theorem dX4_refresh_12 : decode cX4_refresh 12 = .ok (.ifnonnull 13, 3) := by decide +kernel
theorem dX4_refresh_15 : decode cX4_refresh 15 = .ok (.new 87, 3) := by decide +kernel
theorem dX4_refresh_18 : decode cX4_refresh 18 = .ok (.dup, 1) := by decide +kernel
theorem dX4_refresh_19 : decode cX4_refresh 19 = .ok (.ldc 177, 2) := by decide +kernel
theorem dX4_refresh_21 : decode cX4_refresh 21 = .ok (.invokespecial 91, 3) := by decide +kernel
theorem dX4_refresh_24 : decode cX4_refresh 24 = .ok (.athrow, 1) := by decide +kernel
theorem dX4_refresh_25 : decode cX4_refresh 25 = .ok (.iload_n 1, 1) := by decide +kernel
theorem dX4_refresh_26 : decode cX4_refresh 26 = .ok (.invokestatic 31, 3) := by decide +kernel
theorem dX4_refresh_29 : decode cX4_refresh 29 = .ok (.iload_n 3, 1) := by decide +kernel
theorem dX4_refresh_30 : decode cX4_refresh 30 = .ok (.iconst 0, 1) := by decide +kernel
theorem dX4_refresh_31 : decode cX4_refresh 31 = .ok (.sipush 1000, 3) := by decide +kernel
theorem dX4_refresh_34 : decode cX4_refresh 34 = .ok (.invokestatic 64, 3) := by decide +kernel
theorem dX4_refresh_37 : decode cX4_refresh 37 = .ok (.aload 4, 2) := by decide +kernel
theorem dX4_refresh_39 : decode cX4_refresh 39 = .ok (.getfield 179, 3) := by decide +kernel
theorem dX4_refresh_42 : decode cX4_refresh 42 = .ok (.iload_n 1, 1) := by decide +kernel
theorem dX4_refresh_43 : decode cX4_refresh 43 = .ok (.if_icmp .eq 13, 3) := by decide +kernel
theorem dX4_refresh_46 : decode cX4_refresh 46 = .ok (.new 157, 3) := by decide +kernel
theorem dX4_refresh_49 : decode cX4_refresh 49 = .ok (.dup, 1) := by decide +kernel
theorem dX4_refresh_50 : decode cX4_refresh 50 = .ok (.ldc 184, 2) := by decide +kernel
theorem dX4_refresh_52 : decode cX4_refresh 52 = .ok (.invokespecial 161, 3) := by decide +kernel
theorem dX4_refresh_55 : decode cX4_refresh 55 = .ok (.athrow, 1) := by decide +kernel
theorem dX4_refresh_56 : decode cX4_refresh 56 = .ok (.aload 4, 2) := by decide +kernel
theorem dX4_refresh_58 : decode cX4_refresh 58 = .ok (.getfield 186, 3) := by decide +kernel
theorem dX4_refresh_61 : decode cX4_refresh 61 = .ok (.aload_n 0, 1) := by decide +kernel
theorem dX4_refresh_62 : decode cX4_refresh 62 = .ok (.getfield 19, 3) := by decide +kernel
theorem dX4_refresh_65 : decode cX4_refresh 65 = .ok (.getfield 189, 3) := by decide +kernel
theorem dX4_refresh_68 : decode cX4_refresh 68 = .ok (.isub, 1) := by decide +kernel
theorem dX4_refresh_69 : decode cX4_refresh 69 = .ok (.istore 5, 2) := by decide +kernel
theorem dX4_refresh_71 : decode cX4_refresh 71 = .ok (.aload 4, 2) := by decide +kernel
theorem dX4_refresh_73 : decode cX4_refresh 73 = .ok (.aload_n 0, 1) := by decide +kernel
theorem dX4_refresh_74 : decode cX4_refresh 74 = .ok (.getfield 19, 3) := by decide +kernel
theorem dX4_refresh_77 : decode cX4_refresh 77 = .ok (.getfield 189, 3) := by decide +kernel
theorem dX4_refresh_80 : decode cX4_refresh 80 = .ok (.iload_n 3, 1) := by decide +kernel
theorem dX4_refresh_81 : decode cX4_refresh 81 = .ok (.iadd, 1) := by decide +kernel
theorem dX4_refresh_82 : decode cX4_refresh 82 = .ok (.putfield 186, 3) := by decide +kernel
theorem dX4_refresh_85 : decode cX4_refresh 85 = .ok (.iload 5, 2) := by decide +kernel
theorem dX4_refresh_87 : decode cX4_refresh 87 = .ok (.ireturn, 1) := by decide +kernel
theorem dX4_pass_0 : decode cX4_pass 0 = .ok (.iload_n 1, 1) := by decide +kernel
theorem dX4_pass_1 : decode cX4_pass 1 = .ok (.iconst 1, 1) := by decide +kernel
theorem dX4_pass_2 : decode cX4_pass 2 = .ok (.sipush 1000, 3) := by decide +kernel
theorem dX4_pass_5 : decode cX4_pass 5 = .ok (.invokestatic 64, 3) := by decide +kernel
theorem dX4_pass_8 : decode cX4_pass 8 = .ok (.aload_n 0, 1) := by decide +kernel
theorem dX4_pass_9 : decode cX4_pass 9 = .ok (.getfield 19, 3) := by decide +kernel
theorem dX4_pass_12 : decode cX4_pass 12 = .ok (.getfield 189, 3) := by decide +kernel
theorem dX4_pass_15 : decode cX4_pass 15 = .ok (.iload_n 1, 1) := by decide +kernel
theorem dX4_pass_16 : decode cX4_pass 16 = .ok (.iadd, 1) := by decide +kernel
theorem dX4_pass_17 : decode cX4_pass 17 = .ok (.ldc 192, 2) := by decide +kernel
theorem dX4_pass_19 : decode cX4_pass 19 = .ok (.if_icmp .le 13, 3) := by decide +kernel
theorem dX4_pass_22 : decode cX4_pass 22 = .ok (.new 157, 3) := by decide +kernel
theorem dX4_pass_25 : decode cX4_pass 25 = .ok (.dup, 1) := by decide +kernel
theorem dX4_pass_26 : decode cX4_pass 26 = .ok (.ldc 193, 2) := by decide +kernel
theorem dX4_pass_28 : decode cX4_pass 28 = .ok (.invokespecial 161, 3) := by decide +kernel
theorem dX4_pass_31 : decode cX4_pass 31 = .ok (.athrow, 1) := by decide +kernel
theorem dX4_pass_32 : decode cX4_pass 32 = .ok (.aload_n 0, 1) := by decide +kernel
theorem dX4_pass_33 : decode cX4_pass 33 = .ok (.getfield 19, 3) := by decide +kernel
theorem dX4_pass_36 : decode cX4_pass 36 = .ok (.iload_n 1, 1) := by decide +kernel
theorem dX4_pass_37 : decode cX4_pass 37 = .ok (.invokevirtual 195, 3) := by decide +kernel
theorem dX4_pass_40 : decode cX4_pass 40 = .ok (.ireturn, 1) := by decide +kernel
theorem dX4_covering_0 : decode cX4_covering 0 = .ok (.iload_n 1, 1) := by decide +kernel
theorem dX4_covering_1 : decode cX4_covering 1 = .ok (.invokestatic 123, 3) := by decide +kernel
theorem dX4_covering_4 : decode cX4_covering 4 = .ok (.aload_n 0, 1) := by decide +kernel
theorem dX4_covering_5 : decode cX4_covering 5 = .ok (.getfield 19, 3) := by decide +kernel
theorem dX4_covering_8 : decode cX4_covering 8 = .ok (.iload_n 1, 1) := by decide +kernel
theorem dX4_covering_9 : decode cX4_covering 9 = .ok (.invokevirtual 198, 3) := by decide +kernel
theorem dX4_covering_12 : decode cX4_covering 12 = .ok (.ireturn, 1) := by decide +kernel
theorem dX4_mayChange_0 : decode cX4_mayChange 0 = .ok (.iload_n 1, 1) := by decide +kernel
theorem dX4_mayChange_1 : decode cX4_mayChange 1 = .ok (.invokestatic 31, 3) := by decide +kernel
theorem dX4_mayChange_4 : decode cX4_mayChange 4 = .ok (.iload_n 2, 1) := by decide +kernel
theorem dX4_mayChange_5 : decode cX4_mayChange 5 = .ok (.invokestatic 123, 3) := by decide +kernel
theorem dX4_mayChange_8 : decode cX4_mayChange 8 = .ok (.iload_n 3, 1) := by decide +kernel
theorem dX4_mayChange_9 : decode cX4_mayChange 9 = .ok (.invokestatic 38, 3) := by decide +kernel
theorem dX4_mayChange_12 : decode cX4_mayChange 12 = .ok (.aload_n 0, 1) := by decide +kernel
theorem dX4_mayChange_13 : decode cX4_mayChange 13 = .ok (.getfield 19, 3) := by decide +kernel
theorem dX4_mayChange_16 : decode cX4_mayChange 16 = .ok (.iload_n 1, 1) := by decide +kernel
theorem dX4_mayChange_17 : decode cX4_mayChange 17 = .ok (.iload_n 2, 1) := by decide +kernel
theorem dX4_mayChange_18 : decode cX4_mayChange 18 = .ok (.iload_n 3, 1) := by decide +kernel
theorem dX4_mayChange_19 : decode cX4_mayChange 19 = .ok (.invokevirtual 111, 3) := by decide +kernel
theorem dX4_mayChange_22 : decode cX4_mayChange 22 = .ok (.ireturn, 1) := by decide +kernel
theorem dX4_keep_0 : decode cX4_keep 0 = .ok (.iload_n 1, 1) := by decide +kernel
theorem dX4_keep_1 : decode cX4_keep 1 = .ok (.invokestatic 123, 3) := by decide +kernel
theorem dX4_keep_4 : decode cX4_keep 4 = .ok (.aload_n 0, 1) := by decide +kernel
theorem dX4_keep_5 : decode cX4_keep 5 = .ok (.getfield 10, 3) := by decide +kernel
theorem dX4_keep_8 : decode cX4_keep 8 = .ok (.iload_n 1, 1) := by decide +kernel
theorem dX4_keep_9 : decode cX4_keep 9 = .ok (.invokevirtual 129, 3) := by decide +kernel
theorem dX4_keep_12 : decode cX4_keep 12 = .ok (.astore_n 2, 1) := by decide +kernel
theorem dX4_keep_13 : decode cX4_keep 13 = .ok (.aload_n 2, 1) := by decide +kernel
theorem dX4_keep_14 : decode cX4_keep 14 = .ok (.ifnonnull 13, 3) := by decide +kernel
theorem dX4_keep_17 : decode cX4_keep 17 = .ok (.new 157, 3) := by decide +kernel
theorem dX4_keep_20 : decode cX4_keep 20 = .ok (.dup, 1) := by decide +kernel
theorem dX4_keep_21 : decode cX4_keep 21 = .ok (.ldc 201, 2) := by decide +kernel
theorem dX4_keep_23 : decode cX4_keep 23 = .ok (.invokespecial 161, 3) := by decide +kernel
theorem dX4_keep_26 : decode cX4_keep 26 = .ok (.athrow, 1) := by decide +kernel
theorem dX4_keep_27 : decode cX4_keep 27 = .ok (.aload_n 2, 1) := by decide +kernel
theorem dX4_keep_28 : decode cX4_keep 28 = .ok (.getfield 203, 3) := by decide +kernel
theorem dX4_keep_31 : decode cX4_keep 31 = .ok (.bipush 10, 2) := by decide +kernel
theorem dX4_keep_33 : decode cX4_keep 33 = .ok (.if_icmp .lt 13, 3) := by decide +kernel
theorem dX4_keep_36 : decode cX4_keep 36 = .ok (.new 157, 3) := by decide +kernel
theorem dX4_keep_39 : decode cX4_keep 39 = .ok (.dup, 1) := by decide +kernel
theorem dX4_keep_40 : decode cX4_keep 40 = .ok (.ldc 206, 2) := by decide +kernel
theorem dX4_keep_42 : decode cX4_keep 42 = .ok (.invokespecial 161, 3) := by decide +kernel
theorem dX4_keep_45 : decode cX4_keep 45 = .ok (.athrow, 1) := by decide +kernel
theorem dX4_keep_46 : decode cX4_keep 46 = .ok (.aload_n 2, 1) := by decide +kernel
theorem dX4_keep_47 : decode cX4_keep 47 = .ok (.invokevirtual 208, 3) := by decide +kernel
theorem dX4_keep_50 : decode cX4_keep 50 = .ok (.ireturn, 1) := by decide +kernel
theorem dX4_restore_0 : decode cX4_restore 0 = .ok (.iload_n 1, 1) := by decide +kernel
theorem dX4_restore_1 : decode cX4_restore 1 = .ok (.invokestatic 31, 3) := by decide +kernel
theorem dX4_restore_4 : decode cX4_restore 4 = .ok (.iload_n 2, 1) := by decide +kernel
theorem dX4_restore_5 : decode cX4_restore 5 = .ok (.invokestatic 123, 3) := by decide +kernel
theorem dX4_restore_8 : decode cX4_restore 8 = .ok (.iload_n 3, 1) := by decide +kernel
theorem dX4_restore_9 : decode cX4_restore 9 = .ok (.invokestatic 38, 3) := by decide +kernel
theorem dX4_restore_12 : decode cX4_restore 12 = .ok (.iload 4, 2) := by decide +kernel
theorem dX4_restore_14 : decode cX4_restore 14 = .ok (.invokestatic 38, 3) := by decide +kernel
theorem dX4_restore_17 : decode cX4_restore 17 = .ok (.aload_n 0, 1) := by decide +kernel
theorem dX4_restore_18 : decode cX4_restore 18 = .ok (.getfield 10, 3) := by decide +kernel
theorem dX4_restore_21 : decode cX4_restore 21 = .ok (.iload_n 2, 1) := by decide +kernel
theorem dX4_restore_22 : decode cX4_restore 22 = .ok (.invokevirtual 129, 3) := by decide +kernel
theorem dX4_restore_25 : decode cX4_restore 25 = .ok (.astore 5, 2) := by decide +kernel
theorem dX4_restore_27 : decode cX4_restore 27 = .ok (.aload 5, 2) := by decide +kernel
theorem dX4_restore_29 : decode cX4_restore 29 = .ok (.ifnull 12, 3) := by decide +kernel
theorem dX4_restore_32 : decode cX4_restore 32 = .ok (.aload 5, 2) := by decide +kernel
theorem dX4_restore_34 : decode cX4_restore 34 = .ok (.iload_n 3, 1) := by decide +kernel
theorem dX4_restore_35 : decode cX4_restore 35 = .ok (.invokevirtual 212, 3) := by decide +kernel
theorem dX4_restore_38 : decode cX4_restore 38 = .ok (.ifCond .ne 5, 3) := by decide +kernel
theorem dX4_restore_41 : decode cX4_restore 41 = .ok (.iconst 1, 1) := by decide +kernel
theorem dX4_restore_42 : decode cX4_restore 42 = .ok (.ireturn, 1) := by decide +kernel
theorem dX4_restore_43 : decode cX4_restore 43 = .ok (.aload_n 0, 1) := by decide +kernel
theorem dX4_restore_44 : decode cX4_restore 44 = .ok (.getfield 19, 3) := by decide +kernel
theorem dX4_restore_47 : decode cX4_restore 47 = .ok (.iload_n 1, 1) := by decide +kernel
theorem dX4_restore_48 : decode cX4_restore 48 = .ok (.iload_n 2, 1) := by decide +kernel
theorem dX4_restore_49 : decode cX4_restore 49 = .ok (.iload 4, 2) := by decide +kernel
theorem dX4_restore_51 : decode cX4_restore 51 = .ok (.invokevirtual 111, 3) := by decide +kernel
theorem dX4_restore_54 : decode cX4_restore 54 = .ok (.ifCond .ne 5, 3) := by decide +kernel
theorem dX4_restore_57 : decode cX4_restore 57 = .ok (.iconst 4, 1) := by decide +kernel
theorem dX4_restore_58 : decode cX4_restore 58 = .ok (.ireturn, 1) := by decide +kernel
theorem dX4_restore_59 : decode cX4_restore 59 = .ok (.aload 5, 2) := by decide +kernel
theorem dX4_restore_61 : decode cX4_restore 61 = .ok (.iload_n 3, 1) := by decide +kernel
theorem dX4_restore_62 : decode cX4_restore 62 = .ok (.invokevirtual 215, 3) := by decide +kernel
theorem dX4_restore_65 : decode cX4_restore 65 = .ok (.iconst 0, 1) := by decide +kernel
theorem dX4_restore_66 : decode cX4_restore 66 = .ok (.ireturn, 1) := by decide +kernel
theorem dX4_requireRange_0 : decode cX4_requireRange 0 = .ok (.iload_n 0, 1) := by decide +kernel
theorem dX4_requireRange_1 : decode cX4_requireRange 1 = .ok (.iload_n 1, 1) := by decide +kernel
theorem dX4_requireRange_2 : decode cX4_requireRange 2 = .ok (.if_icmp .lt 8, 3) := by decide +kernel
theorem dX4_requireRange_5 : decode cX4_requireRange 5 = .ok (.iload_n 0, 1) := by decide +kernel
theorem dX4_requireRange_6 : decode cX4_requireRange 6 = .ok (.iload_n 2, 1) := by decide +kernel
theorem dX4_requireRange_7 : decode cX4_requireRange 7 = .ok (.if_icmp .le 13, 3) := by decide +kernel
theorem dX4_requireRange_10 : decode cX4_requireRange 10 = .ok (.new 218, 3) := by decide +kernel
theorem dX4_requireRange_13 : decode cX4_requireRange 13 = .ok (.dup, 1) := by decide +kernel
theorem dX4_requireRange_14 : decode cX4_requireRange 14 = .ok (.ldc 220, 2) := by decide +kernel
theorem dX4_requireRange_16 : decode cX4_requireRange 16 = .ok (.invokespecial 222, 3) := by decide +kernel
theorem dX4_requireRange_19 : decode cX4_requireRange 19 = .ok (.athrow, 1) := by decide +kernel
theorem dX4_requireRange_20 : decode cX4_requireRange 20 = .ok (.return_, 1) := by decide +kernel
theorem dX4_requireNotNegative_0 : decode cX4_requireNotNegative 0 = .ok (.iload_n 0, 1) := by decide +kernel
theorem dX4_requireNotNegative_1 : decode cX4_requireNotNegative 1 = .ok (.ifCond .ge 13, 3) := by decide +kernel
theorem dX4_requireNotNegative_4 : decode cX4_requireNotNegative 4 = .ok (.new 218, 3) := by decide +kernel
theorem dX4_requireNotNegative_7 : decode cX4_requireNotNegative 7 = .ok (.dup, 1) := by decide +kernel
theorem dX4_requireNotNegative_8 : decode cX4_requireNotNegative 8 = .ok (.ldc 223, 2) := by decide +kernel
theorem dX4_requireNotNegative_10 : decode cX4_requireNotNegative 10 = .ok (.invokespecial 222, 3) := by decide +kernel
theorem dX4_requireNotNegative_13 : decode cX4_requireNotNegative 13 = .ok (.athrow, 1) := by decide +kernel
theorem dX4_requireNotNegative_14 : decode cX4_requireNotNegative 14 = .ok (.return_, 1) := by decide +kernel
theorem dX4_requireClient_0 : decode cX4_requireClient 0 = .ok (.iload_n 0, 1) := by decide +kernel
theorem dX4_requireClient_1 : decode cX4_requireClient 1 = .ok (.iconst 0, 1) := by decide +kernel
theorem dX4_requireClient_2 : decode cX4_requireClient 2 = .ok (.iconst 3, 1) := by decide +kernel
theorem dX4_requireClient_3 : decode cX4_requireClient 3 = .ok (.invokestatic 64, 3) := by decide +kernel
theorem dX4_requireClient_6 : decode cX4_requireClient 6 = .ok (.return_, 1) := by decide +kernel
theorem dX4_requirePath_0 : decode cX4_requirePath 0 = .ok (.iload_n 0, 1) := by decide +kernel
theorem dX4_requirePath_1 : decode cX4_requirePath 1 = .ok (.invokestatic 225, 3) := by decide +kernel
theorem dX4_requirePath_4 : decode cX4_requirePath 4 = .ok (.ifCond .ne 13, 3) := by decide +kernel
theorem dX4_requirePath_7 : decode cX4_requirePath 7 = .ok (.new 218, 3) := by decide +kernel
theorem dX4_requirePath_10 : decode cX4_requirePath 10 = .ok (.dup, 1) := by decide +kernel
theorem dX4_requirePath_11 : decode cX4_requirePath 11 = .ok (.ldc 228, 2) := by decide +kernel
theorem dX4_requirePath_13 : decode cX4_requirePath 13 = .ok (.invokespecial 222, 3) := by decide +kernel
theorem dX4_requirePath_16 : decode cX4_requirePath 16 = .ok (.athrow, 1) := by decide +kernel
theorem dX4_requirePath_17 : decode cX4_requirePath 17 = .ok (.return_, 1) := by decide +kernel
theorem dX4_requirePathBelowTop_0 : decode cX4_requirePathBelowTop 0 = .ok (.iload_n 0, 1) := by decide +kernel
theorem dX4_requirePathBelowTop_1 : decode cX4_requirePathBelowTop 1 = .ok (.invokestatic 123, 3) := by decide +kernel
theorem dX4_requirePathBelowTop_4 : decode cX4_requirePathBelowTop 4 = .ok (.iload_n 0, 1) := by decide +kernel
theorem dX4_requirePathBelowTop_5 : decode cX4_requirePathBelowTop 5 = .ok (.ifCond .ne 13, 3) := by decide +kernel
theorem dX4_requirePathBelowTop_8 : decode cX4_requirePathBelowTop 8 = .ok (.new 218, 3) := by decide +kernel
theorem dX4_requirePathBelowTop_11 : decode cX4_requirePathBelowTop 11 = .ok (.dup, 1) := by decide +kernel
theorem dX4_requirePathBelowTop_12 : decode cX4_requirePathBelowTop 12 = .ok (.ldc 230, 2) := by decide +kernel
theorem dX4_requirePathBelowTop_14 : decode cX4_requirePathBelowTop 14 = .ok (.invokespecial 222, 3) := by decide +kernel
theorem dX4_requirePathBelowTop_17 : decode cX4_requirePathBelowTop 17 = .ok (.athrow, 1) := by decide +kernel
theorem dX4_requirePathBelowTop_18 : decode cX4_requirePathBelowTop 18 = .ok (.return_, 1) := by decide +kernel
theorem dX4_requireTransfer_0 : decode cX4_requireTransfer 0 = .ok (.iload_n 0, 1) := by decide +kernel
theorem dX4_requireTransfer_1 : decode cX4_requireTransfer 1 = .ok (.invokestatic 31, 3) := by decide +kernel
theorem dX4_requireTransfer_4 : decode cX4_requireTransfer 4 = .ok (.iload_n 1, 1) := by decide +kernel
theorem dX4_requireTransfer_5 : decode cX4_requireTransfer 5 = .ok (.invokestatic 35, 3) := by decide +kernel
theorem dX4_requireTransfer_8 : decode cX4_requireTransfer 8 = .ok (.iload_n 2, 1) := by decide +kernel
theorem dX4_requireTransfer_9 : decode cX4_requireTransfer 9 = .ok (.invokestatic 35, 3) := by decide +kernel
theorem dX4_requireTransfer_12 : decode cX4_requireTransfer 12 = .ok (.iload_n 3, 1) := by decide +kernel
theorem dX4_requireTransfer_13 : decode cX4_requireTransfer 13 = .ok (.invokestatic 38, 3) := by decide +kernel
theorem dX4_requireTransfer_16 : decode cX4_requireTransfer 16 = .ok (.iload_n 1, 1) := by decide +kernel
theorem dX4_requireTransfer_17 : decode cX4_requireTransfer 17 = .ok (.iload_n 2, 1) := by decide +kernel
theorem dX4_requireTransfer_18 : decode cX4_requireTransfer 18 = .ok (.invokestatic 232, 3) := by decide +kernel
theorem dX4_requireTransfer_21 : decode cX4_requireTransfer 21 = .ok (.ifCond .ne 11, 3) := by decide +kernel
theorem dX4_requireTransfer_24 : decode cX4_requireTransfer 24 = .ok (.iload_n 2, 1) := by decide +kernel
theorem dX4_requireTransfer_25 : decode cX4_requireTransfer 25 = .ok (.iload_n 1, 1) := by decide +kernel
theorem dX4_requireTransfer_26 : decode cX4_requireTransfer 26 = .ok (.invokestatic 232, 3) := by decide +kernel
theorem dX4_requireTransfer_29 : decode cX4_requireTransfer 29 = .ok (.ifCond .eq 13, 3) := by decide +kernel
theorem dX4_requireTransfer_32 : decode cX4_requireTransfer 32 = .ok (.new 218, 3) := by decide +kernel
theorem dX4_requireTransfer_35 : decode cX4_requireTransfer 35 = .ok (.dup, 1) := by decide +kernel
theorem dX4_requireTransfer_36 : decode cX4_requireTransfer 36 = .ok (.ldc 236, 2) := by decide +kernel
theorem dX4_requireTransfer_38 : decode cX4_requireTransfer 38 = .ok (.invokespecial 222, 3) := by decide +kernel
theorem dX4_requireTransfer_41 : decode cX4_requireTransfer 41 = .ok (.athrow, 1) := by decide +kernel
theorem dX4_requireTransfer_42 : decode cX4_requireTransfer 42 = .ok (.return_, 1) := by decide +kernel
theorem dX4_isPath_0 : decode cX4_isPath 0 = .ok (.iload_n 0, 1) := by decide +kernel
theorem dX4_isPath_1 : decode cX4_isPath 1 = .ok (.ifCond .lt 10, 3) := by decide +kernel
theorem dX4_isPath_4 : decode cX4_isPath 4 = .ok (.iload_n 0, 1) := by decide +kernel
theorem dX4_isPath_5 : decode cX4_isPath 5 = .ok (.sipush 9999, 3) := by decide +kernel
theorem dX4_isPath_8 : decode cX4_isPath 8 = .ok (.if_icmp .le 5, 3) := by decide +kernel
theorem dX4_isPath_11 : decode cX4_isPath 11 = .ok (.iconst 0, 1) := by decide +kernel
theorem dX4_isPath_12 : decode cX4_isPath 12 = .ok (.ireturn, 1) := by decide +kernel
theorem dX4_isPath_13 : decode cX4_isPath 13 = .ok (.iload_n 0, 1) := by decide +kernel
theorem dX4_isPath_14 : decode cX4_isPath 14 = .ok (.istore_n 1, 1) := by decide +kernel
theorem dX4_isPath_15 : decode cX4_isPath 15 = .ok (.iconst 0, 1) := by decide +kernel
theorem dX4_isPath_16 : decode cX4_isPath 16 = .ok (.istore_n 2, 1) := by decide +kernel
theorem dX4_isPath_17 : decode cX4_isPath 17 = .ok (.iload_n 2, 1) := by decide +kernel
theorem dX4_isPath_18 : decode cX4_isPath 18 = .ok (.iconst 4, 1) := by decide +kernel
theorem dX4_isPath_19 : decode cX4_isPath 19 = .ok (.if_icmp .ge 27, 3) := by decide +kernel
theorem dX4_isPath_22 : decode cX4_isPath 22 = .ok (.iload_n 1, 1) := by decide +kernel
theorem dX4_isPath_23 : decode cX4_isPath 23 = .ok (.ifCond .le 23, 3) := by decide +kernel
theorem dX4_isPath_26 : decode cX4_isPath 26 = .ok (.iload_n 1, 1) := by decide +kernel
theorem dX4_isPath_27 : decode cX4_isPath 27 = .ok (.bipush 10, 2) := by decide +kernel
theorem dX4_isPath_29 : decode cX4_isPath 29 = .ok (.irem, 1) := by decide +kernel
theorem dX4_isPath_30 : decode cX4_isPath 30 = .ok (.ifCond .ne 5, 3) := by decide +kernel
theorem dX4_isPath_33 : decode cX4_isPath 33 = .ok (.iconst 0, 1) := by decide +kernel
theorem dX4_isPath_34 : decode cX4_isPath 34 = .ok (.ireturn, 1) := by decide +kernel
theorem dX4_isPath_35 : decode cX4_isPath 35 = .ok (.iload_n 1, 1) := by decide +kernel
theorem dX4_isPath_36 : decode cX4_isPath 36 = .ok (.bipush 10, 2) := by decide +kernel
theorem dX4_isPath_38 : decode cX4_isPath 38 = .ok (.idiv, 1) := by decide +kernel
theorem dX4_isPath_39 : decode cX4_isPath 39 = .ok (.istore_n 1, 1) := by decide +kernel
theorem dX4_isPath_40 : decode cX4_isPath 40 = .ok (.iinc 2 1, 3) := by decide +kernel
theorem dX4_isPath_43 : decode cX4_isPath 43 = .ok (.goto (-26), 3) := by decide +kernel
theorem dX4_isPath_46 : decode cX4_isPath 46 = .ok (.iconst 1, 1) := by decide +kernel
theorem dX4_isPath_47 : decode cX4_isPath 47 = .ok (.ireturn, 1) := by decide +kernel
theorem dX4_parentOf_0 : decode cX4_parentOf 0 = .ok (.iload_n 0, 1) := by decide +kernel
theorem dX4_parentOf_1 : decode cX4_parentOf 1 = .ok (.bipush 10, 2) := by decide +kernel
theorem dX4_parentOf_3 : decode cX4_parentOf 3 = .ok (.idiv, 1) := by decide +kernel
theorem dX4_parentOf_4 : decode cX4_parentOf 4 = .ok (.ireturn, 1) := by decide +kernel
theorem dX4_isAbove_0 : decode cX4_isAbove 0 = .ok (.iload_n 1, 1) := by decide +kernel
theorem dX4_isAbove_1 : decode cX4_isAbove 1 = .ok (.istore_n 2, 1) := by decide +kernel
theorem dX4_isAbove_2 : decode cX4_isAbove 2 = .ok (.iconst 0, 1) := by decide +kernel
theorem dX4_isAbove_3 : decode cX4_isAbove 3 = .ok (.istore_n 3, 1) := by decide +kernel
theorem dX4_isAbove_4 : decode cX4_isAbove 4 = .ok (.iload_n 3, 1) := by decide +kernel
theorem dX4_isAbove_5 : decode cX4_isAbove 5 = .ok (.iconst 4, 1) := by decide +kernel
theorem dX4_isAbove_6 : decode cX4_isAbove 6 = .ok (.if_icmp .ge 25, 3) := by decide +kernel
theorem dX4_isAbove_9 : decode cX4_isAbove 9 = .ok (.iload_n 2, 1) := by decide +kernel
theorem dX4_isAbove_10 : decode cX4_isAbove 10 = .ok (.ifCond .le 21, 3) := by decide +kernel
theorem dX4_isAbove_13 : decode cX4_isAbove 13 = .ok (.iload_n 2, 1) := by decide +kernel
theorem dX4_isAbove_14 : decode cX4_isAbove 14 = .ok (.bipush 10, 2) := by decide +kernel
theorem dX4_isAbove_16 : decode cX4_isAbove 16 = .ok (.idiv, 1) := by decide +kernel
theorem dX4_isAbove_17 : decode cX4_isAbove 17 = .ok (.istore_n 2, 1) := by decide +kernel
theorem dX4_isAbove_18 : decode cX4_isAbove 18 = .ok (.iload_n 2, 1) := by decide +kernel
theorem dX4_isAbove_19 : decode cX4_isAbove 19 = .ok (.iload_n 0, 1) := by decide +kernel
theorem dX4_isAbove_20 : decode cX4_isAbove 20 = .ok (.if_icmp .ne 5, 3) := by decide +kernel
theorem dX4_isAbove_23 : decode cX4_isAbove 23 = .ok (.iconst 1, 1) := by decide +kernel
theorem dX4_isAbove_24 : decode cX4_isAbove 24 = .ok (.ireturn, 1) := by decide +kernel
theorem dX4_isAbove_25 : decode cX4_isAbove 25 = .ok (.iinc 3 1, 3) := by decide +kernel
theorem dX4_isAbove_28 : decode cX4_isAbove 28 = .ok (.goto (-24), 3) := by decide +kernel
theorem dX4_isAbove_31 : decode cX4_isAbove 31 = .ok (.iconst 0, 1) := by decide +kernel
theorem dX4_isAbove_32 : decode cX4_isAbove 32 = .ok (.ireturn, 1) := by decide +kernel
theorem dX4_isIn_0 : decode cX4_isIn 0 = .ok (.iload_n 1, 1) := by decide +kernel
theorem dX4_isIn_1 : decode cX4_isIn 1 = .ok (.iload_n 0, 1) := by decide +kernel
theorem dX4_isIn_2 : decode cX4_isIn 2 = .ok (.if_icmp .eq 11, 3) := by decide +kernel
theorem dX4_isIn_5 : decode cX4_isIn 5 = .ok (.iload_n 0, 1) := by decide +kernel
theorem dX4_isIn_6 : decode cX4_isIn 6 = .ok (.iload_n 1, 1) := by decide +kernel
theorem dX4_isIn_7 : decode cX4_isIn 7 = .ok (.invokestatic 238, 3) := by decide +kernel
theorem dX4_isIn_10 : decode cX4_isIn 10 = .ok (.ifCond .eq 7, 3) := by decide +kernel
theorem dX4_isIn_13 : decode cX4_isIn 13 = .ok (.iconst 1, 1) := by decide +kernel
theorem dX4_isIn_14 : decode cX4_isIn 14 = .ok (.goto 4, 3) := by decide +kernel
theorem dX4_isIn_17 : decode cX4_isIn 17 = .ok (.iconst 0, 1) := by decide +kernel
theorem dX4_isIn_18 : decode cX4_isIn 18 = .ok (.ireturn, 1) := by decide +kernel
theorem dX4_moved_0 : decode cX4_moved 0 = .ok (.iload_n 0, 1) := by decide +kernel
theorem dX4_moved_1 : decode cX4_moved 1 = .ok (.istore_n 3, 1) := by decide +kernel
theorem dX4_moved_2 : decode cX4_moved 2 = .ok (.iconst 1, 1) := by decide +kernel
theorem dX4_moved_3 : decode cX4_moved 3 = .ok (.istore 4, 2) := by decide +kernel
theorem dX4_moved_5 : decode cX4_moved 5 = .ok (.iconst 0, 1) := by decide +kernel
theorem dX4_moved_6 : decode cX4_moved 6 = .ok (.istore 5, 2) := by decide +kernel
theorem dX4_moved_8 : decode cX4_moved 8 = .ok (.iload 5, 2) := by decide +kernel
theorem dX4_moved_10 : decode cX4_moved 10 = .ok (.iconst 4, 1) := by decide +kernel
theorem dX4_moved_11 : decode cX4_moved 11 = .ok (.if_icmp .ge 26, 3) := by decide +kernel
theorem dX4_moved_14 : decode cX4_moved 14 = .ok (.iload_n 3, 1) := by decide +kernel
theorem dX4_moved_15 : decode cX4_moved 15 = .ok (.iload_n 1, 1) := by decide +kernel
theorem dX4_moved_16 : decode cX4_moved 16 = .ok (.if_icmp .le 21, 3) := by decide +kernel
theorem dX4_moved_19 : decode cX4_moved 19 = .ok (.iload_n 3, 1) := by decide +kernel
theorem dX4_moved_20 : decode cX4_moved 20 = .ok (.bipush 10, 2) := by decide +kernel
theorem dX4_moved_22 : decode cX4_moved 22 = .ok (.idiv, 1) := by decide +kernel
theorem dX4_moved_23 : decode cX4_moved 23 = .ok (.istore_n 3, 1) := by decide +kernel
theorem dX4_moved_24 : decode cX4_moved 24 = .ok (.iload 4, 2) := by decide +kernel
theorem dX4_moved_26 : decode cX4_moved 26 = .ok (.bipush 10, 2) := by decide +kernel
theorem dX4_moved_28 : decode cX4_moved 28 = .ok (.imul, 1) := by decide +kernel
theorem dX4_moved_29 : decode cX4_moved 29 = .ok (.istore 4, 2) := by decide +kernel
theorem dX4_moved_31 : decode cX4_moved 31 = .ok (.iinc 5 1, 3) := by decide +kernel
theorem dX4_moved_34 : decode cX4_moved 34 = .ok (.goto (-26), 3) := by decide +kernel
theorem dX4_moved_37 : decode cX4_moved 37 = .ok (.iload_n 0, 1) := by decide +kernel
theorem dX4_moved_38 : decode cX4_moved 38 = .ok (.iload_n 2, 1) := by decide +kernel
theorem dX4_moved_39 : decode cX4_moved 39 = .ok (.iload_n 1, 1) := by decide +kernel
theorem dX4_moved_40 : decode cX4_moved 40 = .ok (.isub, 1) := by decide +kernel
theorem dX4_moved_41 : decode cX4_moved 41 = .ok (.iload 4, 2) := by decide +kernel
theorem dX4_moved_43 : decode cX4_moved 43 = .ok (.imul, 1) := by decide +kernel
theorem dX4_moved_44 : decode cX4_moved 44 = .ok (.iadd, 1) := by decide +kernel
theorem dX4_moved_45 : decode cX4_moved 45 = .ok (.ireturn, 1) := by decide +kernel
theorem dX4_allowsWithParent_0 : decode cX4_allowsWithParent 0 = .ok (.aload_n 0, 1) := by decide +kernel
theorem dX4_allowsWithParent_1 : decode cX4_allowsWithParent 1 = .ok (.getfield 19, 3) := by decide +kernel
theorem dX4_allowsWithParent_4 : decode cX4_allowsWithParent 4 = .ok (.iload_n 1, 1) := by decide +kernel
theorem dX4_allowsWithParent_5 : decode cX4_allowsWithParent 5 = .ok (.iload_n 2, 1) := by decide +kernel
theorem dX4_allowsWithParent_6 : decode cX4_allowsWithParent 6 = .ok (.iload_n 3, 1) := by decide +kernel
theorem dX4_allowsWithParent_7 : decode cX4_allowsWithParent 7 = .ok (.invokevirtual 111, 3) := by decide +kernel
theorem dX4_allowsWithParent_10 : decode cX4_allowsWithParent 10 = .ok (.ifCond .eq 23, 3) := by decide +kernel
theorem dX4_allowsWithParent_13 : decode cX4_allowsWithParent 13 = .ok (.aload_n 0, 1) := by decide +kernel
theorem dX4_allowsWithParent_14 : decode cX4_allowsWithParent 14 = .ok (.getfield 19, 3) := by decide +kernel
theorem dX4_allowsWithParent_17 : decode cX4_allowsWithParent 17 = .ok (.iload_n 1, 1) := by decide +kernel
theorem dX4_allowsWithParent_18 : decode cX4_allowsWithParent 18 = .ok (.iload_n 2, 1) := by decide +kernel
theorem dX4_allowsWithParent_19 : decode cX4_allowsWithParent 19 = .ok (.invokestatic 41, 3) := by decide +kernel
theorem dX4_allowsWithParent_22 : decode cX4_allowsWithParent 22 = .ok (.iload_n 3, 1) := by decide +kernel
theorem dX4_allowsWithParent_23 : decode cX4_allowsWithParent 23 = .ok (.invokevirtual 111, 3) := by decide +kernel
theorem dX4_allowsWithParent_26 : decode cX4_allowsWithParent 26 = .ok (.ifCond .eq 7, 3) := by decide +kernel
theorem dX4_allowsWithParent_29 : decode cX4_allowsWithParent 29 = .ok (.iconst 1, 1) := by decide +kernel
theorem dX4_allowsWithParent_30 : decode cX4_allowsWithParent 30 = .ok (.goto 4, 3) := by decide +kernel
theorem dX4_allowsWithParent_33 : decode cX4_allowsWithParent 33 = .ok (.iconst 0, 1) := by decide +kernel
theorem dX4_allowsWithParent_34 : decode cX4_allowsWithParent 34 = .ok (.ireturn, 1) := by decide +kernel
theorem dX4_allowsTree_0 : decode cX4_allowsTree 0 = .ok (.iconst 0, 1) := by decide +kernel
theorem dX4_allowsTree_1 : decode cX4_allowsTree 1 = .ok (.istore 4, 2) := by decide +kernel
theorem dX4_allowsTree_3 : decode cX4_allowsTree 3 = .ok (.iload 4, 2) := by decide +kernel
theorem dX4_allowsTree_5 : decode cX4_allowsTree 5 = .ok (.aload_n 0, 1) := by decide +kernel
theorem dX4_allowsTree_6 : decode cX4_allowsTree 6 = .ok (.getfield 10, 3) := by decide +kernel
theorem dX4_allowsTree_9 : decode cX4_allowsTree 9 = .ok (.getfield 57, 3) := by decide +kernel
theorem dX4_allowsTree_12 : decode cX4_allowsTree 12 = .ok (.if_icmp .ge 49, 3) := by decide +kernel
theorem dX4_allowsTree_15 : decode cX4_allowsTree 15 = .ok (.aload_n 0, 1) := by decide +kernel
theorem dX4_allowsTree_16 : decode cX4_allowsTree 16 = .ok (.getfield 10, 3) := by decide +kernel
theorem dX4_allowsTree_19 : decode cX4_allowsTree 19 = .ok (.getfield 146, 3) := by decide +kernel
theorem dX4_allowsTree_22 : decode cX4_allowsTree 22 = .ok (.iload 4, 2) := by decide +kernel
theorem dX4_allowsTree_24 : decode cX4_allowsTree 24 = .ok (.aaload, 1) := by decide +kernel
theorem dX4_allowsTree_25 : decode cX4_allowsTree 25 = .ok (.getfield 150, 3) := by decide +kernel
theorem dX4_allowsTree_28 : decode cX4_allowsTree 28 = .ok (.istore 5, 2) := by decide +kernel
theorem dX4_allowsTree_30 : decode cX4_allowsTree 30 = .ok (.iload_n 2, 1) := by decide +kernel
theorem dX4_allowsTree_31 : decode cX4_allowsTree 31 = .ok (.iload 5, 2) := by decide +kernel
theorem dX4_allowsTree_33 : decode cX4_allowsTree 33 = .ok (.invokestatic 232, 3) := by decide +kernel
theorem dX4_allowsTree_36 : decode cX4_allowsTree 36 = .ok (.ifCond .eq 19, 3) := by decide +kernel
theorem dX4_allowsTree_39 : decode cX4_allowsTree 39 = .ok (.aload_n 0, 1) := by decide +kernel
theorem dX4_allowsTree_40 : decode cX4_allowsTree 40 = .ok (.getfield 19, 3) := by decide +kernel
theorem dX4_allowsTree_43 : decode cX4_allowsTree 43 = .ok (.iload_n 1, 1) := by decide +kernel
theorem dX4_allowsTree_44 : decode cX4_allowsTree 44 = .ok (.iload 5, 2) := by decide +kernel
theorem dX4_allowsTree_46 : decode cX4_allowsTree 46 = .ok (.iload_n 3, 1) := by decide +kernel
theorem dX4_allowsTree_47 : decode cX4_allowsTree 47 = .ok (.invokevirtual 111, 3) := by decide +kernel
theorem dX4_allowsTree_50 : decode cX4_allowsTree 50 = .ok (.ifCond .ne 5, 3) := by decide +kernel
theorem dX4_allowsTree_53 : decode cX4_allowsTree 53 = .ok (.iconst 0, 1) := by decide +kernel
theorem dX4_allowsTree_54 : decode cX4_allowsTree 54 = .ok (.ireturn, 1) := by decide +kernel
theorem dX4_allowsTree_55 : decode cX4_allowsTree 55 = .ok (.iinc 4 1, 3) := by decide +kernel
theorem dX4_allowsTree_58 : decode cX4_allowsTree 58 = .ok (.goto (-55), 3) := by decide +kernel
theorem dX4_allowsTree_61 : decode cX4_allowsTree 61 = .ok (.iconst 1, 1) := by decide +kernel
theorem dX4_allowsTree_62 : decode cX4_allowsTree 62 = .ok (.ireturn, 1) := by decide +kernel
theorem dX4_outcomeOfWriting_0 : decode cX4_outcomeOfWriting 0 = .ok (.aload_n 0, 1) := by decide +kernel
theorem dX4_outcomeOfWriting_1 : decode cX4_outcomeOfWriting 1 = .ok (.getfield 10, 3) := by decide +kernel
theorem dX4_outcomeOfWriting_4 : decode cX4_outcomeOfWriting 4 = .ok (.iload_n 2, 1) := by decide +kernel
theorem dX4_outcomeOfWriting_5 : decode cX4_outcomeOfWriting 5 = .ok (.invokestatic 41, 3) := by decide +kernel
theorem dX4_outcomeOfWriting_8 : decode cX4_outcomeOfWriting 8 = .ok (.invokevirtual 45, 3) := by decide +kernel
theorem dX4_outcomeOfWriting_11 : decode cX4_outcomeOfWriting 11 = .ok (.ifCond .ne 5, 3) := by decide +kernel
theorem dX4_outcomeOfWriting_14 : decode cX4_outcomeOfWriting 14 = .ok (.iconst 1, 1) := by decide +kernel
theorem dX4_outcomeOfWriting_15 : decode cX4_outcomeOfWriting 15 = .ok (.ireturn, 1) := by decide +kernel
theorem dX4_outcomeOfWriting_16 : decode cX4_outcomeOfWriting 16 = .ok (.aload_n 0, 1) := by decide +kernel
theorem dX4_outcomeOfWriting_17 : decode cX4_outcomeOfWriting 17 = .ok (.getfield 10, 3) := by decide +kernel
theorem dX4_outcomeOfWriting_20 : decode cX4_outcomeOfWriting 20 = .ok (.iload_n 2, 1) := by decide +kernel
theorem dX4_outcomeOfWriting_21 : decode cX4_outcomeOfWriting 21 = .ok (.invokevirtual 45, 3) := by decide +kernel
theorem dX4_outcomeOfWriting_24 : decode cX4_outcomeOfWriting 24 = .ok (.ifCond .eq 5, 3) := by decide +kernel
theorem dX4_outcomeOfWriting_27 : decode cX4_outcomeOfWriting 27 = .ok (.iconst 2, 1) := by decide +kernel
theorem dX4_outcomeOfWriting_28 : decode cX4_outcomeOfWriting 28 = .ok (.ireturn, 1) := by decide +kernel
theorem dX4_outcomeOfWriting_29 : decode cX4_outcomeOfWriting 29 = .ok (.aload_n 0, 1) := by decide +kernel
theorem dX4_outcomeOfWriting_30 : decode cX4_outcomeOfWriting 30 = .ok (.getfield 10, 3) := by decide +kernel
theorem dX4_outcomeOfWriting_33 : decode cX4_outcomeOfWriting 33 = .ok (.iload_n 2, 1) := by decide +kernel
theorem dX4_outcomeOfWriting_34 : decode cX4_outcomeOfWriting 34 = .ok (.invokevirtual 129, 3) := by decide +kernel
theorem dX4_outcomeOfWriting_37 : decode cX4_outcomeOfWriting 37 = .ok (.astore 5, 2) := by decide +kernel
theorem dX4_outcomeOfWriting_39 : decode cX4_outcomeOfWriting 39 = .ok (.iload_n 3, 1) := by decide +kernel
theorem dX4_outcomeOfWriting_40 : decode cX4_outcomeOfWriting 40 = .ok (.iconst (-1), 1) := by decide +kernel
theorem dX4_outcomeOfWriting_41 : decode cX4_outcomeOfWriting 41 = .ok (.if_icmp .eq 19, 3) := by decide +kernel
theorem dX4_outcomeOfWriting_44 : decode cX4_outcomeOfWriting 44 = .ok (.aload 5, 2) := by decide +kernel
theorem dX4_outcomeOfWriting_46 : decode cX4_outcomeOfWriting 46 = .ok (.ifnull 12, 3) := by decide +kernel
theorem dX4_outcomeOfWriting_49 : decode cX4_outcomeOfWriting 49 = .ok (.aload 5, 2) := by decide +kernel
theorem dX4_outcomeOfWriting_51 : decode cX4_outcomeOfWriting 51 = .ok (.getfield 132, 3) := by decide +kernel
theorem dX4_outcomeOfWriting_54 : decode cX4_outcomeOfWriting 54 = .ok (.iload_n 3, 1) := by decide +kernel
theorem dX4_outcomeOfWriting_55 : decode cX4_outcomeOfWriting 55 = .ok (.if_icmp .eq 5, 3) := by decide +kernel
theorem dX4_outcomeOfWriting_58 : decode cX4_outcomeOfWriting 58 = .ok (.iconst 3, 1) := by decide +kernel
theorem dX4_outcomeOfWriting_59 : decode cX4_outcomeOfWriting 59 = .ok (.ireturn, 1) := by decide +kernel
theorem dX4_outcomeOfWriting_60 : decode cX4_outcomeOfWriting 60 = .ok (.aload 5, 2) := by decide +kernel
theorem dX4_outcomeOfWriting_62 : decode cX4_outcomeOfWriting 62 = .ok (.ifnull 23, 3) := by decide +kernel
theorem dX4_outcomeOfWriting_65 : decode cX4_outcomeOfWriting 65 = .ok (.aload_n 0, 1) := by decide +kernel
theorem dX4_outcomeOfWriting_66 : decode cX4_outcomeOfWriting 66 = .ok (.getfield 19, 3) := by decide +kernel
theorem dX4_outcomeOfWriting_69 : decode cX4_outcomeOfWriting 69 = .ok (.iload_n 1, 1) := by decide +kernel
theorem dX4_outcomeOfWriting_70 : decode cX4_outcomeOfWriting 70 = .ok (.iload_n 2, 1) := by decide +kernel
theorem dX4_outcomeOfWriting_71 : decode cX4_outcomeOfWriting 71 = .ok (.iload 4, 2) := by decide +kernel
theorem dX4_outcomeOfWriting_73 : decode cX4_outcomeOfWriting 73 = .ok (.invokevirtual 111, 3) := by decide +kernel
theorem dX4_outcomeOfWriting_76 : decode cX4_outcomeOfWriting 76 = .ok (.ifCond .eq 7, 3) := by decide +kernel
theorem dX4_outcomeOfWriting_79 : decode cX4_outcomeOfWriting 79 = .ok (.iconst 0, 1) := by decide +kernel
theorem dX4_outcomeOfWriting_80 : decode cX4_outcomeOfWriting 80 = .ok (.goto 4, 3) := by decide +kernel
theorem dX4_outcomeOfWriting_83 : decode cX4_outcomeOfWriting 83 = .ok (.iconst 4, 1) := by decide +kernel
theorem dX4_outcomeOfWriting_84 : decode cX4_outcomeOfWriting 84 = .ok (.ireturn, 1) := by decide +kernel
theorem dX4_outcomeOfWriting_85 : decode cX4_outcomeOfWriting 85 = .ok (.aload_n 0, 1) := by decide +kernel
theorem dX4_outcomeOfWriting_86 : decode cX4_outcomeOfWriting 86 = .ok (.iload_n 1, 1) := by decide +kernel
theorem dX4_outcomeOfWriting_87 : decode cX4_outcomeOfWriting 87 = .ok (.iload_n 2, 1) := by decide +kernel
theorem dX4_outcomeOfWriting_88 : decode cX4_outcomeOfWriting 88 = .ok (.iload 4, 2) := by decide +kernel
theorem dX4_outcomeOfWriting_90 : decode cX4_outcomeOfWriting 90 = .ok (.invokevirtual 53, 3) := by decide +kernel
theorem dX4_outcomeOfWriting_93 : decode cX4_outcomeOfWriting 93 = .ok (.ifCond .ne 5, 3) := by decide +kernel
theorem dX4_outcomeOfWriting_96 : decode cX4_outcomeOfWriting 96 = .ok (.iconst 4, 1) := by decide +kernel
theorem dX4_outcomeOfWriting_97 : decode cX4_outcomeOfWriting 97 = .ok (.ireturn, 1) := by decide +kernel
theorem dX4_outcomeOfWriting_98 : decode cX4_outcomeOfWriting 98 = .ok (.aload_n 0, 1) := by decide +kernel
theorem dX4_outcomeOfWriting_99 : decode cX4_outcomeOfWriting 99 = .ok (.getfield 10, 3) := by decide +kernel
theorem dX4_outcomeOfWriting_102 : decode cX4_outcomeOfWriting 102 = .ok (.getfield 57, 3) := by decide +kernel
theorem dX4_outcomeOfWriting_105 : decode cX4_outcomeOfWriting 105 = .ok (.bipush 60, 2) := by decide +kernel
theorem dX4_outcomeOfWriting_107 : decode cX4_outcomeOfWriting 107 = .ok (.if_icmp .lt 7, 3) := by decide +kernel
theorem dX4_outcomeOfWriting_110 : decode cX4_outcomeOfWriting 110 = .ok (.iconst 5, 1) := by decide +kernel
theorem dX4_outcomeOfWriting_111 : decode cX4_outcomeOfWriting 111 = .ok (.goto 4, 3) := by decide +kernel
theorem dX4_outcomeOfWriting_114 : decode cX4_outcomeOfWriting 114 = .ok (.iconst 0, 1) := by decide +kernel
theorem dX4_outcomeOfWriting_115 : decode cX4_outcomeOfWriting 115 = .ok (.ireturn, 1) := by decide +kernel
theorem dX4_outcomeOfTarget_0 : decode cX4_outcomeOfTarget 0 = .ok (.aload_n 0, 1) := by decide +kernel
theorem dX4_outcomeOfTarget_1 : decode cX4_outcomeOfTarget 1 = .ok (.getfield 10, 3) := by decide +kernel
theorem dX4_outcomeOfTarget_4 : decode cX4_outcomeOfTarget 4 = .ok (.iload_n 2, 1) := by decide +kernel
theorem dX4_outcomeOfTarget_5 : decode cX4_outcomeOfTarget 5 = .ok (.invokevirtual 49, 3) := by decide +kernel
theorem dX4_outcomeOfTarget_8 : decode cX4_outcomeOfTarget 8 = .ok (.ifnull 29, 3) := by decide +kernel
theorem dX4_outcomeOfTarget_11 : decode cX4_outcomeOfTarget 11 = .ok (.aload_n 0, 1) := by decide +kernel
theorem dX4_outcomeOfTarget_12 : decode cX4_outcomeOfTarget 12 = .ok (.getfield 10, 3) := by decide +kernel
theorem dX4_outcomeOfTarget_15 : decode cX4_outcomeOfTarget 15 = .ok (.iload_n 3, 1) := by decide +kernel
theorem dX4_outcomeOfTarget_16 : decode cX4_outcomeOfTarget 16 = .ok (.invokestatic 41, 3) := by decide +kernel
theorem dX4_outcomeOfTarget_19 : decode cX4_outcomeOfTarget 19 = .ok (.invokevirtual 45, 3) := by decide +kernel
theorem dX4_outcomeOfTarget_22 : decode cX4_outcomeOfTarget 22 = .ok (.ifCond .eq 15, 3) := by decide +kernel
theorem dX4_outcomeOfTarget_25 : decode cX4_outcomeOfTarget 25 = .ok (.aload_n 0, 1) := by decide +kernel
theorem dX4_outcomeOfTarget_26 : decode cX4_outcomeOfTarget 26 = .ok (.getfield 10, 3) := by decide +kernel
theorem dX4_outcomeOfTarget_29 : decode cX4_outcomeOfTarget 29 = .ok (.iload_n 2, 1) := by decide +kernel
theorem dX4_outcomeOfTarget_30 : decode cX4_outcomeOfTarget 30 = .ok (.iload_n 3, 1) := by decide +kernel
theorem dX4_outcomeOfTarget_31 : decode cX4_outcomeOfTarget 31 = .ok (.invokevirtual 241, 3) := by decide +kernel
theorem dX4_outcomeOfTarget_34 : decode cX4_outcomeOfTarget 34 = .ok (.ifCond .ne 5, 3) := by decide +kernel
theorem dX4_outcomeOfTarget_37 : decode cX4_outcomeOfTarget 37 = .ok (.iconst 1, 1) := by decide +kernel
theorem dX4_outcomeOfTarget_38 : decode cX4_outcomeOfTarget 38 = .ok (.ireturn, 1) := by decide +kernel
theorem dX4_outcomeOfTarget_39 : decode cX4_outcomeOfTarget 39 = .ok (.iload 4, 2) := by decide +kernel
theorem dX4_outcomeOfTarget_41 : decode cX4_outcomeOfTarget 41 = .ok (.ifCond .ne 16, 3) := by decide +kernel
theorem dX4_outcomeOfTarget_44 : decode cX4_outcomeOfTarget 44 = .ok (.aload_n 0, 1) := by decide +kernel
theorem dX4_outcomeOfTarget_45 : decode cX4_outcomeOfTarget 45 = .ok (.getfield 10, 3) := by decide +kernel
theorem dX4_outcomeOfTarget_48 : decode cX4_outcomeOfTarget 48 = .ok (.iload_n 3, 1) := by decide +kernel
theorem dX4_outcomeOfTarget_49 : decode cX4_outcomeOfTarget 49 = .ok (.invokevirtual 49, 3) := by decide +kernel
theorem dX4_outcomeOfTarget_52 : decode cX4_outcomeOfTarget 52 = .ok (.ifnull 5, 3) := by decide +kernel
theorem dX4_outcomeOfTarget_55 : decode cX4_outcomeOfTarget 55 = .ok (.iconst 2, 1) := by decide +kernel
theorem dX4_outcomeOfTarget_56 : decode cX4_outcomeOfTarget 56 = .ok (.ireturn, 1) := by decide +kernel
theorem dX4_outcomeOfTarget_57 : decode cX4_outcomeOfTarget 57 = .ok (.aload_n 0, 1) := by decide +kernel
theorem dX4_outcomeOfTarget_58 : decode cX4_outcomeOfTarget 58 = .ok (.iload_n 1, 1) := by decide +kernel
theorem dX4_outcomeOfTarget_59 : decode cX4_outcomeOfTarget 59 = .ok (.iload_n 3, 1) := by decide +kernel
theorem dX4_outcomeOfTarget_60 : decode cX4_outcomeOfTarget 60 = .ok (.iload 5, 2) := by decide +kernel
theorem dX4_outcomeOfTarget_62 : decode cX4_outcomeOfTarget 62 = .ok (.invokevirtual 53, 3) := by decide +kernel
theorem dX4_outcomeOfTarget_65 : decode cX4_outcomeOfTarget 65 = .ok (.ifCond .eq 14, 3) := by decide +kernel
theorem dX4_outcomeOfTarget_68 : decode cX4_outcomeOfTarget 68 = .ok (.aload_n 0, 1) := by decide +kernel
theorem dX4_outcomeOfTarget_69 : decode cX4_outcomeOfTarget 69 = .ok (.iload_n 1, 1) := by decide +kernel
theorem dX4_outcomeOfTarget_70 : decode cX4_outcomeOfTarget 70 = .ok (.iload_n 3, 1) := by decide +kernel
theorem dX4_outcomeOfTarget_71 : decode cX4_outcomeOfTarget 71 = .ok (.iload 5, 2) := by decide +kernel
theorem dX4_outcomeOfTarget_73 : decode cX4_outcomeOfTarget 73 = .ok (.invokevirtual 114, 3) := by decide +kernel
theorem dX4_outcomeOfTarget_76 : decode cX4_outcomeOfTarget 76 = .ok (.ifCond .ne 5, 3) := by decide +kernel
theorem dX4_outcomeOfTarget_79 : decode cX4_outcomeOfTarget 79 = .ok (.iconst 4, 1) := by decide +kernel
theorem dX4_outcomeOfTarget_80 : decode cX4_outcomeOfTarget 80 = .ok (.ireturn, 1) := by decide +kernel
theorem dX4_outcomeOfTarget_81 : decode cX4_outcomeOfTarget 81 = .ok (.iconst 0, 1) := by decide +kernel
theorem dX4_outcomeOfTarget_82 : decode cX4_outcomeOfTarget 82 = .ok (.ireturn, 1) := by decide +kernel
theorem dX4_write_0 : decode cX4_write 0 = .ok (.aload_n 0, 1) := by decide +kernel
theorem dX4_write_1 : decode cX4_write 1 = .ok (.getfield 10, 3) := by decide +kernel
theorem dX4_write_4 : decode cX4_write 4 = .ok (.iload_n 1, 1) := by decide +kernel
theorem dX4_write_5 : decode cX4_write 5 = .ok (.invokevirtual 129, 3) := by decide +kernel
theorem dX4_write_8 : decode cX4_write 8 = .ok (.astore_n 3, 1) := by decide +kernel
theorem dX4_write_9 : decode cX4_write 9 = .ok (.aload_n 3, 1) := by decide +kernel
theorem dX4_write_10 : decode cX4_write 10 = .ok (.ifnonnull 16, 3) := by decide +kernel
theorem dX4_write_13 : decode cX4_write 13 = .ok (.aload_n 0, 1) := by decide +kernel
theorem dX4_write_14 : decode cX4_write 14 = .ok (.getfield 10, 3) := by decide +kernel
theorem dX4_write_17 : decode cX4_write 17 = .ok (.iload_n 1, 1) := by decide +kernel
theorem dX4_write_18 : decode cX4_write 18 = .ok (.iconst 1, 1) := by decide +kernel
theorem dX4_write_19 : decode cX4_write 19 = .ok (.iload_n 2, 1) := by decide +kernel
theorem dX4_write_20 : decode cX4_write 20 = .ok (.invokevirtual 60, 3) := by decide +kernel
theorem dX4_write_23 : decode cX4_write 23 = .ok (.goto 8, 3) := by decide +kernel
theorem dX4_write_26 : decode cX4_write 26 = .ok (.aload_n 3, 1) := by decide +kernel
theorem dX4_write_27 : decode cX4_write 27 = .ok (.iload_n 2, 1) := by decide +kernel
theorem dX4_write_28 : decode cX4_write 28 = .ok (.putfield 132, 3) := by decide +kernel
theorem dX4_write_31 : decode cX4_write 31 = .ok (.return_, 1) := by decide +kernel
theorem dX4_noteFailures_0 : decode cX4_noteFailures 0 = .ok (.iconst 0, 1) := by decide +kernel
theorem dX4_noteFailures_1 : decode cX4_noteFailures 1 = .ok (.istore 4, 2) := by decide +kernel
theorem dX4_noteFailures_3 : decode cX4_noteFailures 3 = .ok (.iload 4, 2) := by decide +kernel
theorem dX4_noteFailures_5 : decode cX4_noteFailures 5 = .ok (.aload_n 0, 1) := by decide +kernel
theorem dX4_noteFailures_6 : decode cX4_noteFailures 6 = .ok (.getfield 10, 3) := by decide +kernel
theorem dX4_noteFailures_9 : decode cX4_noteFailures 9 = .ok (.getfield 57, 3) := by decide +kernel
theorem dX4_noteFailures_12 : decode cX4_noteFailures 12 = .ok (.if_icmp .ge 53, 3) := by decide +kernel
theorem dX4_noteFailures_15 : decode cX4_noteFailures 15 = .ok (.aload_n 0, 1) := by decide +kernel
theorem dX4_noteFailures_16 : decode cX4_noteFailures 16 = .ok (.getfield 10, 3) := by decide +kernel
theorem dX4_noteFailures_19 : decode cX4_noteFailures 19 = .ok (.getfield 146, 3) := by decide +kernel
theorem dX4_noteFailures_22 : decode cX4_noteFailures 22 = .ok (.iload 4, 2) := by decide +kernel
theorem dX4_noteFailures_24 : decode cX4_noteFailures 24 = .ok (.aaload, 1) := by decide +kernel
theorem dX4_noteFailures_25 : decode cX4_noteFailures 25 = .ok (.getfield 150, 3) := by decide +kernel
theorem dX4_noteFailures_28 : decode cX4_noteFailures 28 = .ok (.istore 5, 2) := by decide +kernel
theorem dX4_noteFailures_30 : decode cX4_noteFailures 30 = .ok (.iload_n 2, 1) := by decide +kernel
theorem dX4_noteFailures_31 : decode cX4_noteFailures 31 = .ok (.iload 5, 2) := by decide +kernel
theorem dX4_noteFailures_33 : decode cX4_noteFailures 33 = .ok (.invokestatic 238, 3) := by decide +kernel
theorem dX4_noteFailures_36 : decode cX4_noteFailures 36 = .ok (.ifCond .eq 23, 3) := by decide +kernel
theorem dX4_noteFailures_39 : decode cX4_noteFailures 39 = .ok (.aload_n 0, 1) := by decide +kernel
theorem dX4_noteFailures_40 : decode cX4_noteFailures 40 = .ok (.getfield 19, 3) := by decide +kernel
theorem dX4_noteFailures_43 : decode cX4_noteFailures 43 = .ok (.iload_n 1, 1) := by decide +kernel
theorem dX4_noteFailures_44 : decode cX4_noteFailures 44 = .ok (.iload 5, 2) := by decide +kernel
theorem dX4_noteFailures_46 : decode cX4_noteFailures 46 = .ok (.iload_n 3, 1) := by decide +kernel
theorem dX4_noteFailures_47 : decode cX4_noteFailures 47 = .ok (.invokevirtual 111, 3) := by decide +kernel
theorem dX4_noteFailures_50 : decode cX4_noteFailures 50 = .ok (.ifCond .ne 9, 3) := by decide +kernel
theorem dX4_noteFailures_53 : decode cX4_noteFailures 53 = .ok (.aload_n 0, 1) := by decide +kernel
theorem dX4_noteFailures_54 : decode cX4_noteFailures 54 = .ok (.iload 5, 2) := by decide +kernel
theorem dX4_noteFailures_56 : decode cX4_noteFailures 56 = .ok (.invokevirtual 244, 3) := by decide +kernel
theorem dX4_noteFailures_59 : decode cX4_noteFailures 59 = .ok (.iinc 4 1, 3) := by decide +kernel
theorem dX4_noteFailures_62 : decode cX4_noteFailures 62 = .ok (.goto (-59), 3) := by decide +kernel
theorem dX4_noteFailures_65 : decode cX4_noteFailures 65 = .ok (.return_, 1) := by decide +kernel
theorem dX4_insertFailure_0 : decode cX4_insertFailure 0 = .ok (.aload_n 0, 1) := by decide +kernel
theorem dX4_insertFailure_1 : decode cX4_insertFailure 1 = .ok (.getfield 27, 3) := by decide +kernel
theorem dX4_insertFailure_4 : decode cX4_insertFailure 4 = .ok (.aload_n 0, 1) := by decide +kernel
theorem dX4_insertFailure_5 : decode cX4_insertFailure 5 = .ok (.getfield 23, 3) := by decide +kernel
theorem dX4_insertFailure_8 : decode cX4_insertFailure 8 = .ok (.arraylength, 1) := by decide +kernel
theorem dX4_insertFailure_9 : decode cX4_insertFailure 9 = .ok (.if_icmp .lt 4, 3) := by decide +kernel
theorem dX4_insertFailure_12 : decode cX4_insertFailure 12 = .ok (.return_, 1) := by decide +kernel
theorem dX4_insertFailure_13 : decode cX4_insertFailure 13 = .ok (.aload_n 0, 1) := by decide +kernel
theorem dX4_insertFailure_14 : decode cX4_insertFailure 14 = .ok (.getfield 27, 3) := by decide +kernel
theorem dX4_insertFailure_17 : decode cX4_insertFailure 17 = .ok (.istore_n 2, 1) := by decide +kernel
theorem dX4_insertFailure_18 : decode cX4_insertFailure 18 = .ok (.iload_n 2, 1) := by decide +kernel
theorem dX4_insertFailure_19 : decode cX4_insertFailure 19 = .ok (.ifCond .le 35, 3) := by decide +kernel
theorem dX4_insertFailure_22 : decode cX4_insertFailure 22 = .ok (.aload_n 0, 1) := by decide +kernel
theorem dX4_insertFailure_23 : decode cX4_insertFailure 23 = .ok (.getfield 23, 3) := by decide +kernel
theorem dX4_insertFailure_26 : decode cX4_insertFailure 26 = .ok (.iload_n 2, 1) := by decide +kernel
theorem dX4_insertFailure_27 : decode cX4_insertFailure 27 = .ok (.iconst 1, 1) := by decide +kernel
theorem dX4_insertFailure_28 : decode cX4_insertFailure 28 = .ok (.isub, 1) := by decide +kernel
theorem dX4_insertFailure_29 : decode cX4_insertFailure 29 = .ok (.iaload, 1) := by decide +kernel
theorem dX4_insertFailure_30 : decode cX4_insertFailure 30 = .ok (.iload_n 1, 1) := by decide +kernel
theorem dX4_insertFailure_31 : decode cX4_insertFailure 31 = .ok (.if_icmp .le 23, 3) := by decide +kernel
theorem dX4_insertFailure_34 : decode cX4_insertFailure 34 = .ok (.aload_n 0, 1) := by decide +kernel
theorem dX4_insertFailure_35 : decode cX4_insertFailure 35 = .ok (.getfield 23, 3) := by decide +kernel
theorem dX4_insertFailure_38 : decode cX4_insertFailure 38 = .ok (.iload_n 2, 1) := by decide +kernel
theorem dX4_insertFailure_39 : decode cX4_insertFailure 39 = .ok (.aload_n 0, 1) := by decide +kernel
theorem dX4_insertFailure_40 : decode cX4_insertFailure 40 = .ok (.getfield 23, 3) := by decide +kernel
theorem dX4_insertFailure_43 : decode cX4_insertFailure 43 = .ok (.iload_n 2, 1) := by decide +kernel
theorem dX4_insertFailure_44 : decode cX4_insertFailure 44 = .ok (.iconst 1, 1) := by decide +kernel
theorem dX4_insertFailure_45 : decode cX4_insertFailure 45 = .ok (.isub, 1) := by decide +kernel
theorem dX4_insertFailure_46 : decode cX4_insertFailure 46 = .ok (.iaload, 1) := by decide +kernel
theorem dX4_insertFailure_47 : decode cX4_insertFailure 47 = .ok (.iastore, 1) := by decide +kernel
theorem dX4_insertFailure_48 : decode cX4_insertFailure 48 = .ok (.iinc 2 (-1), 3) := by decide +kernel
theorem dX4_insertFailure_51 : decode cX4_insertFailure 51 = .ok (.goto (-33), 3) := by decide +kernel
theorem dX4_insertFailure_54 : decode cX4_insertFailure 54 = .ok (.aload_n 0, 1) := by decide +kernel
theorem dX4_insertFailure_55 : decode cX4_insertFailure 55 = .ok (.getfield 23, 3) := by decide +kernel
theorem dX4_insertFailure_58 : decode cX4_insertFailure 58 = .ok (.iload_n 2, 1) := by decide +kernel
theorem dX4_insertFailure_59 : decode cX4_insertFailure 59 = .ok (.iload_n 1, 1) := by decide +kernel
theorem dX4_insertFailure_60 : decode cX4_insertFailure 60 = .ok (.iastore, 1) := by decide +kernel
theorem dX4_insertFailure_61 : decode cX4_insertFailure 61 = .ok (.aload_n 0, 1) := by decide +kernel
theorem dX4_insertFailure_62 : decode cX4_insertFailure 62 = .ok (.dup, 1) := by decide +kernel
theorem dX4_insertFailure_63 : decode cX4_insertFailure 63 = .ok (.getfield 27, 3) := by decide +kernel
theorem dX4_insertFailure_66 : decode cX4_insertFailure 66 = .ok (.iconst 1, 1) := by decide +kernel
theorem dX4_insertFailure_67 : decode cX4_insertFailure 67 = .ok (.iadd, 1) := by decide +kernel
theorem dX4_insertFailure_68 : decode cX4_insertFailure 68 = .ok (.putfield 27, 3) := by decide +kernel
theorem dX4_insertFailure_71 : decode cX4_insertFailure 71 = .ok (.return_, 1) := by decide +kernel
theorem dX4_spareFailures_0 : decode cX4_spareFailures 0 = .ok (.iconst 0, 1) := by decide +kernel
theorem dX4_spareFailures_1 : decode cX4_spareFailures 1 = .ok (.istore_n 1, 1) := by decide +kernel
theorem dX4_spareFailures_2 : decode cX4_spareFailures 2 = .ok (.iload_n 1, 1) := by decide +kernel
theorem dX4_spareFailures_3 : decode cX4_spareFailures 3 = .ok (.aload_n 0, 1) := by decide +kernel
theorem dX4_spareFailures_4 : decode cX4_spareFailures 4 = .ok (.getfield 27, 3) := by decide +kernel
theorem dX4_spareFailures_7 : decode cX4_spareFailures 7 = .ok (.if_icmp .ge 31, 3) := by decide +kernel
theorem dX4_spareFailures_10 : decode cX4_spareFailures 10 = .ok (.iload_n 1, 1) := by decide +kernel
theorem dX4_spareFailures_11 : decode cX4_spareFailures 11 = .ok (.aload_n 0, 1) := by decide +kernel
theorem dX4_spareFailures_12 : decode cX4_spareFailures 12 = .ok (.getfield 23, 3) := by decide +kernel
theorem dX4_spareFailures_15 : decode cX4_spareFailures 15 = .ok (.arraylength, 1) := by decide +kernel
theorem dX4_spareFailures_16 : decode cX4_spareFailures 16 = .ok (.if_icmp .ge 22, 3) := by decide +kernel
theorem dX4_spareFailures_19 : decode cX4_spareFailures 19 = .ok (.aload_n 0, 1) := by decide +kernel
theorem dX4_spareFailures_20 : decode cX4_spareFailures 20 = .ok (.getfield 10, 3) := by decide +kernel
theorem dX4_spareFailures_23 : decode cX4_spareFailures 23 = .ok (.aload_n 0, 1) := by decide +kernel
theorem dX4_spareFailures_24 : decode cX4_spareFailures 24 = .ok (.getfield 23, 3) := by decide +kernel
theorem dX4_spareFailures_27 : decode cX4_spareFailures 27 = .ok (.iload_n 1, 1) := by decide +kernel
theorem dX4_spareFailures_28 : decode cX4_spareFailures 28 = .ok (.iaload, 1) := by decide +kernel
theorem dX4_spareFailures_29 : decode cX4_spareFailures 29 = .ok (.invokevirtual 247, 3) := by decide +kernel
theorem dX4_spareFailures_32 : decode cX4_spareFailures 32 = .ok (.iinc 1 1, 3) := by decide +kernel
theorem dX4_spareFailures_35 : decode cX4_spareFailures 35 = .ok (.goto (-33), 3) := by decide +kernel
theorem dX4_spareFailures_38 : decode cX4_spareFailures 38 = .ok (.return_, 1) := by decide +kernel
theorem dX4_removeTree_0 : decode cX4_removeTree 0 = .ok (.aload_n 0, 1) := by decide +kernel
theorem dX4_removeTree_1 : decode cX4_removeTree 1 = .ok (.getfield 10, 3) := by decide +kernel
theorem dX4_removeTree_4 : decode cX4_removeTree 4 = .ok (.iload_n 1, 1) := by decide +kernel
theorem dX4_removeTree_5 : decode cX4_removeTree 5 = .ok (.invokevirtual 78, 3) := by decide +kernel
theorem dX4_removeTree_8 : decode cX4_removeTree 8 = .ok (.aload_n 0, 1) := by decide +kernel
theorem dX4_removeTree_9 : decode cX4_removeTree 9 = .ok (.invokevirtual 84, 3) := by decide +kernel
theorem dX4_removeTree_12 : decode cX4_removeTree 12 = .ok (.return_, 1) := by decide +kernel
theorem dX4_removeMarked_0 : decode cX4_removeMarked 0 = .ok (.iconst 0, 1) := by decide +kernel
theorem dX4_removeMarked_1 : decode cX4_removeMarked 1 = .ok (.istore_n 1, 1) := by decide +kernel
theorem dX4_removeMarked_2 : decode cX4_removeMarked 2 = .ok (.iload_n 1, 1) := by decide +kernel
theorem dX4_removeMarked_3 : decode cX4_removeMarked 3 = .ok (.aload_n 0, 1) := by decide +kernel
theorem dX4_removeMarked_4 : decode cX4_removeMarked 4 = .ok (.getfield 10, 3) := by decide +kernel
theorem dX4_removeMarked_7 : decode cX4_removeMarked 7 = .ok (.getfield 57, 3) := by decide +kernel
theorem dX4_removeMarked_10 : decode cX4_removeMarked 10 = .ok (.if_icmp .ge 43, 3) := by decide +kernel
theorem dX4_removeMarked_13 : decode cX4_removeMarked 13 = .ok (.aload_n 0, 1) := by decide +kernel
theorem dX4_removeMarked_14 : decode cX4_removeMarked 14 = .ok (.getfield 10, 3) := by decide +kernel
theorem dX4_removeMarked_17 : decode cX4_removeMarked 17 = .ok (.getfield 146, 3) := by decide +kernel
theorem dX4_removeMarked_20 : decode cX4_removeMarked 20 = .ok (.iload_n 1, 1) := by decide +kernel
theorem dX4_removeMarked_21 : decode cX4_removeMarked 21 = .ok (.aaload, 1) := by decide +kernel
theorem dX4_removeMarked_22 : decode cX4_removeMarked 22 = .ok (.getfield 250, 3) := by decide +kernel
theorem dX4_removeMarked_25 : decode cX4_removeMarked 25 = .ok (.ifCond .eq 22, 3) := by decide +kernel
theorem dX4_removeMarked_28 : decode cX4_removeMarked 28 = .ok (.aload_n 0, 1) := by decide +kernel
theorem dX4_removeMarked_29 : decode cX4_removeMarked 29 = .ok (.getfield 19, 3) := by decide +kernel
theorem dX4_removeMarked_32 : decode cX4_removeMarked 32 = .ok (.aload_n 0, 1) := by decide +kernel
theorem dX4_removeMarked_33 : decode cX4_removeMarked 33 = .ok (.getfield 10, 3) := by decide +kernel
theorem dX4_removeMarked_36 : decode cX4_removeMarked 36 = .ok (.getfield 146, 3) := by decide +kernel
theorem dX4_removeMarked_39 : decode cX4_removeMarked 39 = .ok (.iload_n 1, 1) := by decide +kernel
theorem dX4_removeMarked_40 : decode cX4_removeMarked 40 = .ok (.aaload, 1) := by decide +kernel
theorem dX4_removeMarked_41 : decode cX4_removeMarked 41 = .ok (.getfield 150, 3) := by decide +kernel
theorem dX4_removeMarked_44 : decode cX4_removeMarked 44 = .ok (.invokevirtual 254, 3) := by decide +kernel
theorem dX4_removeMarked_47 : decode cX4_removeMarked 47 = .ok (.iinc 1 1, 3) := by decide +kernel
theorem dX4_removeMarked_50 : decode cX4_removeMarked 50 = .ok (.goto (-48), 3) := by decide +kernel
theorem dX4_removeMarked_53 : decode cX4_removeMarked 53 = .ok (.aload_n 0, 1) := by decide +kernel
theorem dX4_removeMarked_54 : decode cX4_removeMarked 54 = .ok (.getfield 10, 3) := by decide +kernel
theorem dX4_removeMarked_57 : decode cX4_removeMarked 57 = .ok (.invokevirtual 257, 3) := by decide +kernel
theorem dX4_removeMarked_60 : decode cX4_removeMarked 60 = .ok (.return_, 1) := by decide +kernel
theorem dX4_dropLocksOfTree_0 : decode cX4_dropLocksOfTree 0 = .ok (.iconst 0, 1) := by decide +kernel
theorem dX4_dropLocksOfTree_1 : decode cX4_dropLocksOfTree 1 = .ok (.istore_n 2, 1) := by decide +kernel
theorem dX4_dropLocksOfTree_2 : decode cX4_dropLocksOfTree 2 = .ok (.iload_n 2, 1) := by decide +kernel
theorem dX4_dropLocksOfTree_3 : decode cX4_dropLocksOfTree 3 = .ok (.aload_n 0, 1) := by decide +kernel
theorem dX4_dropLocksOfTree_4 : decode cX4_dropLocksOfTree 4 = .ok (.getfield 10, 3) := by decide +kernel
theorem dX4_dropLocksOfTree_7 : decode cX4_dropLocksOfTree 7 = .ok (.getfield 57, 3) := by decide +kernel
theorem dX4_dropLocksOfTree_10 : decode cX4_dropLocksOfTree 10 = .ok (.if_icmp .ge 47, 3) := by decide +kernel
theorem dX4_dropLocksOfTree_13 : decode cX4_dropLocksOfTree 13 = .ok (.iload_n 1, 1) := by decide +kernel
theorem dX4_dropLocksOfTree_14 : decode cX4_dropLocksOfTree 14 = .ok (.aload_n 0, 1) := by decide +kernel
theorem dX4_dropLocksOfTree_15 : decode cX4_dropLocksOfTree 15 = .ok (.getfield 10, 3) := by decide +kernel
theorem dX4_dropLocksOfTree_18 : decode cX4_dropLocksOfTree 18 = .ok (.getfield 146, 3) := by decide +kernel
theorem dX4_dropLocksOfTree_21 : decode cX4_dropLocksOfTree 21 = .ok (.iload_n 2, 1) := by decide +kernel
theorem dX4_dropLocksOfTree_22 : decode cX4_dropLocksOfTree 22 = .ok (.aaload, 1) := by decide +kernel
theorem dX4_dropLocksOfTree_23 : decode cX4_dropLocksOfTree 23 = .ok (.getfield 150, 3) := by decide +kernel
theorem dX4_dropLocksOfTree_26 : decode cX4_dropLocksOfTree 26 = .ok (.invokestatic 232, 3) := by decide +kernel
theorem dX4_dropLocksOfTree_29 : decode cX4_dropLocksOfTree 29 = .ok (.ifCond .eq 22, 3) := by decide +kernel
theorem dX4_dropLocksOfTree_32 : decode cX4_dropLocksOfTree 32 = .ok (.aload_n 0, 1) := by decide +kernel
theorem dX4_dropLocksOfTree_33 : decode cX4_dropLocksOfTree 33 = .ok (.getfield 19, 3) := by decide +kernel
theorem dX4_dropLocksOfTree_36 : decode cX4_dropLocksOfTree 36 = .ok (.aload_n 0, 1) := by decide +kernel
theorem dX4_dropLocksOfTree_37 : decode cX4_dropLocksOfTree 37 = .ok (.getfield 10, 3) := by decide +kernel
theorem dX4_dropLocksOfTree_40 : decode cX4_dropLocksOfTree 40 = .ok (.getfield 146, 3) := by decide +kernel
theorem dX4_dropLocksOfTree_43 : decode cX4_dropLocksOfTree 43 = .ok (.iload_n 2, 1) := by decide +kernel
theorem dX4_dropLocksOfTree_44 : decode cX4_dropLocksOfTree 44 = .ok (.aaload, 1) := by decide +kernel
theorem dX4_dropLocksOfTree_45 : decode cX4_dropLocksOfTree 45 = .ok (.getfield 150, 3) := by decide +kernel
theorem dX4_dropLocksOfTree_48 : decode cX4_dropLocksOfTree 48 = .ok (.invokevirtual 254, 3) := by decide +kernel
theorem dX4_dropLocksOfTree_51 : decode cX4_dropLocksOfTree 51 = .ok (.iinc 2 1, 3) := by decide +kernel
theorem dX4_dropLocksOfTree_54 : decode cX4_dropLocksOfTree 54 = .ok (.goto (-52), 3) := by decide +kernel
theorem dX4_dropLocksOfTree_57 : decode cX4_dropLocksOfTree 57 = .ok (.return_, 1) := by decide +kernel
theorem dX5_init_0 : decode cX5_init 0 = .ok (.aload_n 0, 1) := by decide +kernel
theorem dX5_init_1 : decode cX5_init 1 = .ok (.invokespecial 1, 3) := by decide +kernel
theorem dX5_init_4 : decode cX5_init 4 = .ok (.aload_n 0, 1) := by decide +kernel
theorem dX5_init_5 : decode cX5_init 5 = .ok (.bipush 60, 2) := by decide +kernel
theorem dX5_init_7 : decode cX5_init 7 = .ok (.newarray .boolean, 2) := by decide +kernel
theorem dX5_init_9 : decode cX5_init 9 = .ok (.putfield 7, 3) := by decide +kernel
theorem dX5_init_12 : decode cX5_init 12 = .ok (.aload_n 0, 1) := by decide +kernel
theorem dX5_init_13 : decode cX5_init 13 = .ok (.bipush 60, 2) := by decide +kernel
theorem dX5_init_15 : decode cX5_init 15 = .ok (.newarray .int, 2) := by decide +kernel
theorem dX5_init_17 : decode cX5_init 17 = .ok (.putfield 13, 3) := by decide +kernel
theorem dX5_init_20 : decode cX5_init 20 = .ok (.aload_n 0, 1) := by decide +kernel
theorem dX5_init_21 : decode cX5_init 21 = .ok (.bipush 60, 2) := by decide +kernel
theorem dX5_init_23 : decode cX5_init 23 = .ok (.newarray .int, 2) := by decide +kernel
theorem dX5_init_25 : decode cX5_init 25 = .ok (.putfield 17, 3) := by decide +kernel
theorem dX5_init_28 : decode cX5_init 28 = .ok (.aload_n 0, 1) := by decide +kernel
theorem dX5_init_29 : decode cX5_init 29 = .ok (.bipush 60, 2) := by decide +kernel
theorem dX5_init_31 : decode cX5_init 31 = .ok (.newarray .int, 2) := by decide +kernel
theorem dX5_init_33 : decode cX5_init 33 = .ok (.putfield 20, 3) := by decide +kernel
theorem dX5_init_36 : decode cX5_init 36 = .ok (.aload_n 0, 1) := by decide +kernel
theorem dX5_init_37 : decode cX5_init 37 = .ok (.bipush 60, 2) := by decide +kernel
theorem dX5_init_39 : decode cX5_init 39 = .ok (.newarray .int, 2) := by decide +kernel
theorem dX5_init_41 : decode cX5_init 41 = .ok (.putfield 23, 3) := by decide +kernel
theorem dX5_init_44 : decode cX5_init 44 = .ok (.aload_n 0, 1) := by decide +kernel
theorem dX5_init_45 : decode cX5_init 45 = .ok (.bipush 60, 2) := by decide +kernel
theorem dX5_init_47 : decode cX5_init 47 = .ok (.newarray .int, 2) := by decide +kernel
theorem dX5_init_49 : decode cX5_init 49 = .ok (.putfield 26, 3) := by decide +kernel
theorem dX5_init_52 : decode cX5_init 52 = .ok (.aload_n 0, 1) := by decide +kernel
theorem dX5_init_53 : decode cX5_init 53 = .ok (.sipush 600, 3) := by decide +kernel
theorem dX5_init_56 : decode cX5_init 56 = .ok (.newarray .int, 2) := by decide +kernel
theorem dX5_init_58 : decode cX5_init 58 = .ok (.putfield 29, 3) := by decide +kernel
theorem dX5_init_61 : decode cX5_init 61 = .ok (.aload_n 0, 1) := by decide +kernel
theorem dX5_init_62 : decode cX5_init 62 = .ok (.bipush 30, 2) := by decide +kernel
theorem dX5_init_64 : decode cX5_init 64 = .ok (.newarray .int, 2) := by decide +kernel
theorem dX5_init_66 : decode cX5_init 66 = .ok (.putfield 32, 3) := by decide +kernel
theorem dX5_init_69 : decode cX5_init 69 = .ok (.aload_n 0, 1) := by decide +kernel
theorem dX5_init_70 : decode cX5_init 70 = .ok (.bipush 30, 2) := by decide +kernel
theorem dX5_init_72 : decode cX5_init 72 = .ok (.newarray .int, 2) := by decide +kernel
theorem dX5_init_74 : decode cX5_init 74 = .ok (.putfield 35, 3) := by decide +kernel
theorem dX5_init_77 : decode cX5_init 77 = .ok (.aload_n 0, 1) := by decide +kernel
theorem dX5_init_78 : decode cX5_init 78 = .ok (.bipush 30, 2) := by decide +kernel
theorem dX5_init_80 : decode cX5_init 80 = .ok (.newarray .boolean, 2) := by decide +kernel
theorem dX5_init_82 : decode cX5_init 82 = .ok (.putfield 38, 3) := by decide +kernel
theorem dX5_init_85 : decode cX5_init 85 = .ok (.aload_n 0, 1) := by decide +kernel
theorem dX5_init_86 : decode cX5_init 86 = .ok (.bipush 30, 2) := by decide +kernel
theorem dX5_init_88 : decode cX5_init 88 = .ok (.newarray .boolean, 2) := by decide +kernel
theorem dX5_init_90 : decode cX5_init 90 = .ok (.putfield 41, 3) := by decide +kernel
theorem dX5_init_93 : decode cX5_init 93 = .ok (.aload_n 0, 1) := by decide +kernel
theorem dX5_init_94 : decode cX5_init 94 = .ok (.bipush 30, 2) := by decide +kernel
theorem dX5_init_96 : decode cX5_init 96 = .ok (.newarray .int, 2) := by decide +kernel
theorem dX5_init_98 : decode cX5_init 98 = .ok (.putfield 44, 3) := by decide +kernel
theorem dX5_init_101 : decode cX5_init 101 = .ok (.aload_n 0, 1) := by decide +kernel
theorem dX5_init_102 : decode cX5_init 102 = .ok (.bipush 60, 2) := by decide +kernel
theorem dX5_init_104 : decode cX5_init 104 = .ok (.newarray .int, 2) := by decide +kernel
theorem dX5_init_106 : decode cX5_init 106 = .ok (.putfield 47, 3) := by decide +kernel
theorem dX5_init_109 : decode cX5_init 109 = .ok (.aload_n 0, 1) := by decide +kernel
theorem dX5_init_110 : decode cX5_init 110 = .ok (.bipush 60, 2) := by decide +kernel
theorem dX5_init_112 : decode cX5_init 112 = .ok (.newarray .boolean, 2) := by decide +kernel
theorem dX5_init_114 : decode cX5_init 114 = .ok (.putfield 50, 3) := by decide +kernel
theorem dX5_init_117 : decode cX5_init 117 = .ok (.aload_n 0, 1) := by decide +kernel
theorem dX5_init_118 : decode cX5_init 118 = .ok (.bipush 60, 2) := by decide +kernel
theorem dX5_init_120 : decode cX5_init 120 = .ok (.newarray .boolean, 2) := by decide +kernel
theorem dX5_init_122 : decode cX5_init 122 = .ok (.putfield 53, 3) := by decide +kernel
theorem dX5_init_125 : decode cX5_init 125 = .ok (.return_, 1) := by decide +kernel
theorem dX5_thrown_0 : decode cX5_thrown 0 = .ok (.aload_n 0, 1) := by decide +kernel
theorem dX5_thrown_1 : decode cX5_thrown 1 = .ok (.getfield 56, 3) := by decide +kernel
theorem dX5_thrown_4 : decode cX5_thrown 4 = .ok (.ireturn, 1) := by decide +kernel
theorem dX5_isIn_0 : decode cX5_isIn 0 = .ok (.iload_n 0, 1) := by decide +kernel
theorem dX5_isIn_1 : decode cX5_isIn 1 = .ok (.iload_n 1, 1) := by decide +kernel
theorem dX5_isIn_2 : decode cX5_isIn 2 = .ok (.if_icmp .lt 12, 3) := by decide +kernel
theorem dX5_isIn_5 : decode cX5_isIn 5 = .ok (.iload_n 0, 1) := by decide +kernel
theorem dX5_isIn_6 : decode cX5_isIn 6 = .ok (.iload_n 2, 1) := by decide +kernel
theorem dX5_isIn_7 : decode cX5_isIn 7 = .ok (.if_icmp .gt 7, 3) := by decide +kernel
theorem dX5_isIn_10 : decode cX5_isIn 10 = .ok (.iconst 1, 1) := by decide +kernel
theorem dX5_isIn_11 : decode cX5_isIn 11 = .ok (.goto 4, 3) := by decide +kernel
theorem dX5_isIn_14 : decode cX5_isIn 14 = .ok (.iconst 0, 1) := by decide +kernel
theorem dX5_isIn_15 : decode cX5_isIn 15 = .ok (.ireturn, 1) := by decide +kernel
theorem dX5_isPath_0 : decode cX5_isPath 0 = .ok (.iload_n 0, 1) := by decide +kernel
theorem dX5_isPath_1 : decode cX5_isPath 1 = .ok (.iconst 0, 1) := by decide +kernel
theorem dX5_isPath_2 : decode cX5_isPath 2 = .ok (.sipush 9999, 3) := by decide +kernel
theorem dX5_isPath_5 : decode cX5_isPath 5 = .ok (.invokestatic 60, 3) := by decide +kernel
theorem dX5_isPath_8 : decode cX5_isPath 8 = .ok (.istore_n 1, 1) := by decide +kernel
theorem dX5_isPath_9 : decode cX5_isPath 9 = .ok (.iload_n 0, 1) := by decide +kernel
theorem dX5_isPath_10 : decode cX5_isPath 10 = .ok (.istore_n 2, 1) := by decide +kernel
theorem dX5_isPath_11 : decode cX5_isPath 11 = .ok (.iload_n 1, 1) := by decide +kernel
theorem dX5_isPath_12 : decode cX5_isPath 12 = .ok (.ifCond .eq 28, 3) := by decide +kernel
theorem dX5_isPath_15 : decode cX5_isPath 15 = .ok (.iload_n 2, 1) := by decide +kernel
theorem dX5_isPath_16 : decode cX5_isPath 16 = .ok (.ifCond .le 24, 3) := by decide +kernel
theorem dX5_isPath_19 : decode cX5_isPath 19 = .ok (.iload_n 2, 1) := by decide +kernel
theorem dX5_isPath_20 : decode cX5_isPath 20 = .ok (.bipush 10, 2) := by decide +kernel
theorem dX5_isPath_22 : decode cX5_isPath 22 = .ok (.irem, 1) := by decide +kernel
theorem dX5_isPath_23 : decode cX5_isPath 23 = .ok (.ifCond .le 7, 3) := by decide +kernel
theorem dX5_isPath_26 : decode cX5_isPath 26 = .ok (.iconst 1, 1) := by decide +kernel
theorem dX5_isPath_27 : decode cX5_isPath 27 = .ok (.goto 4, 3) := by decide +kernel
theorem dX5_isPath_30 : decode cX5_isPath 30 = .ok (.iconst 0, 1) := by decide +kernel
theorem dX5_isPath_31 : decode cX5_isPath 31 = .ok (.istore_n 1, 1) := by decide +kernel
theorem dX5_isPath_32 : decode cX5_isPath 32 = .ok (.iload_n 2, 1) := by decide +kernel
theorem dX5_isPath_33 : decode cX5_isPath 33 = .ok (.bipush 10, 2) := by decide +kernel
theorem dX5_isPath_35 : decode cX5_isPath 35 = .ok (.idiv, 1) := by decide +kernel
theorem dX5_isPath_36 : decode cX5_isPath 36 = .ok (.istore_n 2, 1) := by decide +kernel
theorem dX5_isPath_37 : decode cX5_isPath 37 = .ok (.goto (-26), 3) := by decide +kernel
theorem dX5_isPath_40 : decode cX5_isPath 40 = .ok (.iload_n 1, 1) := by decide +kernel
theorem dX5_isPath_41 : decode cX5_isPath 41 = .ok (.ireturn, 1) := by decide +kernel
theorem dX5_isName_0 : decode cX5_isName 0 = .ok (.iload_n 0, 1) := by decide +kernel
theorem dX5_isName_1 : decode cX5_isName 1 = .ok (.ifCond .eq 14, 3) := by decide +kernel
theorem dX5_isName_4 : decode cX5_isName 4 = .ok (.iload_n 0, 1) := by decide +kernel
theorem dX5_isName_5 : decode cX5_isName 5 = .ok (.invokestatic 64, 3) := by decide +kernel
theorem dX5_isName_8 : decode cX5_isName 8 = .ok (.ifCond .eq 7, 3) := by decide +kernel
theorem dX5_isName_11 : decode cX5_isName 11 = .ok (.iconst 1, 1) := by decide +kernel
theorem dX5_isName_12 : decode cX5_isName 12 = .ok (.goto 4, 3) := by decide +kernel
theorem dX5_isName_15 : decode cX5_isName 15 = .ok (.iconst 0, 1) := by decide +kernel
theorem dX5_isName_16 : decode cX5_isName 16 = .ok (.ireturn, 1) := by decide +kernel
theorem dX5_isClient_0 : decode cX5_isClient 0 = .ok (.iload_n 0, 1) := by decide +kernel
theorem dX5_isClient_1 : decode cX5_isClient 1 = .ok (.iconst 0, 1) := by decide +kernel
theorem dX5_isClient_2 : decode cX5_isClient 2 = .ok (.iconst 3, 1) := by decide +kernel
theorem dX5_isClient_3 : decode cX5_isClient 3 = .ok (.invokestatic 60, 3) := by decide +kernel
theorem dX5_isClient_6 : decode cX5_isClient 6 = .ok (.ireturn, 1) := by decide +kernel
theorem dX5_isRight_0 : decode cX5_isRight 0 = .ok (.aload_n 0, 1) := by decide +kernel
theorem dX5_isRight_1 : decode cX5_isRight 1 = .ok (.iload_n 1, 1) := by decide +kernel
theorem dX5_isRight_2 : decode cX5_isRight 2 = .ok (.invokestatic 68, 3) := by decide +kernel
theorem dX5_isRight_5 : decode cX5_isRight 5 = .ok (.ifCond .eq 18, 3) := by decide +kernel
theorem dX5_isRight_8 : decode cX5_isRight 8 = .ok (.iload_n 2, 1) := by decide +kernel
theorem dX5_isRight_9 : decode cX5_isRight 9 = .ok (.invokestatic 71, 3) := by decide +kernel
theorem dX5_isRight_12 : decode cX5_isRight 12 = .ok (.ifCond .eq 11, 3) := by decide +kernel
theorem dX5_isRight_15 : decode cX5_isRight 15 = .ok (.iload_n 3, 1) := by decide +kernel
theorem dX5_isRight_16 : decode cX5_isRight 16 = .ok (.ifCond .lt 7, 3) := by decide +kernel
theorem dX5_isRight_19 : decode cX5_isRight 19 = .ok (.iconst 0, 1) := by decide +kernel
theorem dX5_isRight_20 : decode cX5_isRight 20 = .ok (.goto 4, 3) := by decide +kernel
theorem dX5_isRight_23 : decode cX5_isRight 23 = .ok (.iconst 1, 1) := by decide +kernel
theorem dX5_isRight_24 : decode cX5_isRight 24 = .ok (.putfield 56, 3) := by decide +kernel
theorem dX5_isRight_27 : decode cX5_isRight 27 = .ok (.aload_n 0, 1) := by decide +kernel
theorem dX5_isRight_28 : decode cX5_isRight 28 = .ok (.getfield 56, 3) := by decide +kernel
theorem dX5_isRight_31 : decode cX5_isRight 31 = .ok (.ifCond .ne 7, 3) := by decide +kernel
theorem dX5_isRight_34 : decode cX5_isRight 34 = .ok (.iconst 1, 1) := by decide +kernel
theorem dX5_isRight_35 : decode cX5_isRight 35 = .ok (.goto 4, 3) := by decide +kernel
theorem dX5_isRight_38 : decode cX5_isRight 38 = .ok (.iconst 0, 1) := by decide +kernel
theorem dX5_isRight_39 : decode cX5_isRight 39 = .ok (.ireturn, 1) := by decide +kernel
theorem dX5_place_0 : decode cX5_place 0 = .ok (.iconst (-1), 1) := by decide +kernel
theorem dX5_place_1 : decode cX5_place 1 = .ok (.istore_n 2, 1) := by decide +kernel
theorem dX5_place_2 : decode cX5_place 2 = .ok (.iconst 0, 1) := by decide +kernel
theorem dX5_place_3 : decode cX5_place 3 = .ok (.istore_n 3, 1) := by decide +kernel
theorem dX5_place_4 : decode cX5_place 4 = .ok (.iload_n 3, 1) := by decide +kernel
theorem dX5_place_5 : decode cX5_place 5 = .ok (.bipush 60, 2) := by decide +kernel
theorem dX5_place_7 : decode cX5_place 7 = .ok (.if_icmp .ge 34, 3) := by decide +kernel
theorem dX5_place_10 : decode cX5_place 10 = .ok (.aload_n 0, 1) := by decide +kernel
theorem dX5_place_11 : decode cX5_place 11 = .ok (.getfield 7, 3) := by decide +kernel
theorem dX5_place_14 : decode cX5_place 14 = .ok (.iload_n 3, 1) := by decide +kernel
theorem dX5_place_15 : decode cX5_place 15 = .ok (.baload, 1) := by decide +kernel
theorem dX5_place_16 : decode cX5_place 16 = .ok (.ifCond .eq 17, 3) := by decide +kernel
theorem dX5_place_19 : decode cX5_place 19 = .ok (.aload_n 0, 1) := by decide +kernel
theorem dX5_place_20 : decode cX5_place 20 = .ok (.getfield 13, 3) := by decide +kernel
theorem dX5_place_23 : decode cX5_place 23 = .ok (.iload_n 3, 1) := by decide +kernel
theorem dX5_place_24 : decode cX5_place 24 = .ok (.iaload, 1) := by decide +kernel
theorem dX5_place_25 : decode cX5_place 25 = .ok (.iload_n 1, 1) := by decide +kernel
theorem dX5_place_26 : decode cX5_place 26 = .ok (.if_icmp .ne 7, 3) := by decide +kernel
theorem dX5_place_29 : decode cX5_place 29 = .ok (.iload_n 3, 1) := by decide +kernel
theorem dX5_place_30 : decode cX5_place 30 = .ok (.goto 4, 3) := by decide +kernel
theorem dX5_place_33 : decode cX5_place 33 = .ok (.iload_n 2, 1) := by decide +kernel
theorem dX5_place_34 : decode cX5_place 34 = .ok (.istore_n 2, 1) := by decide +kernel
theorem dX5_place_35 : decode cX5_place 35 = .ok (.iinc 3 1, 3) := by decide +kernel
theorem dX5_place_38 : decode cX5_place 38 = .ok (.goto (-34), 3) := by decide +kernel
theorem dX5_place_41 : decode cX5_place 41 = .ok (.iload_n 2, 1) := by decide +kernel
theorem dX5_place_42 : decode cX5_place 42 = .ok (.ireturn, 1) := by decide +kernel
theorem dX5_kinds_0 : decode cX5_kinds 0 = .ok (.aload_n 0, 1) := by decide +kernel
theorem dX5_kinds_1 : decode cX5_kinds 1 = .ok (.iload_n 1, 1) := by decide +kernel
theorem dX5_kinds_2 : decode cX5_kinds 2 = .ok (.invokevirtual 74, 3) := by decide +kernel
theorem dX5_kinds_5 : decode cX5_kinds 5 = .ok (.istore_n 2, 1) := by decide +kernel
theorem dX5_kinds_6 : decode cX5_kinds 6 = .ok (.iload_n 1, 1) := by decide +kernel
theorem dX5_kinds_7 : decode cX5_kinds 7 = .ok (.ifCond .ne 7, 3) := by decide +kernel
theorem dX5_kinds_10 : decode cX5_kinds 10 = .ok (.iconst 2, 1) := by decide +kernel
theorem dX5_kinds_11 : decode cX5_kinds 11 = .ok (.goto 17, 3) := by decide +kernel
theorem dX5_kinds_14 : decode cX5_kinds 14 = .ok (.iload_n 2, 1) := by decide +kernel
theorem dX5_kinds_15 : decode cX5_kinds 15 = .ok (.ifCond .ge 7, 3) := by decide +kernel
theorem dX5_kinds_18 : decode cX5_kinds 18 = .ok (.iconst (-1), 1) := by decide +kernel
theorem dX5_kinds_19 : decode cX5_kinds 19 = .ok (.goto 9, 3) := by decide +kernel
theorem dX5_kinds_22 : decode cX5_kinds 22 = .ok (.aload_n 0, 1) := by decide +kernel
theorem dX5_kinds_23 : decode cX5_kinds 23 = .ok (.getfield 17, 3) := by decide +kernel
theorem dX5_kinds_26 : decode cX5_kinds 26 = .ok (.iload_n 2, 1) := by decide +kernel
theorem dX5_kinds_27 : decode cX5_kinds 27 = .ok (.iaload, 1) := by decide +kernel
theorem dX5_kinds_28 : decode cX5_kinds 28 = .ok (.ireturn, 1) := by decide +kernel
theorem dX5_count_0 : decode cX5_count 0 = .ok (.iconst 0, 1) := by decide +kernel
theorem dX5_count_1 : decode cX5_count 1 = .ok (.istore_n 1, 1) := by decide +kernel
theorem dX5_count_2 : decode cX5_count 2 = .ok (.iconst 0, 1) := by decide +kernel
theorem dX5_count_3 : decode cX5_count 3 = .ok (.istore_n 2, 1) := by decide +kernel
theorem dX5_count_4 : decode cX5_count 4 = .ok (.iload_n 2, 1) := by decide +kernel
theorem dX5_count_5 : decode cX5_count 5 = .ok (.bipush 60, 2) := by decide +kernel
theorem dX5_count_7 : decode cX5_count 7 = .ok (.if_icmp .ge 26, 3) := by decide +kernel
theorem dX5_count_10 : decode cX5_count 10 = .ok (.iload_n 1, 1) := by decide +kernel
theorem dX5_count_11 : decode cX5_count 11 = .ok (.aload_n 0, 1) := by decide +kernel
theorem dX5_count_12 : decode cX5_count 12 = .ok (.getfield 7, 3) := by decide +kernel
theorem dX5_count_15 : decode cX5_count 15 = .ok (.iload_n 2, 1) := by decide +kernel
theorem dX5_count_16 : decode cX5_count 16 = .ok (.baload, 1) := by decide +kernel
theorem dX5_count_17 : decode cX5_count 17 = .ok (.ifCond .eq 7, 3) := by decide +kernel
theorem dX5_count_20 : decode cX5_count 20 = .ok (.iconst 1, 1) := by decide +kernel
theorem dX5_count_21 : decode cX5_count 21 = .ok (.goto 4, 3) := by decide +kernel
theorem dX5_count_24 : decode cX5_count 24 = .ok (.iconst 0, 1) := by decide +kernel
theorem dX5_count_25 : decode cX5_count 25 = .ok (.iadd, 1) := by decide +kernel
theorem dX5_count_26 : decode cX5_count 26 = .ok (.istore_n 1, 1) := by decide +kernel
theorem dX5_count_27 : decode cX5_count 27 = .ok (.iinc 2 1, 3) := by decide +kernel
theorem dX5_count_30 : decode cX5_count 30 = .ok (.goto (-26), 3) := by decide +kernel
theorem dX5_count_33 : decode cX5_count 33 = .ok (.iload_n 1, 1) := by decide +kernel
theorem dX5_count_34 : decode cX5_count 34 = .ok (.ireturn, 1) := by decide +kernel
theorem dX5_isAbove_0 : decode cX5_isAbove 0 = .ok (.iload_n 1, 1) := by decide +kernel
theorem dX5_isAbove_1 : decode cX5_isAbove 1 = .ok (.istore_n 2, 1) := by decide +kernel
theorem dX5_isAbove_2 : decode cX5_isAbove 2 = .ok (.iload_n 2, 1) := by decide +kernel
theorem dX5_isAbove_3 : decode cX5_isAbove 3 = .ok (.ifCond .eq 19, 3) := by decide +kernel
theorem dX5_isAbove_6 : decode cX5_isAbove 6 = .ok (.iload_n 2, 1) := by decide +kernel
theorem dX5_isAbove_7 : decode cX5_isAbove 7 = .ok (.bipush 10, 2) := by decide +kernel
theorem dX5_isAbove_9 : decode cX5_isAbove 9 = .ok (.idiv, 1) := by decide +kernel
theorem dX5_isAbove_10 : decode cX5_isAbove 10 = .ok (.iload_n 0, 1) := by decide +kernel
theorem dX5_isAbove_11 : decode cX5_isAbove 11 = .ok (.if_icmp .eq 11, 3) := by decide +kernel
theorem dX5_isAbove_14 : decode cX5_isAbove 14 = .ok (.iload_n 2, 1) := by decide +kernel
theorem dX5_isAbove_15 : decode cX5_isAbove 15 = .ok (.bipush 10, 2) := by decide +kernel
theorem dX5_isAbove_17 : decode cX5_isAbove 17 = .ok (.idiv, 1) := by decide +kernel
theorem dX5_isAbove_18 : decode cX5_isAbove 18 = .ok (.istore_n 2, 1) := by decide +kernel
theorem dX5_isAbove_19 : decode cX5_isAbove 19 = .ok (.goto (-17), 3) := by decide +kernel
theorem dX5_isAbove_22 : decode cX5_isAbove 22 = .ok (.iload_n 2, 1) := by decide +kernel
end
section
theorem dX5_isAbove_23 : decode cX5_isAbove 23 = .ok (.ifCond .eq 7, 3) := by decide +kernel
theorem dX5_isAbove_26 : decode cX5_isAbove 26 = .ok (.iconst 1, 1) := by decide +kernel
theorem dX5_isAbove_27 : decode cX5_isAbove 27 = .ok (.goto 4, 3) := by decide +kernel
theorem dX5_isAbove_30 : decode cX5_isAbove 30 = .ok (.iconst 0, 1) := by decide +kernel
theorem dX5_isAbove_31 : decode cX5_isAbove 31 = .ok (.ireturn, 1) := by decide +kernel
theorem dX5_isOf_0 : decode cX5_isOf 0 = .ok (.aload_n 0, 1) := by decide +kernel
theorem dX5_isOf_1 : decode cX5_isOf 1 = .ok (.getfield 7, 3) := by decide +kernel
theorem dX5_isOf_4 : decode cX5_isOf 4 = .ok (.iload_n 1, 1) := by decide +kernel
theorem dX5_isOf_5 : decode cX5_isOf 5 = .ok (.baload, 1) := by decide +kernel
theorem dX5_isOf_6 : decode cX5_isOf 6 = .ok (.ifCond .eq 30, 3) := by decide +kernel
theorem dX5_isOf_9 : decode cX5_isOf 9 = .ok (.aload_n 0, 1) := by decide +kernel
theorem dX5_isOf_10 : decode cX5_isOf 10 = .ok (.getfield 13, 3) := by decide +kernel
theorem dX5_isOf_13 : decode cX5_isOf 13 = .ok (.iload_n 1, 1) := by decide +kernel
theorem dX5_isOf_14 : decode cX5_isOf 14 = .ok (.iaload, 1) := by decide +kernel
theorem dX5_isOf_15 : decode cX5_isOf 15 = .ok (.iload_n 2, 1) := by decide +kernel
theorem dX5_isOf_16 : decode cX5_isOf 16 = .ok (.if_icmp .eq 16, 3) := by decide +kernel
theorem dX5_isOf_19 : decode cX5_isOf 19 = .ok (.iload_n 2, 1) := by decide +kernel
theorem dX5_isOf_20 : decode cX5_isOf 20 = .ok (.aload_n 0, 1) := by decide +kernel
theorem dX5_isOf_21 : decode cX5_isOf 21 = .ok (.getfield 13, 3) := by decide +kernel
theorem dX5_isOf_24 : decode cX5_isOf 24 = .ok (.iload_n 1, 1) := by decide +kernel
theorem dX5_isOf_25 : decode cX5_isOf 25 = .ok (.iaload, 1) := by decide +kernel
theorem dX5_isOf_26 : decode cX5_isOf 26 = .ok (.invokestatic 78, 3) := by decide +kernel
theorem dX5_isOf_29 : decode cX5_isOf 29 = .ok (.ifCond .eq 7, 3) := by decide +kernel
theorem dX5_isOf_32 : decode cX5_isOf 32 = .ok (.iconst 1, 1) := by decide +kernel
theorem dX5_isOf_33 : decode cX5_isOf 33 = .ok (.goto 4, 3) := by decide +kernel
theorem dX5_isOf_36 : decode cX5_isOf 36 = .ok (.iconst 0, 1) := by decide +kernel
theorem dX5_isOf_37 : decode cX5_isOf 37 = .ok (.ireturn, 1) := by decide +kernel
theorem dX5_makes_0 : decode cX5_makes 0 = .ok (.iconst 0, 1) := by decide +kernel
theorem dX5_makes_1 : decode cX5_makes 1 = .ok (.istore 4, 2) := by decide +kernel
theorem dX5_makes_3 : decode cX5_makes 3 = .ok (.aload_n 0, 1) := by decide +kernel
theorem dX5_makes_4 : decode cX5_makes 4 = .ok (.getfield 7, 3) := by decide +kernel
theorem dX5_makes_7 : decode cX5_makes 7 = .ok (.iload 4, 2) := by decide +kernel
theorem dX5_makes_9 : decode cX5_makes 9 = .ok (.baload, 1) := by decide +kernel
theorem dX5_makes_10 : decode cX5_makes 10 = .ok (.ifCond .eq 9, 3) := by decide +kernel
theorem dX5_makes_13 : decode cX5_makes 13 = .ok (.iinc 4 1, 3) := by decide +kernel
theorem dX5_makes_16 : decode cX5_makes 16 = .ok (.goto (-13), 3) := by decide +kernel
theorem dX5_makes_19 : decode cX5_makes 19 = .ok (.aload_n 0, 1) := by decide +kernel
theorem dX5_makes_20 : decode cX5_makes 20 = .ok (.getfield 7, 3) := by decide +kernel
theorem dX5_makes_23 : decode cX5_makes 23 = .ok (.iload 4, 2) := by decide +kernel
theorem dX5_makes_25 : decode cX5_makes 25 = .ok (.iconst 1, 1) := by decide +kernel
theorem dX5_makes_26 : decode cX5_makes 26 = .ok (.bastore, 1) := by decide +kernel
theorem dX5_makes_27 : decode cX5_makes 27 = .ok (.aload_n 0, 1) := by decide +kernel
theorem dX5_makes_28 : decode cX5_makes 28 = .ok (.getfield 13, 3) := by decide +kernel
theorem dX5_makes_31 : decode cX5_makes 31 = .ok (.iload 4, 2) := by decide +kernel
theorem dX5_makes_33 : decode cX5_makes 33 = .ok (.iload_n 1, 1) := by decide +kernel
theorem dX5_makes_34 : decode cX5_makes 34 = .ok (.iastore, 1) := by decide +kernel
theorem dX5_makes_35 : decode cX5_makes 35 = .ok (.aload_n 0, 1) := by decide +kernel
theorem dX5_makes_36 : decode cX5_makes 36 = .ok (.getfield 17, 3) := by decide +kernel
theorem dX5_makes_39 : decode cX5_makes 39 = .ok (.iload 4, 2) := by decide +kernel
theorem dX5_makes_41 : decode cX5_makes 41 = .ok (.iload_n 2, 1) := by decide +kernel
theorem dX5_makes_42 : decode cX5_makes 42 = .ok (.iastore, 1) := by decide +kernel
theorem dX5_makes_43 : decode cX5_makes 43 = .ok (.aload_n 0, 1) := by decide +kernel
theorem dX5_makes_44 : decode cX5_makes 44 = .ok (.getfield 20, 3) := by decide +kernel
theorem dX5_makes_47 : decode cX5_makes 47 = .ok (.iload 4, 2) := by decide +kernel
theorem dX5_makes_49 : decode cX5_makes 49 = .ok (.iload_n 3, 1) := by decide +kernel
theorem dX5_makes_50 : decode cX5_makes 50 = .ok (.iastore, 1) := by decide +kernel
theorem dX5_makes_51 : decode cX5_makes 51 = .ok (.aload_n 0, 1) := by decide +kernel
theorem dX5_makes_52 : decode cX5_makes 52 = .ok (.getfield 26, 3) := by decide +kernel
theorem dX5_makes_55 : decode cX5_makes 55 = .ok (.iload 4, 2) := by decide +kernel
theorem dX5_makes_57 : decode cX5_makes 57 = .ok (.iconst 0, 1) := by decide +kernel
theorem dX5_makes_58 : decode cX5_makes 58 = .ok (.iastore, 1) := by decide +kernel
theorem dX5_makes_59 : decode cX5_makes 59 = .ok (.aload_n 0, 1) := by decide +kernel
theorem dX5_makes_60 : decode cX5_makes 60 = .ok (.dup, 1) := by decide +kernel
theorem dX5_makes_61 : decode cX5_makes 61 = .ok (.getfield 82, 3) := by decide +kernel
theorem dX5_makes_64 : decode cX5_makes 64 = .ok (.iconst 1, 1) := by decide +kernel
theorem dX5_makes_65 : decode cX5_makes 65 = .ok (.iadd, 1) := by decide +kernel
theorem dX5_makes_66 : decode cX5_makes 66 = .ok (.putfield 82, 3) := by decide +kernel
theorem dX5_makes_69 : decode cX5_makes 69 = .ok (.aload_n 0, 1) := by decide +kernel
theorem dX5_makes_70 : decode cX5_makes 70 = .ok (.getfield 23, 3) := by decide +kernel
theorem dX5_makes_73 : decode cX5_makes 73 = .ok (.iload 4, 2) := by decide +kernel
theorem dX5_makes_75 : decode cX5_makes 75 = .ok (.aload_n 0, 1) := by decide +kernel
theorem dX5_makes_76 : decode cX5_makes 76 = .ok (.getfield 82, 3) := by decide +kernel
theorem dX5_makes_79 : decode cX5_makes 79 = .ok (.iastore, 1) := by decide +kernel
theorem dX5_makes_80 : decode cX5_makes 80 = .ok (.iload 4, 2) := by decide +kernel
theorem dX5_makes_82 : decode cX5_makes 82 = .ok (.ireturn, 1) := by decide +kernel
theorem dX5_goes_0 : decode cX5_goes 0 = .ok (.aload_n 0, 1) := by decide +kernel
theorem dX5_goes_1 : decode cX5_goes 1 = .ok (.getfield 7, 3) := by decide +kernel
theorem dX5_goes_4 : decode cX5_goes 4 = .ok (.iload_n 1, 1) := by decide +kernel
theorem dX5_goes_5 : decode cX5_goes 5 = .ok (.iconst 0, 1) := by decide +kernel
theorem dX5_goes_6 : decode cX5_goes 6 = .ok (.bastore, 1) := by decide +kernel
theorem dX5_goes_7 : decode cX5_goes 7 = .ok (.iconst 0, 1) := by decide +kernel
theorem dX5_goes_8 : decode cX5_goes 8 = .ok (.istore_n 2, 1) := by decide +kernel
theorem dX5_goes_9 : decode cX5_goes 9 = .ok (.iload_n 2, 1) := by decide +kernel
theorem dX5_goes_10 : decode cX5_goes 10 = .ok (.aload_n 0, 1) := by decide +kernel
theorem dX5_goes_11 : decode cX5_goes 11 = .ok (.getfield 85, 3) := by decide +kernel
theorem dX5_goes_14 : decode cX5_goes 14 = .ok (.if_icmp .ge 40, 3) := by decide +kernel
theorem dX5_goes_17 : decode cX5_goes 17 = .ok (.aload_n 0, 1) := by decide +kernel
theorem dX5_goes_18 : decode cX5_goes 18 = .ok (.getfield 44, 3) := by decide +kernel
theorem dX5_goes_21 : decode cX5_goes 21 = .ok (.iload_n 2, 1) := by decide +kernel
theorem dX5_goes_22 : decode cX5_goes 22 = .ok (.aload_n 0, 1) := by decide +kernel
theorem dX5_goes_23 : decode cX5_goes 23 = .ok (.getfield 35, 3) := by decide +kernel
theorem dX5_goes_26 : decode cX5_goes 26 = .ok (.iload_n 2, 1) := by decide +kernel
theorem dX5_goes_27 : decode cX5_goes 27 = .ok (.iaload, 1) := by decide +kernel
theorem dX5_goes_28 : decode cX5_goes 28 = .ok (.aload_n 0, 1) := by decide +kernel
theorem dX5_goes_29 : decode cX5_goes 29 = .ok (.getfield 13, 3) := by decide +kernel
theorem dX5_goes_32 : decode cX5_goes 32 = .ok (.iload_n 1, 1) := by decide +kernel
theorem dX5_goes_33 : decode cX5_goes 33 = .ok (.iaload, 1) := by decide +kernel
theorem dX5_goes_34 : decode cX5_goes 34 = .ok (.if_icmp .ne 7, 3) := by decide +kernel
theorem dX5_goes_37 : decode cX5_goes 37 = .ok (.iconst 0, 1) := by decide +kernel
theorem dX5_goes_38 : decode cX5_goes 38 = .ok (.goto 9, 3) := by decide +kernel
theorem dX5_goes_41 : decode cX5_goes 41 = .ok (.aload_n 0, 1) := by decide +kernel
theorem dX5_goes_42 : decode cX5_goes 42 = .ok (.getfield 44, 3) := by decide +kernel
theorem dX5_goes_45 : decode cX5_goes 45 = .ok (.iload_n 2, 1) := by decide +kernel
theorem dX5_goes_46 : decode cX5_goes 46 = .ok (.iaload, 1) := by decide +kernel
theorem dX5_goes_47 : decode cX5_goes 47 = .ok (.iastore, 1) := by decide +kernel
theorem dX5_goes_48 : decode cX5_goes 48 = .ok (.iinc 2 1, 3) := by decide +kernel
theorem dX5_goes_51 : decode cX5_goes 51 = .ok (.goto (-42), 3) := by decide +kernel
theorem dX5_goes_54 : decode cX5_goes 54 = .ok (.return_, 1) := by decide +kernel
theorem dX5_isOn_0 : decode cX5_isOn 0 = .ok (.aload_n 0, 1) := by decide +kernel
theorem dX5_isOn_1 : decode cX5_isOn 1 = .ok (.getfield 44, 3) := by decide +kernel
theorem dX5_isOn_4 : decode cX5_isOn 4 = .ok (.iload_n 1, 1) := by decide +kernel
theorem dX5_isOn_5 : decode cX5_isOn 5 = .ok (.iaload, 1) := by decide +kernel
theorem dX5_isOn_6 : decode cX5_isOn 6 = .ok (.aload_n 0, 1) := by decide +kernel
theorem dX5_isOn_7 : decode cX5_isOn 7 = .ok (.getfield 88, 3) := by decide +kernel
theorem dX5_isOn_10 : decode cX5_isOn 10 = .ok (.if_icmp .le 7, 3) := by decide +kernel
theorem dX5_isOn_13 : decode cX5_isOn 13 = .ok (.iconst 1, 1) := by decide +kernel
theorem dX5_isOn_14 : decode cX5_isOn 14 = .ok (.goto 4, 3) := by decide +kernel
theorem dX5_isOn_17 : decode cX5_isOn 17 = .ok (.iconst 0, 1) := by decide +kernel
theorem dX5_isOn_18 : decode cX5_isOn 18 = .ok (.ireturn, 1) := by decide +kernel
theorem dX5_covers_0 : decode cX5_covers 0 = .ok (.aload_n 0, 1) := by decide +kernel
theorem dX5_covers_1 : decode cX5_covers 1 = .ok (.iload_n 1, 1) := by decide +kernel
theorem dX5_covers_2 : decode cX5_covers 2 = .ok (.invokevirtual 91, 3) := by decide +kernel
theorem dX5_covers_5 : decode cX5_covers 5 = .ok (.ifCond .eq 39, 3) := by decide +kernel
theorem dX5_covers_8 : decode cX5_covers 8 = .ok (.aload_n 0, 1) := by decide +kernel
theorem dX5_covers_9 : decode cX5_covers 9 = .ok (.getfield 35, 3) := by decide +kernel
theorem dX5_covers_12 : decode cX5_covers 12 = .ok (.iload_n 1, 1) := by decide +kernel
theorem dX5_covers_13 : decode cX5_covers 13 = .ok (.iaload, 1) := by decide +kernel
theorem dX5_covers_14 : decode cX5_covers 14 = .ok (.iload_n 2, 1) := by decide +kernel
theorem dX5_covers_15 : decode cX5_covers 15 = .ok (.if_icmp .eq 25, 3) := by decide +kernel
theorem dX5_covers_18 : decode cX5_covers 18 = .ok (.aload_n 0, 1) := by decide +kernel
theorem dX5_covers_19 : decode cX5_covers 19 = .ok (.getfield 41, 3) := by decide +kernel
theorem dX5_covers_22 : decode cX5_covers 22 = .ok (.iload_n 1, 1) := by decide +kernel
theorem dX5_covers_23 : decode cX5_covers 23 = .ok (.baload, 1) := by decide +kernel
theorem dX5_covers_24 : decode cX5_covers 24 = .ok (.ifCond .eq 20, 3) := by decide +kernel
theorem dX5_covers_27 : decode cX5_covers 27 = .ok (.aload_n 0, 1) := by decide +kernel
theorem dX5_covers_28 : decode cX5_covers 28 = .ok (.getfield 35, 3) := by decide +kernel
theorem dX5_covers_31 : decode cX5_covers 31 = .ok (.iload_n 1, 1) := by decide +kernel
theorem dX5_covers_32 : decode cX5_covers 32 = .ok (.iaload, 1) := by decide +kernel
theorem dX5_covers_33 : decode cX5_covers 33 = .ok (.iload_n 2, 1) := by decide +kernel
theorem dX5_covers_34 : decode cX5_covers 34 = .ok (.invokestatic 78, 3) := by decide +kernel
theorem dX5_covers_37 : decode cX5_covers 37 = .ok (.ifCond .eq 7, 3) := by decide +kernel
theorem dX5_covers_40 : decode cX5_covers 40 = .ok (.iconst 1, 1) := by decide +kernel
theorem dX5_covers_41 : decode cX5_covers 41 = .ok (.goto 4, 3) := by decide +kernel
theorem dX5_covers_44 : decode cX5_covers 44 = .ok (.iconst 0, 1) := by decide +kernel
theorem dX5_covers_45 : decode cX5_covers 45 = .ok (.ireturn, 1) := by decide +kernel
theorem dX5_set_0 : decode cX5_set 0 = .ok (.iconst 0, 1) := by decide +kernel
theorem dX5_set_1 : decode cX5_set 1 = .ok (.istore_n 2, 1) := by decide +kernel
theorem dX5_set_2 : decode cX5_set 2 = .ok (.iconst 0, 1) := by decide +kernel
theorem dX5_set_3 : decode cX5_set 3 = .ok (.istore_n 3, 1) := by decide +kernel
theorem dX5_set_4 : decode cX5_set 4 = .ok (.iload_n 3, 1) := by decide +kernel
theorem dX5_set_5 : decode cX5_set 5 = .ok (.aload_n 0, 1) := by decide +kernel
theorem dX5_set_6 : decode cX5_set 6 = .ok (.getfield 85, 3) := by decide +kernel
theorem dX5_set_9 : decode cX5_set 9 = .ok (.if_icmp .ge 28, 3) := by decide +kernel
theorem dX5_set_12 : decode cX5_set 12 = .ok (.iload_n 2, 1) := by decide +kernel
theorem dX5_set_13 : decode cX5_set 13 = .ok (.aload_n 0, 1) := by decide +kernel
theorem dX5_set_14 : decode cX5_set 14 = .ok (.iload_n 3, 1) := by decide +kernel
theorem dX5_set_15 : decode cX5_set 15 = .ok (.iload_n 1, 1) := by decide +kernel
theorem dX5_set_16 : decode cX5_set 16 = .ok (.invokevirtual 94, 3) := by decide +kernel
theorem dX5_set_19 : decode cX5_set 19 = .ok (.ifCond .eq 9, 3) := by decide +kernel
theorem dX5_set_22 : decode cX5_set 22 = .ok (.iconst 1, 1) := by decide +kernel
theorem dX5_set_23 : decode cX5_set 23 = .ok (.iload_n 3, 1) := by decide +kernel
theorem dX5_set_24 : decode cX5_set 24 = .ok (.ishl, 1) := by decide +kernel
theorem dX5_set_25 : decode cX5_set 25 = .ok (.goto 4, 3) := by decide +kernel
theorem dX5_set_28 : decode cX5_set 28 = .ok (.iconst 0, 1) := by decide +kernel
theorem dX5_set_29 : decode cX5_set 29 = .ok (.ior, 1) := by decide +kernel
theorem dX5_set_30 : decode cX5_set 30 = .ok (.istore_n 2, 1) := by decide +kernel
theorem dX5_set_31 : decode cX5_set 31 = .ok (.iinc 3 1, 3) := by decide +kernel
theorem dX5_set_34 : decode cX5_set 34 = .ok (.goto (-30), 3) := by decide +kernel
theorem dX5_set_37 : decode cX5_set 37 = .ok (.iload_n 2, 1) := by decide +kernel
theorem dX5_set_38 : decode cX5_set 38 = .ok (.ireturn, 1) := by decide +kernel
theorem dX5_may_0 : decode cX5_may 0 = .ok (.aload_n 0, 1) := by decide +kernel
theorem dX5_may_1 : decode cX5_may 1 = .ok (.iload_n 2, 1) := by decide +kernel
theorem dX5_may_2 : decode cX5_may 2 = .ok (.invokevirtual 97, 3) := by decide +kernel
theorem dX5_may_5 : decode cX5_may 5 = .ok (.istore 4, 2) := by decide +kernel
theorem dX5_may_7 : decode cX5_may 7 = .ok (.iload 4, 2) := by decide +kernel
theorem dX5_may_9 : decode cX5_may 9 = .ok (.ifCond .ne 7, 3) := by decide +kernel
theorem dX5_may_12 : decode cX5_may 12 = .ok (.iconst 1, 1) := by decide +kernel
theorem dX5_may_13 : decode cX5_may 13 = .ok (.goto 4, 3) := by decide +kernel
theorem dX5_may_16 : decode cX5_may 16 = .ok (.iconst 0, 1) := by decide +kernel
theorem dX5_may_17 : decode cX5_may 17 = .ok (.istore 5, 2) := by decide +kernel
theorem dX5_may_19 : decode cX5_may 19 = .ok (.iconst 0, 1) := by decide +kernel
theorem dX5_may_20 : decode cX5_may 20 = .ok (.istore 6, 2) := by decide +kernel
theorem dX5_may_22 : decode cX5_may 22 = .ok (.iload 6, 2) := by decide +kernel
theorem dX5_may_24 : decode cX5_may 24 = .ok (.aload_n 0, 1) := by decide +kernel
theorem dX5_may_25 : decode cX5_may 25 = .ok (.getfield 85, 3) := by decide +kernel
theorem dX5_may_28 : decode cX5_may 28 = .ok (.if_icmp .ge 42, 3) := by decide +kernel
theorem dX5_may_31 : decode cX5_may 31 = .ok (.iload 5, 2) := by decide +kernel
theorem dX5_may_33 : decode cX5_may 33 = .ok (.iload 4, 2) := by decide +kernel
theorem dX5_may_35 : decode cX5_may 35 = .ok (.iload_n 3, 1) := by decide +kernel
theorem dX5_may_36 : decode cX5_may 36 = .ok (.iand, 1) := by decide +kernel
theorem dX5_may_37 : decode cX5_may 37 = .ok (.iconst 1, 1) := by decide +kernel
theorem dX5_may_38 : decode cX5_may 38 = .ok (.iload 6, 2) := by decide +kernel
theorem dX5_may_40 : decode cX5_may 40 = .ok (.ishl, 1) := by decide +kernel
theorem dX5_may_41 : decode cX5_may 41 = .ok (.iand, 1) := by decide +kernel
theorem dX5_may_42 : decode cX5_may 42 = .ok (.ifCond .eq 18, 3) := by decide +kernel
theorem dX5_may_45 : decode cX5_may 45 = .ok (.aload_n 0, 1) := by decide +kernel
theorem dX5_may_46 : decode cX5_may 46 = .ok (.getfield 32, 3) := by decide +kernel
theorem dX5_may_49 : decode cX5_may 49 = .ok (.iload 6, 2) := by decide +kernel
theorem dX5_may_51 : decode cX5_may 51 = .ok (.iaload, 1) := by decide +kernel
theorem dX5_may_52 : decode cX5_may 52 = .ok (.iload_n 1, 1) := by decide +kernel
theorem dX5_may_53 : decode cX5_may 53 = .ok (.if_icmp .ne 7, 3) := by decide +kernel
theorem dX5_may_56 : decode cX5_may 56 = .ok (.iconst 1, 1) := by decide +kernel
theorem dX5_may_57 : decode cX5_may 57 = .ok (.goto 4, 3) := by decide +kernel
theorem dX5_may_60 : decode cX5_may 60 = .ok (.iconst 0, 1) := by decide +kernel
theorem dX5_may_61 : decode cX5_may 61 = .ok (.ior, 1) := by decide +kernel
theorem dX5_may_62 : decode cX5_may 62 = .ok (.istore 5, 2) := by decide +kernel
theorem dX5_may_64 : decode cX5_may 64 = .ok (.iinc 6 1, 3) := by decide +kernel
theorem dX5_may_67 : decode cX5_may 67 = .ok (.goto (-45), 3) := by decide +kernel
theorem dX5_may_70 : decode cX5_may 70 = .ok (.iload 5, 2) := by decide +kernel
theorem dX5_may_72 : decode cX5_may 72 = .ok (.ireturn, 1) := by decide +kernel
theorem dX5_mayAll_0 : decode cX5_mayAll 0 = .ok (.iconst 1, 1) := by decide +kernel
theorem dX5_mayAll_1 : decode cX5_mayAll 1 = .ok (.istore 4, 2) := by decide +kernel
theorem dX5_mayAll_3 : decode cX5_mayAll 3 = .ok (.iconst 0, 1) := by decide +kernel
theorem dX5_mayAll_4 : decode cX5_mayAll 4 = .ok (.istore 5, 2) := by decide +kernel
theorem dX5_mayAll_6 : decode cX5_mayAll 6 = .ok (.iload 5, 2) := by decide +kernel
theorem dX5_mayAll_8 : decode cX5_mayAll 8 = .ok (.bipush 60, 2) := by decide +kernel
theorem dX5_mayAll_10 : decode cX5_mayAll 10 = .ok (.if_icmp .ge 45, 3) := by decide +kernel
theorem dX5_mayAll_13 : decode cX5_mayAll 13 = .ok (.iload 4, 2) := by decide +kernel
theorem dX5_mayAll_15 : decode cX5_mayAll 15 = .ok (.aload_n 0, 1) := by decide +kernel
theorem dX5_mayAll_16 : decode cX5_mayAll 16 = .ok (.iload 5, 2) := by decide +kernel
theorem dX5_mayAll_18 : decode cX5_mayAll 18 = .ok (.iload_n 2, 1) := by decide +kernel
theorem dX5_mayAll_19 : decode cX5_mayAll 19 = .ok (.invokevirtual 100, 3) := by decide +kernel
theorem dX5_mayAll_22 : decode cX5_mayAll 22 = .ok (.ifCond .eq 19, 3) := by decide +kernel
theorem dX5_mayAll_25 : decode cX5_mayAll 25 = .ok (.aload_n 0, 1) := by decide +kernel
theorem dX5_mayAll_26 : decode cX5_mayAll 26 = .ok (.iload_n 1, 1) := by decide +kernel
theorem dX5_mayAll_27 : decode cX5_mayAll 27 = .ok (.aload_n 0, 1) := by decide +kernel
theorem dX5_mayAll_28 : decode cX5_mayAll 28 = .ok (.getfield 13, 3) := by decide +kernel
theorem dX5_mayAll_31 : decode cX5_mayAll 31 = .ok (.iload 5, 2) := by decide +kernel
theorem dX5_mayAll_33 : decode cX5_mayAll 33 = .ok (.iaload, 1) := by decide +kernel
theorem dX5_mayAll_34 : decode cX5_mayAll 34 = .ok (.iload_n 3, 1) := by decide +kernel
theorem dX5_mayAll_35 : decode cX5_mayAll 35 = .ok (.invokevirtual 103, 3) := by decide +kernel
theorem dX5_mayAll_38 : decode cX5_mayAll 38 = .ok (.ifCond .eq 7, 3) := by decide +kernel
theorem dX5_mayAll_41 : decode cX5_mayAll 41 = .ok (.iconst 1, 1) := by decide +kernel
theorem dX5_mayAll_42 : decode cX5_mayAll 42 = .ok (.goto 4, 3) := by decide +kernel
theorem dX5_mayAll_45 : decode cX5_mayAll 45 = .ok (.iconst 0, 1) := by decide +kernel
theorem dX5_mayAll_46 : decode cX5_mayAll 46 = .ok (.iand, 1) := by decide +kernel
theorem dX5_mayAll_47 : decode cX5_mayAll 47 = .ok (.istore 4, 2) := by decide +kernel
theorem dX5_mayAll_49 : decode cX5_mayAll 49 = .ok (.iinc 5 1, 3) := by decide +kernel
theorem dX5_mayAll_52 : decode cX5_mayAll 52 = .ok (.goto (-46), 3) := by decide +kernel
theorem dX5_mayAll_55 : decode cX5_mayAll 55 = .ok (.iload 4, 2) := by decide +kernel
theorem dX5_mayAll_57 : decode cX5_mayAll 57 = .ok (.ireturn, 1) := by decide +kernel
theorem dX5_mayMake_0 : decode cX5_mayMake 0 = .ok (.aload_n 0, 1) := by decide +kernel
theorem dX5_mayMake_1 : decode cX5_mayMake 1 = .ok (.iload_n 1, 1) := by decide +kernel
theorem dX5_mayMake_2 : decode cX5_mayMake 2 = .ok (.iload_n 2, 1) := by decide +kernel
theorem dX5_mayMake_3 : decode cX5_mayMake 3 = .ok (.iload_n 3, 1) := by decide +kernel
theorem dX5_mayMake_4 : decode cX5_mayMake 4 = .ok (.invokevirtual 103, 3) := by decide +kernel
theorem dX5_mayMake_7 : decode cX5_mayMake 7 = .ok (.ifCond .eq 20, 3) := by decide +kernel
theorem dX5_mayMake_10 : decode cX5_mayMake 10 = .ok (.aload_n 0, 1) := by decide +kernel
theorem dX5_mayMake_11 : decode cX5_mayMake 11 = .ok (.iload_n 1, 1) := by decide +kernel
theorem dX5_mayMake_12 : decode cX5_mayMake 12 = .ok (.iload_n 2, 1) := by decide +kernel
theorem dX5_mayMake_13 : decode cX5_mayMake 13 = .ok (.bipush 10, 2) := by decide +kernel
theorem dX5_mayMake_15 : decode cX5_mayMake 15 = .ok (.idiv, 1) := by decide +kernel
theorem dX5_mayMake_16 : decode cX5_mayMake 16 = .ok (.iload_n 3, 1) := by decide +kernel
theorem dX5_mayMake_17 : decode cX5_mayMake 17 = .ok (.invokevirtual 103, 3) := by decide +kernel
theorem dX5_mayMake_20 : decode cX5_mayMake 20 = .ok (.ifCond .eq 7, 3) := by decide +kernel
theorem dX5_mayMake_23 : decode cX5_mayMake 23 = .ok (.iconst 1, 1) := by decide +kernel
theorem dX5_mayMake_24 : decode cX5_mayMake 24 = .ok (.goto 4, 3) := by decide +kernel
theorem dX5_mayMake_27 : decode cX5_mayMake 27 = .ok (.iconst 0, 1) := by decide +kernel
theorem dX5_mayMake_28 : decode cX5_mayMake 28 = .ok (.ireturn, 1) := by decide +kernel
theorem dX5_makeCollection_0 : decode cX5_makeCollection 0 = .ok (.aload_n 0, 1) := by decide +kernel
theorem dX5_makeCollection_1 : decode cX5_makeCollection 1 = .ok (.iload_n 1, 1) := by decide +kernel
theorem dX5_makeCollection_2 : decode cX5_makeCollection 2 = .ok (.iload_n 2, 1) := by decide +kernel
theorem dX5_makeCollection_3 : decode cX5_makeCollection 3 = .ok (.iload_n 3, 1) := by decide +kernel
theorem dX5_makeCollection_4 : decode cX5_makeCollection 4 = .ok (.invokevirtual 106, 3) := by decide +kernel
theorem dX5_makeCollection_7 : decode cX5_makeCollection 7 = .ok (.ifCond .ne 5, 3) := by decide +kernel
theorem dX5_makeCollection_10 : decode cX5_makeCollection 10 = .ok (.iconst 0, 1) := by decide +kernel
theorem dX5_makeCollection_11 : decode cX5_makeCollection 11 = .ok (.ireturn, 1) := by decide +kernel
theorem dX5_makeCollection_12 : decode cX5_makeCollection 12 = .ok (.aload_n 0, 1) := by decide +kernel
theorem dX5_makeCollection_13 : decode cX5_makeCollection 13 = .ok (.iload_n 2, 1) := by decide +kernel
theorem dX5_makeCollection_14 : decode cX5_makeCollection 14 = .ok (.bipush 10, 2) := by decide +kernel
theorem dX5_makeCollection_16 : decode cX5_makeCollection 16 = .ok (.idiv, 1) := by decide +kernel
theorem dX5_makeCollection_17 : decode cX5_makeCollection 17 = .ok (.invokevirtual 109, 3) := by decide +kernel
theorem dX5_makeCollection_20 : decode cX5_makeCollection 20 = .ok (.iconst 2, 1) := by decide +kernel
theorem dX5_makeCollection_21 : decode cX5_makeCollection 21 = .ok (.if_icmp .eq 7, 3) := by decide +kernel
theorem dX5_makeCollection_24 : decode cX5_makeCollection 24 = .ok (.iconst 1, 1) := by decide +kernel
theorem dX5_makeCollection_25 : decode cX5_makeCollection 25 = .ok (.goto 43, 3) := by decide +kernel
theorem dX5_makeCollection_28 : decode cX5_makeCollection 28 = .ok (.aload_n 0, 1) := by decide +kernel
theorem dX5_makeCollection_29 : decode cX5_makeCollection 29 = .ok (.iload_n 2, 1) := by decide +kernel
theorem dX5_makeCollection_30 : decode cX5_makeCollection 30 = .ok (.invokevirtual 74, 3) := by decide +kernel
theorem dX5_makeCollection_33 : decode cX5_makeCollection 33 = .ok (.ifCond .lt 7, 3) := by decide +kernel
theorem dX5_makeCollection_36 : decode cX5_makeCollection 36 = .ok (.iconst 2, 1) := by decide +kernel
theorem dX5_makeCollection_37 : decode cX5_makeCollection 37 = .ok (.goto 31, 3) := by decide +kernel
theorem dX5_makeCollection_40 : decode cX5_makeCollection 40 = .ok (.aload_n 0, 1) := by decide +kernel
theorem dX5_makeCollection_41 : decode cX5_makeCollection 41 = .ok (.iload_n 1, 1) := by decide +kernel
theorem dX5_makeCollection_42 : decode cX5_makeCollection 42 = .ok (.iload_n 2, 1) := by decide +kernel
theorem dX5_makeCollection_43 : decode cX5_makeCollection 43 = .ok (.iload_n 3, 1) := by decide +kernel
theorem dX5_makeCollection_44 : decode cX5_makeCollection 44 = .ok (.invokevirtual 112, 3) := by decide +kernel
theorem dX5_makeCollection_47 : decode cX5_makeCollection 47 = .ok (.ifCond .ne 7, 3) := by decide +kernel
theorem dX5_makeCollection_50 : decode cX5_makeCollection 50 = .ok (.iconst 4, 1) := by decide +kernel
theorem dX5_makeCollection_51 : decode cX5_makeCollection 51 = .ok (.goto 17, 3) := by decide +kernel
theorem dX5_makeCollection_54 : decode cX5_makeCollection 54 = .ok (.aload_n 0, 1) := by decide +kernel
theorem dX5_makeCollection_55 : decode cX5_makeCollection 55 = .ok (.invokevirtual 115, 3) := by decide +kernel
theorem dX5_makeCollection_58 : decode cX5_makeCollection 58 = .ok (.bipush 60, 2) := by decide +kernel
theorem dX5_makeCollection_60 : decode cX5_makeCollection 60 = .ok (.if_icmp .ne 7, 3) := by decide +kernel
theorem dX5_makeCollection_63 : decode cX5_makeCollection 63 = .ok (.iconst 5, 1) := by decide +kernel
theorem dX5_makeCollection_64 : decode cX5_makeCollection 64 = .ok (.goto 4, 3) := by decide +kernel
theorem dX5_makeCollection_67 : decode cX5_makeCollection 67 = .ok (.iconst 0, 1) := by decide +kernel
theorem dX5_makeCollection_68 : decode cX5_makeCollection 68 = .ok (.istore 4, 2) := by decide +kernel
theorem dX5_makeCollection_70 : decode cX5_makeCollection 70 = .ok (.iload 4, 2) := by decide +kernel
theorem dX5_makeCollection_72 : decode cX5_makeCollection 72 = .ok (.ifCond .ne 11, 3) := by decide +kernel
theorem dX5_makeCollection_75 : decode cX5_makeCollection 75 = .ok (.aload_n 0, 1) := by decide +kernel
theorem dX5_makeCollection_76 : decode cX5_makeCollection 76 = .ok (.iload_n 2, 1) := by decide +kernel
theorem dX5_makeCollection_77 : decode cX5_makeCollection 77 = .ok (.iconst 2, 1) := by decide +kernel
theorem dX5_makeCollection_78 : decode cX5_makeCollection 78 = .ok (.iconst 0, 1) := by decide +kernel
theorem dX5_makeCollection_79 : decode cX5_makeCollection 79 = .ok (.invokevirtual 119, 3) := by decide +kernel
theorem dX5_makeCollection_82 : decode cX5_makeCollection 82 = .ok (.pop, 1) := by decide +kernel
theorem dX5_makeCollection_83 : decode cX5_makeCollection 83 = .ok (.iload 4, 2) := by decide +kernel
theorem dX5_makeCollection_85 : decode cX5_makeCollection 85 = .ok (.ireturn, 1) := by decide +kernel
theorem dX5_puts_0 : decode cX5_puts 0 = .ok (.aload_n 0, 1) := by decide +kernel
theorem dX5_puts_1 : decode cX5_puts 1 = .ok (.iload_n 2, 1) := by decide +kernel
theorem dX5_puts_2 : decode cX5_puts 2 = .ok (.invokevirtual 74, 3) := by decide +kernel
theorem dX5_puts_5 : decode cX5_puts 5 = .ok (.istore 5, 2) := by decide +kernel
theorem dX5_puts_7 : decode cX5_puts 7 = .ok (.iload_n 3, 1) := by decide +kernel
theorem dX5_puts_8 : decode cX5_puts 8 = .ok (.ifCond .lt 19, 3) := by decide +kernel
theorem dX5_puts_11 : decode cX5_puts 11 = .ok (.iload 5, 2) := by decide +kernel
theorem dX5_puts_13 : decode cX5_puts 13 = .ok (.ifCond .lt 18, 3) := by decide +kernel
theorem dX5_puts_16 : decode cX5_puts 16 = .ok (.aload_n 0, 1) := by decide +kernel
theorem dX5_puts_17 : decode cX5_puts 17 = .ok (.getfield 20, 3) := by decide +kernel
theorem dX5_puts_20 : decode cX5_puts 20 = .ok (.iload 5, 2) := by decide +kernel
theorem dX5_puts_22 : decode cX5_puts 22 = .ok (.iaload, 1) := by decide +kernel
theorem dX5_puts_23 : decode cX5_puts 23 = .ok (.iload_n 3, 1) := by decide +kernel
theorem dX5_puts_24 : decode cX5_puts 24 = .ok (.if_icmp .ne 7, 3) := by decide +kernel
theorem dX5_puts_27 : decode cX5_puts 27 = .ok (.iconst 1, 1) := by decide +kernel
theorem dX5_puts_28 : decode cX5_puts 28 = .ok (.goto 4, 3) := by decide +kernel
theorem dX5_puts_31 : decode cX5_puts 31 = .ok (.iconst 0, 1) := by decide +kernel
theorem dX5_puts_32 : decode cX5_puts 32 = .ok (.istore 6, 2) := by decide +kernel
theorem dX5_puts_34 : decode cX5_puts 34 = .ok (.aload_n 0, 1) := by decide +kernel
theorem dX5_puts_35 : decode cX5_puts 35 = .ok (.iload_n 1, 1) := by decide +kernel
theorem dX5_puts_36 : decode cX5_puts 36 = .ok (.iload_n 2, 1) := by decide +kernel
theorem dX5_puts_37 : decode cX5_puts 37 = .ok (.iload 4, 2) := by decide +kernel
theorem dX5_puts_39 : decode cX5_puts 39 = .ok (.invokevirtual 103, 3) := by decide +kernel
theorem dX5_puts_42 : decode cX5_puts 42 = .ok (.ifCond .eq 26, 3) := by decide +kernel
theorem dX5_puts_45 : decode cX5_puts 45 = .ok (.iload 5, 2) := by decide +kernel
theorem dX5_puts_47 : decode cX5_puts 47 = .ok (.ifCond .ge 17, 3) := by decide +kernel
theorem dX5_puts_50 : decode cX5_puts 50 = .ok (.aload_n 0, 1) := by decide +kernel
theorem dX5_puts_51 : decode cX5_puts 51 = .ok (.iload_n 1, 1) := by decide +kernel
theorem dX5_puts_52 : decode cX5_puts 52 = .ok (.iload_n 2, 1) := by decide +kernel
theorem dX5_puts_53 : decode cX5_puts 53 = .ok (.bipush 10, 2) := by decide +kernel
theorem dX5_puts_55 : decode cX5_puts 55 = .ok (.idiv, 1) := by decide +kernel
theorem dX5_puts_56 : decode cX5_puts 56 = .ok (.iload 4, 2) := by decide +kernel
theorem dX5_puts_58 : decode cX5_puts 58 = .ok (.invokevirtual 103, 3) := by decide +kernel
theorem dX5_puts_61 : decode cX5_puts 61 = .ok (.ifCond .eq 7, 3) := by decide +kernel
theorem dX5_puts_64 : decode cX5_puts 64 = .ok (.iconst 1, 1) := by decide +kernel
theorem dX5_puts_65 : decode cX5_puts 65 = .ok (.goto 4, 3) := by decide +kernel
theorem dX5_puts_68 : decode cX5_puts 68 = .ok (.iconst 0, 1) := by decide +kernel
theorem dX5_puts_69 : decode cX5_puts 69 = .ok (.istore 7, 2) := by decide +kernel
theorem dX5_puts_71 : decode cX5_puts 71 = .ok (.aload_n 0, 1) := by decide +kernel
theorem dX5_puts_72 : decode cX5_puts 72 = .ok (.iload_n 2, 1) := by decide +kernel
theorem dX5_puts_73 : decode cX5_puts 73 = .ok (.bipush 10, 2) := by decide +kernel
theorem dX5_puts_75 : decode cX5_puts 75 = .ok (.idiv, 1) := by decide +kernel
theorem dX5_puts_76 : decode cX5_puts 76 = .ok (.invokevirtual 109, 3) := by decide +kernel
theorem dX5_puts_79 : decode cX5_puts 79 = .ok (.iconst 2, 1) := by decide +kernel
theorem dX5_puts_80 : decode cX5_puts 80 = .ok (.if_icmp .eq 7, 3) := by decide +kernel
theorem dX5_puts_83 : decode cX5_puts 83 = .ok (.iconst 1, 1) := by decide +kernel
theorem dX5_puts_84 : decode cX5_puts 84 = .ok (.goto 60, 3) := by decide +kernel
theorem dX5_puts_87 : decode cX5_puts 87 = .ok (.iload 5, 2) := by decide +kernel
theorem dX5_puts_89 : decode cX5_puts 89 = .ok (.ifCond .lt 18, 3) := by decide +kernel
theorem dX5_puts_92 : decode cX5_puts 92 = .ok (.aload_n 0, 1) := by decide +kernel
theorem dX5_puts_93 : decode cX5_puts 93 = .ok (.getfield 17, 3) := by decide +kernel
theorem dX5_puts_96 : decode cX5_puts 96 = .ok (.iload 5, 2) := by decide +kernel
theorem dX5_puts_98 : decode cX5_puts 98 = .ok (.iaload, 1) := by decide +kernel
theorem dX5_puts_99 : decode cX5_puts 99 = .ok (.iconst 2, 1) := by decide +kernel
theorem dX5_puts_100 : decode cX5_puts 100 = .ok (.if_icmp .ne 7, 3) := by decide +kernel
theorem dX5_puts_103 : decode cX5_puts 103 = .ok (.iconst 2, 1) := by decide +kernel
theorem dX5_puts_104 : decode cX5_puts 104 = .ok (.goto 40, 3) := by decide +kernel
theorem dX5_puts_107 : decode cX5_puts 107 = .ok (.iload 6, 2) := by decide +kernel
theorem dX5_puts_109 : decode cX5_puts 109 = .ok (.ifCond .ne 7, 3) := by decide +kernel
theorem dX5_puts_112 : decode cX5_puts 112 = .ok (.iconst 3, 1) := by decide +kernel
theorem dX5_puts_113 : decode cX5_puts 113 = .ok (.goto 31, 3) := by decide +kernel
theorem dX5_puts_116 : decode cX5_puts 116 = .ok (.iload 7, 2) := by decide +kernel
theorem dX5_puts_118 : decode cX5_puts 118 = .ok (.ifCond .ne 7, 3) := by decide +kernel
theorem dX5_puts_121 : decode cX5_puts 121 = .ok (.iconst 4, 1) := by decide +kernel
theorem dX5_puts_122 : decode cX5_puts 122 = .ok (.goto 22, 3) := by decide +kernel
theorem dX5_puts_125 : decode cX5_puts 125 = .ok (.iload 5, 2) := by decide +kernel
theorem dX5_puts_127 : decode cX5_puts 127 = .ok (.ifCond .ge 16, 3) := by decide +kernel
theorem dX5_puts_130 : decode cX5_puts 130 = .ok (.aload_n 0, 1) := by decide +kernel
theorem dX5_puts_131 : decode cX5_puts 131 = .ok (.invokevirtual 115, 3) := by decide +kernel
theorem dX5_puts_134 : decode cX5_puts 134 = .ok (.bipush 60, 2) := by decide +kernel
theorem dX5_puts_136 : decode cX5_puts 136 = .ok (.if_icmp .ne 7, 3) := by decide +kernel
theorem dX5_puts_139 : decode cX5_puts 139 = .ok (.iconst 5, 1) := by decide +kernel
theorem dX5_puts_140 : decode cX5_puts 140 = .ok (.goto 4, 3) := by decide +kernel
theorem dX5_puts_143 : decode cX5_puts 143 = .ok (.iconst 0, 1) := by decide +kernel
theorem dX5_puts_144 : decode cX5_puts 144 = .ok (.ireturn, 1) := by decide +kernel
theorem dX5_put_0 : decode cX5_put 0 = .ok (.aload_n 0, 1) := by decide +kernel
theorem dX5_put_1 : decode cX5_put 1 = .ok (.iload_n 1, 1) := by decide +kernel
theorem dX5_put_2 : decode cX5_put 2 = .ok (.iload_n 2, 1) := by decide +kernel
theorem dX5_put_3 : decode cX5_put 3 = .ok (.iload 5, 2) := by decide +kernel
theorem dX5_put_5 : decode cX5_put 5 = .ok (.invokevirtual 106, 3) := by decide +kernel
theorem dX5_put_8 : decode cX5_put 8 = .ok (.ifCond .eq 30, 3) := by decide +kernel
theorem dX5_put_11 : decode cX5_put 11 = .ok (.iload_n 3, 1) := by decide +kernel
theorem dX5_put_12 : decode cX5_put 12 = .ok (.iconst 0, 1) := by decide +kernel
theorem dX5_put_13 : decode cX5_put 13 = .ok (.sipush 999, 3) := by decide +kernel
theorem dX5_put_16 : decode cX5_put 16 = .ok (.invokestatic 60, 3) := by decide +kernel
theorem dX5_put_19 : decode cX5_put 19 = .ok (.ifCond .eq 19, 3) := by decide +kernel
theorem dX5_put_22 : decode cX5_put 22 = .ok (.iload 4, 2) := by decide +kernel
theorem dX5_put_24 : decode cX5_put 24 = .ok (.iconst (-1), 1) := by decide +kernel
theorem dX5_put_25 : decode cX5_put 25 = .ok (.sipush 999, 3) := by decide +kernel
theorem dX5_put_28 : decode cX5_put 28 = .ok (.invokestatic 60, 3) := by decide +kernel
theorem dX5_put_31 : decode cX5_put 31 = .ok (.ifCond .eq 7, 3) := by decide +kernel
theorem dX5_put_34 : decode cX5_put 34 = .ok (.iconst 1, 1) := by decide +kernel
theorem dX5_put_35 : decode cX5_put 35 = .ok (.goto 4, 3) := by decide +kernel
theorem dX5_put_38 : decode cX5_put 38 = .ok (.iconst 0, 1) := by decide +kernel
theorem dX5_put_39 : decode cX5_put 39 = .ok (.istore 6, 2) := by decide +kernel
theorem dX5_put_41 : decode cX5_put 41 = .ok (.aload_n 0, 1) := by decide +kernel
theorem dX5_put_42 : decode cX5_put 42 = .ok (.iload 6, 2) := by decide +kernel
theorem dX5_put_44 : decode cX5_put 44 = .ok (.ifCond .eq 7, 3) := by decide +kernel
theorem dX5_put_47 : decode cX5_put 47 = .ok (.iconst 0, 1) := by decide +kernel
theorem dX5_put_48 : decode cX5_put 48 = .ok (.goto 4, 3) := by decide +kernel
theorem dX5_put_51 : decode cX5_put 51 = .ok (.iconst 1, 1) := by decide +kernel
theorem dX5_put_52 : decode cX5_put 52 = .ok (.putfield 56, 3) := by decide +kernel
theorem dX5_put_55 : decode cX5_put 55 = .ok (.iload 6, 2) := by decide +kernel
theorem dX5_put_57 : decode cX5_put 57 = .ok (.ifCond .ne 5, 3) := by decide +kernel
theorem dX5_put_60 : decode cX5_put 60 = .ok (.iconst 0, 1) := by decide +kernel
theorem dX5_put_61 : decode cX5_put 61 = .ok (.ireturn, 1) := by decide +kernel
theorem dX5_put_62 : decode cX5_put 62 = .ok (.aload_n 0, 1) := by decide +kernel
theorem dX5_put_63 : decode cX5_put 63 = .ok (.iload_n 1, 1) := by decide +kernel
theorem dX5_put_64 : decode cX5_put 64 = .ok (.iload_n 2, 1) := by decide +kernel
theorem dX5_put_65 : decode cX5_put 65 = .ok (.iload 4, 2) := by decide +kernel
theorem dX5_put_67 : decode cX5_put 67 = .ok (.iload 5, 2) := by decide +kernel
theorem dX5_put_69 : decode cX5_put 69 = .ok (.invokevirtual 123, 3) := by decide +kernel
theorem dX5_put_72 : decode cX5_put 72 = .ok (.istore 7, 2) := by decide +kernel
theorem dX5_put_74 : decode cX5_put 74 = .ok (.iload 7, 2) := by decide +kernel
theorem dX5_put_76 : decode cX5_put 76 = .ok (.ifCond .ne 37, 3) := by decide +kernel
theorem dX5_put_79 : decode cX5_put 79 = .ok (.aload_n 0, 1) := by decide +kernel
theorem dX5_put_80 : decode cX5_put 80 = .ok (.iload_n 2, 1) := by decide +kernel
theorem dX5_put_81 : decode cX5_put 81 = .ok (.invokevirtual 74, 3) := by decide +kernel
theorem dX5_put_84 : decode cX5_put 84 = .ok (.istore 8, 2) := by decide +kernel
theorem dX5_put_86 : decode cX5_put 86 = .ok (.iload 8, 2) := by decide +kernel
theorem dX5_put_88 : decode cX5_put 88 = .ok (.ifCond .ge 13, 3) := by decide +kernel
theorem dX5_put_91 : decode cX5_put 91 = .ok (.aload_n 0, 1) := by decide +kernel
theorem dX5_put_92 : decode cX5_put 92 = .ok (.iload_n 2, 1) := by decide +kernel
theorem dX5_put_93 : decode cX5_put 93 = .ok (.iconst 1, 1) := by decide +kernel
theorem dX5_put_94 : decode cX5_put 94 = .ok (.iconst 0, 1) := by decide +kernel
theorem dX5_put_95 : decode cX5_put 95 = .ok (.invokevirtual 119, 3) := by decide +kernel
theorem dX5_put_98 : decode cX5_put 98 = .ok (.goto 5, 3) := by decide +kernel
theorem dX5_put_101 : decode cX5_put 101 = .ok (.iload 8, 2) := by decide +kernel
theorem dX5_put_103 : decode cX5_put 103 = .ok (.istore 8, 2) := by decide +kernel
theorem dX5_put_105 : decode cX5_put 105 = .ok (.aload_n 0, 1) := by decide +kernel
theorem dX5_put_106 : decode cX5_put 106 = .ok (.getfield 20, 3) := by decide +kernel
theorem dX5_put_109 : decode cX5_put 109 = .ok (.iload 8, 2) := by decide +kernel
theorem dX5_put_111 : decode cX5_put 111 = .ok (.iload_n 3, 1) := by decide +kernel
theorem dX5_put_112 : decode cX5_put 112 = .ok (.iastore, 1) := by decide +kernel
theorem dX5_put_113 : decode cX5_put 113 = .ok (.iload 7, 2) := by decide +kernel
theorem dX5_put_115 : decode cX5_put 115 = .ok (.ireturn, 1) := by decide +kernel
theorem dX5_delete_0 : decode cX5_delete 0 = .ok (.aload_n 0, 1) := by decide +kernel
theorem dX5_delete_1 : decode cX5_delete 1 = .ok (.iload_n 1, 1) := by decide +kernel
theorem dX5_delete_2 : decode cX5_delete 2 = .ok (.iload_n 2, 1) := by decide +kernel
theorem dX5_delete_3 : decode cX5_delete 3 = .ok (.iload_n 3, 1) := by decide +kernel
theorem dX5_delete_4 : decode cX5_delete 4 = .ok (.invokevirtual 106, 3) := by decide +kernel
theorem dX5_delete_7 : decode cX5_delete 7 = .ok (.ifCond .ne 5, 3) := by decide +kernel
theorem dX5_delete_10 : decode cX5_delete 10 = .ok (.iconst 0, 1) := by decide +kernel
theorem dX5_delete_11 : decode cX5_delete 11 = .ok (.ireturn, 1) := by decide +kernel
theorem dX5_delete_12 : decode cX5_delete 12 = .ok (.aload_n 0, 1) := by decide +kernel
theorem dX5_delete_13 : decode cX5_delete 13 = .ok (.iconst 0, 1) := by decide +kernel
theorem dX5_delete_14 : decode cX5_delete 14 = .ok (.putfield 127, 3) := by decide +kernel
theorem dX5_delete_17 : decode cX5_delete 17 = .ok (.aload_n 0, 1) := by decide +kernel
theorem dX5_delete_18 : decode cX5_delete 18 = .ok (.iload_n 2, 1) := by decide +kernel
theorem dX5_delete_19 : decode cX5_delete 19 = .ok (.invokevirtual 74, 3) := by decide +kernel
theorem dX5_delete_22 : decode cX5_delete 22 = .ok (.ifCond .ge 7, 3) := by decide +kernel
theorem dX5_delete_25 : decode cX5_delete 25 = .ok (.iconst 1, 1) := by decide +kernel
theorem dX5_delete_26 : decode cX5_delete 26 = .ok (.goto 18, 3) := by decide +kernel
theorem dX5_delete_29 : decode cX5_delete 29 = .ok (.aload_n 0, 1) := by decide +kernel
theorem dX5_delete_30 : decode cX5_delete 30 = .ok (.iload_n 1, 1) := by decide +kernel
theorem dX5_delete_31 : decode cX5_delete 31 = .ok (.iload_n 2, 1) := by decide +kernel
theorem dX5_delete_32 : decode cX5_delete 32 = .ok (.iload_n 3, 1) := by decide +kernel
theorem dX5_delete_33 : decode cX5_delete 33 = .ok (.invokevirtual 112, 3) := by decide +kernel
theorem dX5_delete_36 : decode cX5_delete 36 = .ok (.ifCond .eq 7, 3) := by decide +kernel
theorem dX5_delete_39 : decode cX5_delete 39 = .ok (.iconst 0, 1) := by decide +kernel
theorem dX5_delete_40 : decode cX5_delete 40 = .ok (.goto 4, 3) := by decide +kernel
theorem dX5_delete_43 : decode cX5_delete 43 = .ok (.iconst 4, 1) := by decide +kernel
theorem dX5_delete_44 : decode cX5_delete 44 = .ok (.istore 4, 2) := by decide +kernel
theorem dX5_delete_46 : decode cX5_delete 46 = .ok (.iload 4, 2) := by decide +kernel
theorem dX5_delete_48 : decode cX5_delete 48 = .ok (.ifCond .le 6, 3) := by decide +kernel
theorem dX5_delete_51 : decode cX5_delete 51 = .ok (.iload 4, 2) := by decide +kernel
theorem dX5_delete_53 : decode cX5_delete 53 = .ok (.ireturn, 1) := by decide +kernel
theorem dX5_delete_54 : decode cX5_delete 54 = .ok (.iconst 0, 1) := by decide +kernel
theorem dX5_delete_55 : decode cX5_delete 55 = .ok (.istore 5, 2) := by decide +kernel
theorem dX5_delete_57 : decode cX5_delete 57 = .ok (.iload 5, 2) := by decide +kernel
theorem dX5_delete_59 : decode cX5_delete 59 = .ok (.bipush 60, 2) := by decide +kernel
theorem dX5_delete_61 : decode cX5_delete 61 = .ok (.if_icmp .ge 47, 3) := by decide +kernel
theorem dX5_delete_64 : decode cX5_delete 64 = .ok (.aload_n 0, 1) := by decide +kernel
theorem dX5_delete_65 : decode cX5_delete 65 = .ok (.getfield 53, 3) := by decide +kernel
theorem dX5_delete_68 : decode cX5_delete 68 = .ok (.iload 5, 2) := by decide +kernel
theorem dX5_delete_70 : decode cX5_delete 70 = .ok (.aload_n 0, 1) := by decide +kernel
theorem dX5_delete_71 : decode cX5_delete 71 = .ok (.iload 5, 2) := by decide +kernel
theorem dX5_delete_73 : decode cX5_delete 73 = .ok (.iload_n 2, 1) := by decide +kernel
theorem dX5_delete_74 : decode cX5_delete 74 = .ok (.invokevirtual 100, 3) := by decide +kernel
theorem dX5_delete_77 : decode cX5_delete 77 = .ok (.ifCond .eq 23, 3) := by decide +kernel
theorem dX5_delete_80 : decode cX5_delete 80 = .ok (.aload_n 0, 1) := by decide +kernel
theorem dX5_delete_81 : decode cX5_delete 81 = .ok (.iload_n 1, 1) := by decide +kernel
theorem dX5_delete_82 : decode cX5_delete 82 = .ok (.aload_n 0, 1) := by decide +kernel
theorem dX5_delete_83 : decode cX5_delete 83 = .ok (.getfield 13, 3) := by decide +kernel
theorem dX5_delete_86 : decode cX5_delete 86 = .ok (.iload 5, 2) := by decide +kernel
theorem dX5_delete_88 : decode cX5_delete 88 = .ok (.iaload, 1) := by decide +kernel
theorem dX5_delete_89 : decode cX5_delete 89 = .ok (.iload_n 3, 1) := by decide +kernel
theorem dX5_delete_90 : decode cX5_delete 90 = .ok (.invokevirtual 103, 3) := by decide +kernel
theorem dX5_delete_93 : decode cX5_delete 93 = .ok (.ifCond .ne 7, 3) := by decide +kernel
theorem dX5_delete_96 : decode cX5_delete 96 = .ok (.iconst 1, 1) := by decide +kernel
theorem dX5_delete_97 : decode cX5_delete 97 = .ok (.goto 4, 3) := by decide +kernel
theorem dX5_delete_100 : decode cX5_delete 100 = .ok (.iconst 0, 1) := by decide +kernel
theorem dX5_delete_101 : decode cX5_delete 101 = .ok (.bastore, 1) := by decide +kernel
theorem dX5_delete_102 : decode cX5_delete 102 = .ok (.iinc 5 1, 3) := by decide +kernel
theorem dX5_delete_105 : decode cX5_delete 105 = .ok (.goto (-48), 3) := by decide +kernel
theorem dX5_delete_108 : decode cX5_delete 108 = .ok (.iconst 0, 1) := by decide +kernel
theorem dX5_delete_109 : decode cX5_delete 109 = .ok (.istore 5, 2) := by decide +kernel
theorem dX5_delete_111 : decode cX5_delete 111 = .ok (.iload 5, 2) := by decide +kernel
theorem dX5_delete_113 : decode cX5_delete 113 = .ok (.bipush 60, 2) := by decide +kernel
theorem dX5_delete_115 : decode cX5_delete 115 = .ok (.if_icmp .ge 94, 3) := by decide +kernel
theorem dX5_delete_118 : decode cX5_delete 118 = .ok (.aload_n 0, 1) := by decide +kernel
theorem dX5_delete_119 : decode cX5_delete 119 = .ok (.getfield 50, 3) := by decide +kernel
theorem dX5_delete_122 : decode cX5_delete 122 = .ok (.iload 5, 2) := by decide +kernel
theorem dX5_delete_124 : decode cX5_delete 124 = .ok (.aload_n 0, 1) := by decide +kernel
theorem dX5_delete_125 : decode cX5_delete 125 = .ok (.getfield 53, 3) := by decide +kernel
theorem dX5_delete_128 : decode cX5_delete 128 = .ok (.iload 5, 2) := by decide +kernel
theorem dX5_delete_130 : decode cX5_delete 130 = .ok (.baload, 1) := by decide +kernel
theorem dX5_delete_131 : decode cX5_delete 131 = .ok (.bastore, 1) := by decide +kernel
theorem dX5_delete_132 : decode cX5_delete 132 = .ok (.iconst 0, 1) := by decide +kernel
theorem dX5_delete_133 : decode cX5_delete 133 = .ok (.istore 6, 2) := by decide +kernel
theorem dX5_delete_135 : decode cX5_delete 135 = .ok (.iload 6, 2) := by decide +kernel
theorem dX5_delete_137 : decode cX5_delete 137 = .ok (.bipush 60, 2) := by decide +kernel
theorem dX5_delete_139 : decode cX5_delete 139 = .ok (.if_icmp .ge 64, 3) := by decide +kernel
theorem dX5_delete_142 : decode cX5_delete 142 = .ok (.aload_n 0, 1) := by decide +kernel
theorem dX5_delete_143 : decode cX5_delete 143 = .ok (.getfield 50, 3) := by decide +kernel
theorem dX5_delete_146 : decode cX5_delete 146 = .ok (.iload 5, 2) := by decide +kernel
theorem dX5_delete_148 : decode cX5_delete 148 = .ok (.dup2, 1) := by decide +kernel
theorem dX5_delete_149 : decode cX5_delete 149 = .ok (.baload, 1) := by decide +kernel
theorem dX5_delete_150 : decode cX5_delete 150 = .ok (.aload_n 0, 1) := by decide +kernel
theorem dX5_delete_151 : decode cX5_delete 151 = .ok (.iload 5, 2) := by decide +kernel
theorem dX5_delete_153 : decode cX5_delete 153 = .ok (.iload_n 2, 1) := by decide +kernel
theorem dX5_delete_154 : decode cX5_delete 154 = .ok (.invokevirtual 100, 3) := by decide +kernel
theorem dX5_delete_157 : decode cX5_delete 157 = .ok (.ifCond .eq 37, 3) := by decide +kernel
theorem dX5_delete_160 : decode cX5_delete 160 = .ok (.aload_n 0, 1) := by decide +kernel
theorem dX5_delete_161 : decode cX5_delete 161 = .ok (.getfield 53, 3) := by decide +kernel
theorem dX5_delete_164 : decode cX5_delete 164 = .ok (.iload 6, 2) := by decide +kernel
theorem dX5_delete_166 : decode cX5_delete 166 = .ok (.baload, 1) := by decide +kernel
theorem dX5_delete_167 : decode cX5_delete 167 = .ok (.ifCond .eq 27, 3) := by decide +kernel
theorem dX5_delete_170 : decode cX5_delete 170 = .ok (.aload_n 0, 1) := by decide +kernel
theorem dX5_delete_171 : decode cX5_delete 171 = .ok (.getfield 13, 3) := by decide +kernel
theorem dX5_delete_174 : decode cX5_delete 174 = .ok (.iload 5, 2) := by decide +kernel
theorem dX5_delete_176 : decode cX5_delete 176 = .ok (.iaload, 1) := by decide +kernel
theorem dX5_delete_177 : decode cX5_delete 177 = .ok (.aload_n 0, 1) := by decide +kernel
theorem dX5_delete_178 : decode cX5_delete 178 = .ok (.getfield 13, 3) := by decide +kernel
theorem dX5_delete_181 : decode cX5_delete 181 = .ok (.iload 6, 2) := by decide +kernel
theorem dX5_delete_183 : decode cX5_delete 183 = .ok (.iaload, 1) := by decide +kernel
theorem dX5_delete_184 : decode cX5_delete 184 = .ok (.invokestatic 78, 3) := by decide +kernel
theorem dX5_delete_187 : decode cX5_delete 187 = .ok (.ifCond .eq 7, 3) := by decide +kernel
theorem dX5_delete_190 : decode cX5_delete 190 = .ok (.iconst 1, 1) := by decide +kernel
theorem dX5_delete_191 : decode cX5_delete 191 = .ok (.goto 4, 3) := by decide +kernel
theorem dX5_delete_194 : decode cX5_delete 194 = .ok (.iconst 0, 1) := by decide +kernel
theorem dX5_delete_195 : decode cX5_delete 195 = .ok (.ior, 1) := by decide +kernel
theorem dX5_delete_196 : decode cX5_delete 196 = .ok (.bastore, 1) := by decide +kernel
theorem dX5_delete_197 : decode cX5_delete 197 = .ok (.iinc 6 1, 3) := by decide +kernel
theorem dX5_delete_200 : decode cX5_delete 200 = .ok (.goto (-65), 3) := by decide +kernel
theorem dX5_delete_203 : decode cX5_delete 203 = .ok (.iinc 5 1, 3) := by decide +kernel
theorem dX5_delete_206 : decode cX5_delete 206 = .ok (.goto (-95), 3) := by decide +kernel
theorem dX5_delete_209 : decode cX5_delete 209 = .ok (.iconst 0, 1) := by decide +kernel
theorem dX5_delete_210 : decode cX5_delete 210 = .ok (.istore 5, 2) := by decide +kernel
theorem dX5_delete_212 : decode cX5_delete 212 = .ok (.iload 5, 2) := by decide +kernel
theorem dX5_delete_214 : decode cX5_delete 214 = .ok (.bipush 60, 2) := by decide +kernel
theorem dX5_delete_216 : decode cX5_delete 216 = .ok (.if_icmp .ge 71, 3) := by decide +kernel
theorem dX5_delete_219 : decode cX5_delete 219 = .ok (.aload_n 0, 1) := by decide +kernel
theorem dX5_delete_220 : decode cX5_delete 220 = .ok (.getfield 53, 3) := by decide +kernel
theorem dX5_delete_223 : decode cX5_delete 223 = .ok (.iload 5, 2) := by decide +kernel
theorem dX5_delete_225 : decode cX5_delete 225 = .ok (.baload, 1) := by decide +kernel
theorem dX5_delete_226 : decode cX5_delete 226 = .ok (.ifCond .eq 29, 3) := by decide +kernel
theorem dX5_delete_229 : decode cX5_delete 229 = .ok (.aload_n 0, 1) := by decide +kernel
theorem dX5_delete_230 : decode cX5_delete 230 = .ok (.getfield 47, 3) := by decide +kernel
theorem dX5_delete_233 : decode cX5_delete 233 = .ok (.aload_n 0, 1) := by decide +kernel
theorem dX5_delete_234 : decode cX5_delete 234 = .ok (.getfield 127, 3) := by decide +kernel
theorem dX5_delete_237 : decode cX5_delete 237 = .ok (.aload_n 0, 1) := by decide +kernel
theorem dX5_delete_238 : decode cX5_delete 238 = .ok (.getfield 13, 3) := by decide +kernel
theorem dX5_delete_241 : decode cX5_delete 241 = .ok (.iload 5, 2) := by decide +kernel
theorem dX5_delete_243 : decode cX5_delete 243 = .ok (.iaload, 1) := by decide +kernel
theorem dX5_delete_244 : decode cX5_delete 244 = .ok (.iastore, 1) := by decide +kernel
theorem dX5_delete_245 : decode cX5_delete 245 = .ok (.aload_n 0, 1) := by decide +kernel
theorem dX5_delete_246 : decode cX5_delete 246 = .ok (.dup, 1) := by decide +kernel
theorem dX5_delete_247 : decode cX5_delete 247 = .ok (.getfield 127, 3) := by decide +kernel
theorem dX5_delete_250 : decode cX5_delete 250 = .ok (.iconst 1, 1) := by decide +kernel
theorem dX5_delete_251 : decode cX5_delete 251 = .ok (.iadd, 1) := by decide +kernel
theorem dX5_delete_252 : decode cX5_delete 252 = .ok (.putfield 127, 3) := by decide +kernel
theorem dX5_delete_255 : decode cX5_delete 255 = .ok (.aload_n 0, 1) := by decide +kernel
theorem dX5_delete_256 : decode cX5_delete 256 = .ok (.iload 5, 2) := by decide +kernel
theorem dX5_delete_258 : decode cX5_delete 258 = .ok (.iload_n 2, 1) := by decide +kernel
theorem dX5_delete_259 : decode cX5_delete 259 = .ok (.invokevirtual 100, 3) := by decide +kernel
theorem dX5_delete_262 : decode cX5_delete 262 = .ok (.ifCond .eq 19, 3) := by decide +kernel
theorem dX5_delete_265 : decode cX5_delete 265 = .ok (.aload_n 0, 1) := by decide +kernel
theorem dX5_delete_266 : decode cX5_delete 266 = .ok (.getfield 50, 3) := by decide +kernel
theorem dX5_delete_269 : decode cX5_delete 269 = .ok (.iload 5, 2) := by decide +kernel
theorem dX5_delete_271 : decode cX5_delete 271 = .ok (.baload, 1) := by decide +kernel
theorem dX5_delete_272 : decode cX5_delete 272 = .ok (.ifCond .ne 9, 3) := by decide +kernel
theorem dX5_delete_275 : decode cX5_delete 275 = .ok (.aload_n 0, 1) := by decide +kernel
theorem dX5_delete_276 : decode cX5_delete 276 = .ok (.iload 5, 2) := by decide +kernel
theorem dX5_delete_278 : decode cX5_delete 278 = .ok (.invokevirtual 130, 3) := by decide +kernel
theorem dX5_delete_281 : decode cX5_delete 281 = .ok (.iinc 5 1, 3) := by decide +kernel
theorem dX5_delete_284 : decode cX5_delete 284 = .ok (.goto (-72), 3) := by decide +kernel
theorem dX5_delete_287 : decode cX5_delete 287 = .ok (.aload_n 0, 1) := by decide +kernel
theorem dX5_delete_288 : decode cX5_delete 288 = .ok (.getfield 127, 3) := by decide +kernel
theorem dX5_delete_291 : decode cX5_delete 291 = .ok (.ifCond .le 8, 3) := by decide +kernel
theorem dX5_delete_294 : decode cX5_delete 294 = .ok (.bipush 6, 2) := by decide +kernel
theorem dX5_delete_296 : decode cX5_delete 296 = .ok (.goto 4, 3) := by decide +kernel
theorem dX5_delete_299 : decode cX5_delete 299 = .ok (.iconst 0, 1) := by decide +kernel
theorem dX5_delete_300 : decode cX5_delete 300 = .ok (.ireturn, 1) := by decide +kernel
theorem dX5_failures_0 : decode cX5_failures 0 = .ok (.aload_n 0, 1) := by decide +kernel
theorem dX5_failures_1 : decode cX5_failures 1 = .ok (.iconst 0, 1) := by decide +kernel
theorem dX5_failures_2 : decode cX5_failures 2 = .ok (.putfield 56, 3) := by decide +kernel
theorem dX5_failures_5 : decode cX5_failures 5 = .ok (.aload_n 0, 1) := by decide +kernel
theorem dX5_failures_6 : decode cX5_failures 6 = .ok (.getfield 127, 3) := by decide +kernel
theorem dX5_failures_9 : decode cX5_failures 9 = .ok (.ireturn, 1) := by decide +kernel
theorem dX5_failureAt_0 : decode cX5_failureAt 0 = .ok (.iconst (-1), 1) := by decide +kernel
theorem dX5_failureAt_1 : decode cX5_failureAt 1 = .ok (.istore_n 2, 1) := by decide +kernel
theorem dX5_failureAt_2 : decode cX5_failureAt 2 = .ok (.iconst 0, 1) := by decide +kernel
theorem dX5_failureAt_3 : decode cX5_failureAt 3 = .ok (.istore_n 3, 1) := by decide +kernel
theorem dX5_failureAt_4 : decode cX5_failureAt 4 = .ok (.iload_n 3, 1) := by decide +kernel
theorem dX5_failureAt_5 : decode cX5_failureAt 5 = .ok (.aload_n 0, 1) := by decide +kernel
theorem dX5_failureAt_6 : decode cX5_failureAt 6 = .ok (.getfield 127, 3) := by decide +kernel
theorem dX5_failureAt_9 : decode cX5_failureAt 9 = .ok (.if_icmp .ge 73, 3) := by decide +kernel
theorem dX5_failureAt_12 : decode cX5_failureAt 12 = .ok (.iconst 0, 1) := by decide +kernel
theorem dX5_failureAt_13 : decode cX5_failureAt 13 = .ok (.istore 4, 2) := by decide +kernel
theorem dX5_failureAt_15 : decode cX5_failureAt 15 = .ok (.iconst 0, 1) := by decide +kernel
theorem dX5_failureAt_16 : decode cX5_failureAt 16 = .ok (.istore 5, 2) := by decide +kernel
theorem dX5_failureAt_18 : decode cX5_failureAt 18 = .ok (.iload 5, 2) := by decide +kernel
theorem dX5_failureAt_20 : decode cX5_failureAt 20 = .ok (.aload_n 0, 1) := by decide +kernel
theorem dX5_failureAt_21 : decode cX5_failureAt 21 = .ok (.getfield 127, 3) := by decide +kernel
theorem dX5_failureAt_24 : decode cX5_failureAt 24 = .ok (.if_icmp .ge 35, 3) := by decide +kernel
theorem dX5_failureAt_27 : decode cX5_failureAt 27 = .ok (.iload 4, 2) := by decide +kernel
theorem dX5_failureAt_29 : decode cX5_failureAt 29 = .ok (.aload_n 0, 1) := by decide +kernel
theorem dX5_failureAt_30 : decode cX5_failureAt 30 = .ok (.getfield 47, 3) := by decide +kernel
theorem dX5_failureAt_33 : decode cX5_failureAt 33 = .ok (.iload 5, 2) := by decide +kernel
theorem dX5_failureAt_35 : decode cX5_failureAt 35 = .ok (.iaload, 1) := by decide +kernel
theorem dX5_failureAt_36 : decode cX5_failureAt 36 = .ok (.aload_n 0, 1) := by decide +kernel
theorem dX5_failureAt_37 : decode cX5_failureAt 37 = .ok (.getfield 47, 3) := by decide +kernel
theorem dX5_failureAt_40 : decode cX5_failureAt 40 = .ok (.iload_n 3, 1) := by decide +kernel
theorem dX5_failureAt_41 : decode cX5_failureAt 41 = .ok (.iaload, 1) := by decide +kernel
theorem dX5_failureAt_42 : decode cX5_failureAt 42 = .ok (.if_icmp .ge 7, 3) := by decide +kernel
theorem dX5_failureAt_45 : decode cX5_failureAt 45 = .ok (.iconst 1, 1) := by decide +kernel
theorem dX5_failureAt_46 : decode cX5_failureAt 46 = .ok (.goto 4, 3) := by decide +kernel
theorem dX5_failureAt_49 : decode cX5_failureAt 49 = .ok (.iconst 0, 1) := by decide +kernel
theorem dX5_failureAt_50 : decode cX5_failureAt 50 = .ok (.iadd, 1) := by decide +kernel
theorem dX5_failureAt_51 : decode cX5_failureAt 51 = .ok (.istore 4, 2) := by decide +kernel
theorem dX5_failureAt_53 : decode cX5_failureAt 53 = .ok (.iinc 5 1, 3) := by decide +kernel
theorem dX5_failureAt_56 : decode cX5_failureAt 56 = .ok (.goto (-38), 3) := by decide +kernel
theorem dX5_failureAt_59 : decode cX5_failureAt 59 = .ok (.iload 4, 2) := by decide +kernel
theorem dX5_failureAt_61 : decode cX5_failureAt 61 = .ok (.iload_n 1, 1) := by decide +kernel
theorem dX5_failureAt_62 : decode cX5_failureAt 62 = .ok (.if_icmp .ne 12, 3) := by decide +kernel
theorem dX5_failureAt_65 : decode cX5_failureAt 65 = .ok (.aload_n 0, 1) := by decide +kernel
theorem dX5_failureAt_66 : decode cX5_failureAt 66 = .ok (.getfield 47, 3) := by decide +kernel
theorem dX5_failureAt_69 : decode cX5_failureAt 69 = .ok (.iload_n 3, 1) := by decide +kernel
theorem dX5_failureAt_70 : decode cX5_failureAt 70 = .ok (.iaload, 1) := by decide +kernel
theorem dX5_failureAt_71 : decode cX5_failureAt 71 = .ok (.goto 4, 3) := by decide +kernel
theorem dX5_failureAt_74 : decode cX5_failureAt 74 = .ok (.iload_n 2, 1) := by decide +kernel
theorem dX5_failureAt_75 : decode cX5_failureAt 75 = .ok (.istore_n 2, 1) := by decide +kernel
theorem dX5_failureAt_76 : decode cX5_failureAt 76 = .ok (.iinc 3 1, 3) := by decide +kernel
theorem dX5_failureAt_79 : decode cX5_failureAt 79 = .ok (.goto (-75), 3) := by decide +kernel
theorem dX5_failureAt_82 : decode cX5_failureAt 82 = .ok (.aload_n 0, 1) := by decide +kernel
theorem dX5_failureAt_83 : decode cX5_failureAt 83 = .ok (.iload_n 2, 1) := by decide +kernel
theorem dX5_failureAt_84 : decode cX5_failureAt 84 = .ok (.ifCond .ge 7, 3) := by decide +kernel
theorem dX5_failureAt_87 : decode cX5_failureAt 87 = .ok (.iconst 1, 1) := by decide +kernel
theorem dX5_failureAt_88 : decode cX5_failureAt 88 = .ok (.goto 4, 3) := by decide +kernel
theorem dX5_failureAt_91 : decode cX5_failureAt 91 = .ok (.iconst 0, 1) := by decide +kernel
theorem dX5_failureAt_92 : decode cX5_failureAt 92 = .ok (.putfield 56, 3) := by decide +kernel
theorem dX5_failureAt_95 : decode cX5_failureAt 95 = .ok (.aload_n 0, 1) := by decide +kernel
theorem dX5_failureAt_96 : decode cX5_failureAt 96 = .ok (.getfield 56, 3) := by decide +kernel
theorem dX5_failureAt_99 : decode cX5_failureAt 99 = .ok (.ifCond .le 7, 3) := by decide +kernel
theorem dX5_failureAt_102 : decode cX5_failureAt 102 = .ok (.iconst 0, 1) := by decide +kernel
theorem dX5_failureAt_103 : decode cX5_failureAt 103 = .ok (.goto 4, 3) := by decide +kernel
theorem dX5_failureAt_106 : decode cX5_failureAt 106 = .ok (.iload_n 2, 1) := by decide +kernel
theorem dX5_failureAt_107 : decode cX5_failureAt 107 = .ok (.ireturn, 1) := by decide +kernel
theorem dX5_digits_0 : decode cX5_digits 0 = .ok (.iload_n 0, 1) := by decide +kernel
theorem dX5_digits_1 : decode cX5_digits 1 = .ok (.sipush 999, 3) := by decide +kernel
theorem dX5_digits_4 : decode cX5_digits 4 = .ok (.if_icmp .le 7, 3) := by decide +kernel
theorem dX5_digits_7 : decode cX5_digits 7 = .ok (.iconst 4, 1) := by decide +kernel
theorem dX5_digits_8 : decode cX5_digits 8 = .ok (.goto 32, 3) := by decide +kernel
theorem dX5_digits_11 : decode cX5_digits 11 = .ok (.iload_n 0, 1) := by decide +kernel
theorem dX5_digits_12 : decode cX5_digits 12 = .ok (.bipush 99, 2) := by decide +kernel
theorem dX5_digits_14 : decode cX5_digits 14 = .ok (.if_icmp .le 7, 3) := by decide +kernel
theorem dX5_digits_17 : decode cX5_digits 17 = .ok (.iconst 3, 1) := by decide +kernel
theorem dX5_digits_18 : decode cX5_digits 18 = .ok (.goto 22, 3) := by decide +kernel
theorem dX5_digits_21 : decode cX5_digits 21 = .ok (.iload_n 0, 1) := by decide +kernel
theorem dX5_digits_22 : decode cX5_digits 22 = .ok (.bipush 9, 2) := by decide +kernel
theorem dX5_digits_24 : decode cX5_digits 24 = .ok (.if_icmp .le 7, 3) := by decide +kernel
theorem dX5_digits_27 : decode cX5_digits 27 = .ok (.iconst 2, 1) := by decide +kernel
theorem dX5_digits_28 : decode cX5_digits 28 = .ok (.goto 12, 3) := by decide +kernel
theorem dX5_digits_31 : decode cX5_digits 31 = .ok (.iload_n 0, 1) := by decide +kernel
theorem dX5_digits_32 : decode cX5_digits 32 = .ok (.ifCond .le 7, 3) := by decide +kernel
theorem dX5_digits_35 : decode cX5_digits 35 = .ok (.iconst 1, 1) := by decide +kernel
theorem dX5_digits_36 : decode cX5_digits 36 = .ok (.goto 4, 3) := by decide +kernel
theorem dX5_digits_39 : decode cX5_digits 39 = .ok (.iconst 0, 1) := by decide +kernel
theorem dX5_digits_40 : decode cX5_digits 40 = .ok (.ireturn, 1) := by decide +kernel
theorem dX5_power_0 : decode cX5_power 0 = .ok (.iconst 1, 1) := by decide +kernel
theorem dX5_power_1 : decode cX5_power 1 = .ok (.istore_n 2, 1) := by decide +kernel
theorem dX5_power_2 : decode cX5_power 2 = .ok (.iload_n 1, 1) := by decide +kernel
theorem dX5_power_3 : decode cX5_power 3 = .ok (.invokestatic 134, 3) := by decide +kernel
theorem dX5_power_6 : decode cX5_power 6 = .ok (.istore_n 3, 1) := by decide +kernel
theorem dX5_power_7 : decode cX5_power 7 = .ok (.iload_n 3, 1) := by decide +kernel
theorem dX5_power_8 : decode cX5_power 8 = .ok (.iload_n 0, 1) := by decide +kernel
theorem dX5_power_9 : decode cX5_power 9 = .ok (.invokestatic 134, 3) := by decide +kernel
theorem dX5_power_12 : decode cX5_power 12 = .ok (.if_icmp .ge 14, 3) := by decide +kernel
theorem dX5_power_15 : decode cX5_power 15 = .ok (.iload_n 2, 1) := by decide +kernel
theorem dX5_power_16 : decode cX5_power 16 = .ok (.bipush 10, 2) := by decide +kernel
theorem dX5_power_18 : decode cX5_power 18 = .ok (.imul, 1) := by decide +kernel
theorem dX5_power_19 : decode cX5_power 19 = .ok (.istore_n 2, 1) := by decide +kernel
theorem dX5_power_20 : decode cX5_power 20 = .ok (.iinc 3 1, 3) := by decide +kernel
theorem dX5_power_23 : decode cX5_power 23 = .ok (.goto (-16), 3) := by decide +kernel
theorem dX5_power_26 : decode cX5_power 26 = .ok (.iload_n 2, 1) := by decide +kernel
theorem dX5_power_27 : decode cX5_power 27 = .ok (.ireturn, 1) := by decide +kernel
theorem dX5_brings_0 : decode cX5_brings 0 = .ok (.aload_n 0, 1) := by decide +kernel
theorem dX5_brings_1 : decode cX5_brings 1 = .ok (.iload_n 1, 1) := by decide +kernel
theorem dX5_brings_2 : decode cX5_brings 2 = .ok (.iload_n 2, 1) := by decide +kernel
theorem dX5_brings_3 : decode cX5_brings 3 = .ok (.iload 5, 2) := by decide +kernel
theorem dX5_brings_5 : decode cX5_brings 5 = .ok (.invokevirtual 106, 3) := by decide +kernel
theorem dX5_brings_8 : decode cX5_brings 8 = .ok (.ifCond .eq 35, 3) := by decide +kernel
theorem dX5_brings_11 : decode cX5_brings 11 = .ok (.iload_n 3, 1) := by decide +kernel
theorem dX5_brings_12 : decode cX5_brings 12 = .ok (.invokestatic 71, 3) := by decide +kernel
theorem dX5_brings_15 : decode cX5_brings 15 = .ok (.ifCond .eq 28, 3) := by decide +kernel
theorem dX5_brings_18 : decode cX5_brings 18 = .ok (.iload_n 2, 1) := by decide +kernel
theorem dX5_brings_19 : decode cX5_brings 19 = .ok (.iload_n 3, 1) := by decide +kernel
theorem dX5_brings_20 : decode cX5_brings 20 = .ok (.if_icmp .eq 23, 3) := by decide +kernel
theorem dX5_brings_23 : decode cX5_brings 23 = .ok (.iload_n 2, 1) := by decide +kernel
theorem dX5_brings_24 : decode cX5_brings 24 = .ok (.iload_n 3, 1) := by decide +kernel
theorem dX5_brings_25 : decode cX5_brings 25 = .ok (.invokestatic 78, 3) := by decide +kernel
theorem dX5_brings_28 : decode cX5_brings 28 = .ok (.ifCond .ne 15, 3) := by decide +kernel
theorem dX5_brings_31 : decode cX5_brings 31 = .ok (.iload_n 3, 1) := by decide +kernel
theorem dX5_brings_32 : decode cX5_brings 32 = .ok (.iload_n 2, 1) := by decide +kernel
theorem dX5_brings_33 : decode cX5_brings 33 = .ok (.invokestatic 78, 3) := by decide +kernel
theorem dX5_brings_36 : decode cX5_brings 36 = .ok (.ifCond .ne 7, 3) := by decide +kernel
theorem dX5_brings_39 : decode cX5_brings 39 = .ok (.iconst 1, 1) := by decide +kernel
theorem dX5_brings_40 : decode cX5_brings 40 = .ok (.goto 4, 3) := by decide +kernel
theorem dX5_brings_43 : decode cX5_brings 43 = .ok (.iconst 0, 1) := by decide +kernel
theorem dX5_brings_44 : decode cX5_brings 44 = .ok (.istore 7, 2) := by decide +kernel
theorem dX5_brings_46 : decode cX5_brings 46 = .ok (.aload_n 0, 1) := by decide +kernel
theorem dX5_brings_47 : decode cX5_brings 47 = .ok (.iload 7, 2) := by decide +kernel
theorem dX5_brings_49 : decode cX5_brings 49 = .ok (.ifCond .eq 7, 3) := by decide +kernel
theorem dX5_brings_52 : decode cX5_brings 52 = .ok (.iconst 0, 1) := by decide +kernel
theorem dX5_brings_53 : decode cX5_brings 53 = .ok (.goto 4, 3) := by decide +kernel
theorem dX5_brings_56 : decode cX5_brings 56 = .ok (.iconst 1, 1) := by decide +kernel
theorem dX5_brings_57 : decode cX5_brings 57 = .ok (.putfield 56, 3) := by decide +kernel
theorem dX5_brings_60 : decode cX5_brings 60 = .ok (.iload 7, 2) := by decide +kernel
theorem dX5_brings_62 : decode cX5_brings 62 = .ok (.ifCond .ne 5, 3) := by decide +kernel
theorem dX5_brings_65 : decode cX5_brings 65 = .ok (.iconst 0, 1) := by decide +kernel
theorem dX5_brings_66 : decode cX5_brings 66 = .ok (.ireturn, 1) := by decide +kernel
theorem dX5_brings_67 : decode cX5_brings 67 = .ok (.aload_n 0, 1) := by decide +kernel
theorem dX5_brings_68 : decode cX5_brings 68 = .ok (.iload_n 2, 1) := by decide +kernel
theorem dX5_brings_69 : decode cX5_brings 69 = .ok (.invokevirtual 74, 3) := by decide +kernel
theorem dX5_brings_72 : decode cX5_brings 72 = .ok (.ifCond .lt 19, 3) := by decide +kernel
theorem dX5_brings_75 : decode cX5_brings 75 = .ok (.aload_n 0, 1) := by decide +kernel
theorem dX5_brings_76 : decode cX5_brings 76 = .ok (.iload_n 3, 1) := by decide +kernel
theorem dX5_brings_77 : decode cX5_brings 77 = .ok (.bipush 10, 2) := by decide +kernel
theorem dX5_brings_79 : decode cX5_brings 79 = .ok (.idiv, 1) := by decide +kernel
theorem dX5_brings_80 : decode cX5_brings 80 = .ok (.invokevirtual 109, 3) := by decide +kernel
theorem dX5_brings_83 : decode cX5_brings 83 = .ok (.iconst 2, 1) := by decide +kernel
theorem dX5_brings_84 : decode cX5_brings 84 = .ok (.if_icmp .ne 7, 3) := by decide +kernel
theorem dX5_brings_87 : decode cX5_brings 87 = .ok (.iconst 1, 1) := by decide +kernel
theorem dX5_brings_88 : decode cX5_brings 88 = .ok (.goto 4, 3) := by decide +kernel
theorem dX5_brings_91 : decode cX5_brings 91 = .ok (.iconst 0, 1) := by decide +kernel
theorem dX5_brings_92 : decode cX5_brings 92 = .ok (.istore 8, 2) := by decide +kernel
theorem dX5_brings_94 : decode cX5_brings 94 = .ok (.iconst 0, 1) := by decide +kernel
theorem dX5_brings_95 : decode cX5_brings 95 = .ok (.istore 9, 2) := by decide +kernel
theorem dX5_brings_97 : decode cX5_brings 97 = .ok (.iconst 0, 1) := by decide +kernel
theorem dX5_brings_98 : decode cX5_brings 98 = .ok (.istore 10, 2) := by decide +kernel
theorem dX5_brings_100 : decode cX5_brings 100 = .ok (.iconst 0, 1) := by decide +kernel
theorem dX5_brings_101 : decode cX5_brings 101 = .ok (.istore 11, 2) := by decide +kernel
theorem dX5_brings_103 : decode cX5_brings 103 = .ok (.iload 11, 2) := by decide +kernel
theorem dX5_brings_105 : decode cX5_brings 105 = .ok (.bipush 60, 2) := by decide +kernel
theorem dX5_brings_107 : decode cX5_brings 107 = .ok (.if_icmp .ge 107, 3) := by decide +kernel
theorem dX5_brings_110 : decode cX5_brings 110 = .ok (.aload_n 0, 1) := by decide +kernel
theorem dX5_brings_111 : decode cX5_brings 111 = .ok (.getfield 50, 3) := by decide +kernel
theorem dX5_brings_114 : decode cX5_brings 114 = .ok (.iload 11, 2) := by decide +kernel
theorem dX5_brings_116 : decode cX5_brings 116 = .ok (.aload_n 0, 1) := by decide +kernel
theorem dX5_brings_117 : decode cX5_brings 117 = .ok (.iload 11, 2) := by decide +kernel
theorem dX5_brings_119 : decode cX5_brings 119 = .ok (.iload_n 2, 1) := by decide +kernel
theorem dX5_brings_120 : decode cX5_brings 120 = .ok (.invokevirtual 100, 3) := by decide +kernel
theorem dX5_brings_123 : decode cX5_brings 123 = .ok (.bastore, 1) := by decide +kernel
theorem dX5_brings_124 : decode cX5_brings 124 = .ok (.iload 8, 2) := by decide +kernel
theorem dX5_brings_126 : decode cX5_brings 126 = .ok (.aload_n 0, 1) := by decide +kernel
theorem dX5_brings_127 : decode cX5_brings 127 = .ok (.getfield 50, 3) := by decide +kernel
theorem dX5_brings_130 : decode cX5_brings 130 = .ok (.iload 11, 2) := by decide +kernel
theorem dX5_brings_132 : decode cX5_brings 132 = .ok (.baload, 1) := by decide +kernel
theorem dX5_brings_133 : decode cX5_brings 133 = .ok (.ifCond .eq 27, 3) := by decide +kernel
theorem dX5_brings_136 : decode cX5_brings 136 = .ok (.iload_n 3, 1) := by decide +kernel
theorem dX5_brings_137 : decode cX5_brings 137 = .ok (.invokestatic 134, 3) := by decide +kernel
theorem dX5_brings_140 : decode cX5_brings 140 = .ok (.aload_n 0, 1) := by decide +kernel
theorem dX5_brings_141 : decode cX5_brings 141 = .ok (.getfield 13, 3) := by decide +kernel
theorem dX5_brings_144 : decode cX5_brings 144 = .ok (.iload 11, 2) := by decide +kernel
theorem dX5_brings_146 : decode cX5_brings 146 = .ok (.iaload, 1) := by decide +kernel
theorem dX5_brings_147 : decode cX5_brings 147 = .ok (.invokestatic 134, 3) := by decide +kernel
theorem dX5_brings_150 : decode cX5_brings 150 = .ok (.iadd, 1) := by decide +kernel
theorem dX5_brings_151 : decode cX5_brings 151 = .ok (.iload_n 2, 1) := by decide +kernel
theorem dX5_brings_152 : decode cX5_brings 152 = .ok (.invokestatic 134, 3) := by decide +kernel
theorem dX5_brings_155 : decode cX5_brings 155 = .ok (.isub, 1) := by decide +kernel
theorem dX5_brings_156 : decode cX5_brings 156 = .ok (.iconst 5, 1) := by decide +kernel
theorem dX5_brings_157 : decode cX5_brings 157 = .ok (.if_icmp .ge 7, 3) := by decide +kernel
theorem dX5_brings_160 : decode cX5_brings 160 = .ok (.iconst 1, 1) := by decide +kernel
theorem dX5_brings_161 : decode cX5_brings 161 = .ok (.goto 4, 3) := by decide +kernel
theorem dX5_brings_164 : decode cX5_brings 164 = .ok (.iconst 0, 1) := by decide +kernel
theorem dX5_brings_165 : decode cX5_brings 165 = .ok (.iand, 1) := by decide +kernel
theorem dX5_brings_166 : decode cX5_brings 166 = .ok (.istore 8, 2) := by decide +kernel
theorem dX5_brings_168 : decode cX5_brings 168 = .ok (.iload 9, 2) := by decide +kernel
theorem dX5_brings_170 : decode cX5_brings 170 = .ok (.aload_n 0, 1) := by decide +kernel
theorem dX5_brings_171 : decode cX5_brings 171 = .ok (.getfield 50, 3) := by decide +kernel
theorem dX5_brings_174 : decode cX5_brings 174 = .ok (.iload 11, 2) := by decide +kernel
theorem dX5_brings_176 : decode cX5_brings 176 = .ok (.baload, 1) := by decide +kernel
theorem dX5_brings_177 : decode cX5_brings 177 = .ok (.ifCond .eq 7, 3) := by decide +kernel
theorem dX5_brings_180 : decode cX5_brings 180 = .ok (.iconst 1, 1) := by decide +kernel
theorem dX5_brings_181 : decode cX5_brings 181 = .ok (.goto 4, 3) := by decide +kernel
theorem dX5_brings_184 : decode cX5_brings 184 = .ok (.iconst 0, 1) := by decide +kernel
theorem dX5_brings_185 : decode cX5_brings 185 = .ok (.iadd, 1) := by decide +kernel
theorem dX5_brings_186 : decode cX5_brings 186 = .ok (.istore 9, 2) := by decide +kernel
theorem dX5_brings_188 : decode cX5_brings 188 = .ok (.iload 10, 2) := by decide +kernel
theorem dX5_brings_190 : decode cX5_brings 190 = .ok (.aload_n 0, 1) := by decide +kernel
theorem dX5_brings_191 : decode cX5_brings 191 = .ok (.iload 11, 2) := by decide +kernel
theorem dX5_brings_193 : decode cX5_brings 193 = .ok (.iload_n 3, 1) := by decide +kernel
theorem dX5_brings_194 : decode cX5_brings 194 = .ok (.invokevirtual 100, 3) := by decide +kernel
theorem dX5_brings_197 : decode cX5_brings 197 = .ok (.ifCond .eq 7, 3) := by decide +kernel
theorem dX5_brings_200 : decode cX5_brings 200 = .ok (.iconst 1, 1) := by decide +kernel
theorem dX5_brings_201 : decode cX5_brings 201 = .ok (.goto 4, 3) := by decide +kernel
theorem dX5_brings_204 : decode cX5_brings 204 = .ok (.iconst 0, 1) := by decide +kernel
theorem dX5_brings_205 : decode cX5_brings 205 = .ok (.iadd, 1) := by decide +kernel
theorem dX5_brings_206 : decode cX5_brings 206 = .ok (.istore 10, 2) := by decide +kernel
theorem dX5_brings_208 : decode cX5_brings 208 = .ok (.iinc 11 1, 3) := by decide +kernel
theorem dX5_brings_211 : decode cX5_brings 211 = .ok (.goto (-108), 3) := by decide +kernel
theorem dX5_brings_214 : decode cX5_brings 214 = .ok (.aload_n 0, 1) := by decide +kernel
theorem dX5_brings_215 : decode cX5_brings 215 = .ok (.iload_n 1, 1) := by decide +kernel
theorem dX5_brings_216 : decode cX5_brings 216 = .ok (.iload_n 3, 1) := by decide +kernel
theorem dX5_brings_217 : decode cX5_brings 217 = .ok (.iload 5, 2) := by decide +kernel
theorem dX5_brings_219 : decode cX5_brings 219 = .ok (.invokevirtual 112, 3) := by decide +kernel
theorem dX5_brings_222 : decode cX5_brings 222 = .ok (.ifCond .eq 18, 3) := by decide +kernel
theorem dX5_brings_225 : decode cX5_brings 225 = .ok (.aload_n 0, 1) := by decide +kernel
theorem dX5_brings_226 : decode cX5_brings 226 = .ok (.iload_n 1, 1) := by decide +kernel
theorem dX5_brings_227 : decode cX5_brings 227 = .ok (.iload_n 3, 1) := by decide +kernel
theorem dX5_brings_228 : decode cX5_brings 228 = .ok (.iload 5, 2) := by decide +kernel
theorem dX5_brings_230 : decode cX5_brings 230 = .ok (.invokevirtual 137, 3) := by decide +kernel
theorem dX5_brings_233 : decode cX5_brings 233 = .ok (.ifCond .eq 7, 3) := by decide +kernel
theorem dX5_brings_236 : decode cX5_brings 236 = .ok (.iconst 1, 1) := by decide +kernel
theorem dX5_brings_237 : decode cX5_brings 237 = .ok (.goto 4, 3) := by decide +kernel
theorem dX5_brings_240 : decode cX5_brings 240 = .ok (.iconst 0, 1) := by decide +kernel
theorem dX5_brings_241 : decode cX5_brings 241 = .ok (.istore 11, 2) := by decide +kernel
theorem dX5_brings_243 : decode cX5_brings 243 = .ok (.iload 11, 2) := by decide +kernel
theorem dX5_brings_245 : decode cX5_brings 245 = .ok (.ifCond .eq 37, 3) := by decide +kernel
theorem dX5_brings_248 : decode cX5_brings 248 = .ok (.iload 6, 2) := by decide +kernel
theorem dX5_brings_250 : decode cX5_brings 250 = .ok (.ifCond .eq 28, 3) := by decide +kernel
theorem dX5_brings_253 : decode cX5_brings 253 = .ok (.aload_n 0, 1) := by decide +kernel
theorem dX5_brings_254 : decode cX5_brings 254 = .ok (.iload_n 1, 1) := by decide +kernel
theorem dX5_brings_255 : decode cX5_brings 255 = .ok (.iload_n 2, 1) := by decide +kernel
theorem dX5_brings_256 : decode cX5_brings 256 = .ok (.bipush 10, 2) := by decide +kernel
theorem dX5_brings_258 : decode cX5_brings 258 = .ok (.idiv, 1) := by decide +kernel
theorem dX5_brings_259 : decode cX5_brings 259 = .ok (.iload 5, 2) := by decide +kernel
theorem dX5_brings_261 : decode cX5_brings 261 = .ok (.invokevirtual 103, 3) := by decide +kernel
theorem dX5_brings_264 : decode cX5_brings 264 = .ok (.ifCond .eq 18, 3) := by decide +kernel
theorem dX5_brings_267 : decode cX5_brings 267 = .ok (.aload_n 0, 1) := by decide +kernel
theorem dX5_brings_268 : decode cX5_brings 268 = .ok (.iload_n 1, 1) := by decide +kernel
theorem dX5_brings_269 : decode cX5_brings 269 = .ok (.iload_n 2, 1) := by decide +kernel
theorem dX5_brings_270 : decode cX5_brings 270 = .ok (.iload 5, 2) := by decide +kernel
theorem dX5_brings_272 : decode cX5_brings 272 = .ok (.invokevirtual 137, 3) := by decide +kernel
theorem dX5_brings_275 : decode cX5_brings 275 = .ok (.ifCond .eq 7, 3) := by decide +kernel
theorem dX5_brings_278 : decode cX5_brings 278 = .ok (.iconst 1, 1) := by decide +kernel
theorem dX5_brings_279 : decode cX5_brings 279 = .ok (.goto 4, 3) := by decide +kernel
theorem dX5_brings_282 : decode cX5_brings 282 = .ok (.iconst 0, 1) := by decide +kernel
theorem dX5_brings_283 : decode cX5_brings 283 = .ok (.istore 11, 2) := by decide +kernel
theorem dX5_brings_285 : decode cX5_brings 285 = .ok (.iload 8, 2) := by decide +kernel
theorem dX5_brings_287 : decode cX5_brings 287 = .ok (.ifCond .ne 7, 3) := by decide +kernel
theorem dX5_brings_290 : decode cX5_brings 290 = .ok (.iconst 1, 1) := by decide +kernel
theorem dX5_brings_291 : decode cX5_brings 291 = .ok (.goto 54, 3) := by decide +kernel
theorem dX5_brings_294 : decode cX5_brings 294 = .ok (.aload_n 0, 1) := by decide +kernel
theorem dX5_brings_295 : decode cX5_brings 295 = .ok (.iload_n 3, 1) := by decide +kernel
theorem dX5_brings_296 : decode cX5_brings 296 = .ok (.invokevirtual 74, 3) := by decide +kernel
theorem dX5_brings_299 : decode cX5_brings 299 = .ok (.ifCond .lt 12, 3) := by decide +kernel
theorem dX5_brings_302 : decode cX5_brings 302 = .ok (.iload 4, 2) := by decide +kernel
theorem dX5_brings_304 : decode cX5_brings 304 = .ok (.ifCond .ne 7, 3) := by decide +kernel
theorem dX5_brings_307 : decode cX5_brings 307 = .ok (.iconst 2, 1) := by decide +kernel
theorem dX5_brings_308 : decode cX5_brings 308 = .ok (.goto 37, 3) := by decide +kernel
theorem dX5_brings_311 : decode cX5_brings 311 = .ok (.iload 11, 2) := by decide +kernel
theorem dX5_brings_313 : decode cX5_brings 313 = .ok (.ifCond .ne 7, 3) := by decide +kernel
theorem dX5_brings_316 : decode cX5_brings 316 = .ok (.iconst 4, 1) := by decide +kernel
theorem dX5_brings_317 : decode cX5_brings 317 = .ok (.goto 28, 3) := by decide +kernel
theorem dX5_brings_320 : decode cX5_brings 320 = .ok (.iload 6, 2) := by decide +kernel
theorem dX5_brings_322 : decode cX5_brings 322 = .ok (.ifCond .ne 22, 3) := by decide +kernel
theorem dX5_brings_325 : decode cX5_brings 325 = .ok (.aload_n 0, 1) := by decide +kernel
theorem dX5_brings_326 : decode cX5_brings 326 = .ok (.invokevirtual 115, 3) := by decide +kernel
theorem dX5_brings_329 : decode cX5_brings 329 = .ok (.iload 10, 2) := by decide +kernel
theorem dX5_brings_331 : decode cX5_brings 331 = .ok (.isub, 1) := by decide +kernel
theorem dX5_brings_332 : decode cX5_brings 332 = .ok (.iload 9, 2) := by decide +kernel
theorem dX5_brings_334 : decode cX5_brings 334 = .ok (.iadd, 1) := by decide +kernel
theorem dX5_brings_335 : decode cX5_brings 335 = .ok (.bipush 60, 2) := by decide +kernel
theorem dX5_brings_337 : decode cX5_brings 337 = .ok (.if_icmp .le 7, 3) := by decide +kernel
theorem dX5_brings_340 : decode cX5_brings 340 = .ok (.iconst 5, 1) := by decide +kernel
theorem dX5_brings_341 : decode cX5_brings 341 = .ok (.goto 4, 3) := by decide +kernel
theorem dX5_brings_344 : decode cX5_brings 344 = .ok (.iconst 0, 1) := by decide +kernel
theorem dX5_brings_345 : decode cX5_brings 345 = .ok (.istore 12, 2) := by decide +kernel
theorem dX5_brings_347 : decode cX5_brings 347 = .ok (.iload 12, 2) := by decide +kernel
theorem dX5_brings_349 : decode cX5_brings 349 = .ok (.ifCond .ne 11, 3) := by decide +kernel
theorem dX5_brings_352 : decode cX5_brings 352 = .ok (.aload_n 0, 1) := by decide +kernel
theorem dX5_brings_353 : decode cX5_brings 353 = .ok (.iload_n 2, 1) := by decide +kernel
theorem dX5_brings_354 : decode cX5_brings 354 = .ok (.iload_n 3, 1) := by decide +kernel
theorem dX5_brings_355 : decode cX5_brings 355 = .ok (.iload 6, 2) := by decide +kernel
theorem dX5_brings_357 : decode cX5_brings 357 = .ok (.invokevirtual 140, 3) := by decide +kernel
theorem dX5_brings_360 : decode cX5_brings 360 = .ok (.iload 12, 2) := by decide +kernel
theorem dX5_brings_362 : decode cX5_brings 362 = .ok (.ireturn, 1) := by decide +kernel
theorem dX5_carries_0 : decode cX5_carries 0 = .ok (.iconst 0, 1) := by decide +kernel
theorem dX5_carries_1 : decode cX5_carries 1 = .ok (.istore 4, 2) := by decide +kernel
theorem dX5_carries_3 : decode cX5_carries 3 = .ok (.iload 4, 2) := by decide +kernel
theorem dX5_carries_5 : decode cX5_carries 5 = .ok (.bipush 60, 2) := by decide +kernel
theorem dX5_carries_7 : decode cX5_carries 7 = .ok (.if_icmp .ge 25, 3) := by decide +kernel
theorem dX5_carries_10 : decode cX5_carries 10 = .ok (.aload_n 0, 1) := by decide +kernel
theorem dX5_carries_11 : decode cX5_carries 11 = .ok (.iload 4, 2) := by decide +kernel
theorem dX5_carries_13 : decode cX5_carries 13 = .ok (.iload_n 2, 1) := by decide +kernel
theorem dX5_carries_14 : decode cX5_carries 14 = .ok (.invokevirtual 100, 3) := by decide +kernel
theorem dX5_carries_17 : decode cX5_carries 17 = .ok (.ifCond .eq 9, 3) := by decide +kernel
theorem dX5_carries_20 : decode cX5_carries 20 = .ok (.aload_n 0, 1) := by decide +kernel
theorem dX5_carries_21 : decode cX5_carries 21 = .ok (.iload 4, 2) := by decide +kernel
theorem dX5_carries_23 : decode cX5_carries 23 = .ok (.invokevirtual 130, 3) := by decide +kernel
theorem dX5_carries_26 : decode cX5_carries 26 = .ok (.iinc 4 1, 3) := by decide +kernel
theorem dX5_carries_29 : decode cX5_carries 29 = .ok (.goto (-26), 3) := by decide +kernel
theorem dX5_carries_32 : decode cX5_carries 32 = .ok (.aload_n 0, 1) := by decide +kernel
theorem dX5_carries_33 : decode cX5_carries 33 = .ok (.invokevirtual 144, 3) := by decide +kernel
theorem dX5_carries_36 : decode cX5_carries 36 = .ok (.istore 4, 2) := by decide +kernel
theorem dX5_carries_38 : decode cX5_carries 38 = .ok (.iload 4, 2) := by decide +kernel
theorem dX5_carries_40 : decode cX5_carries 40 = .ok (.ifCond .lt 122, 3) := by decide +kernel
theorem dX5_carries_43 : decode cX5_carries 43 = .ok (.aload_n 0, 1) := by decide +kernel
theorem dX5_carries_44 : decode cX5_carries 44 = .ok (.getfield 50, 3) := by decide +kernel
theorem dX5_carries_47 : decode cX5_carries 47 = .ok (.iload 4, 2) := by decide +kernel
theorem dX5_carries_49 : decode cX5_carries 49 = .ok (.iconst 0, 1) := by decide +kernel
theorem dX5_carries_50 : decode cX5_carries 50 = .ok (.bastore, 1) := by decide +kernel
theorem dX5_carries_51 : decode cX5_carries 51 = .ok (.aload_n 0, 1) := by decide +kernel
theorem dX5_carries_52 : decode cX5_carries 52 = .ok (.getfield 13, 3) := by decide +kernel
theorem dX5_carries_55 : decode cX5_carries 55 = .ok (.iload 4, 2) := by decide +kernel
theorem dX5_carries_57 : decode cX5_carries 57 = .ok (.iaload, 1) := by decide +kernel
theorem dX5_carries_58 : decode cX5_carries 58 = .ok (.iload_n 1, 1) := by decide +kernel
theorem dX5_carries_59 : decode cX5_carries 59 = .ok (.invokestatic 147, 3) := by decide +kernel
theorem dX5_carries_62 : decode cX5_carries 62 = .ok (.istore 5, 2) := by decide +kernel
theorem dX5_carries_64 : decode cX5_carries 64 = .ok (.iload_n 2, 1) := by decide +kernel
theorem dX5_carries_65 : decode cX5_carries 65 = .ok (.iload 5, 2) := by decide +kernel
theorem dX5_carries_67 : decode cX5_carries 67 = .ok (.imul, 1) := by decide +kernel
theorem dX5_carries_68 : decode cX5_carries 68 = .ok (.aload_n 0, 1) := by decide +kernel
theorem dX5_carries_69 : decode cX5_carries 69 = .ok (.getfield 13, 3) := by decide +kernel
theorem dX5_carries_72 : decode cX5_carries 72 = .ok (.iload 4, 2) := by decide +kernel
theorem dX5_carries_74 : decode cX5_carries 74 = .ok (.iaload, 1) := by decide +kernel
theorem dX5_carries_75 : decode cX5_carries 75 = .ok (.iload 5, 2) := by decide +kernel
theorem dX5_carries_77 : decode cX5_carries 77 = .ok (.irem, 1) := by decide +kernel
theorem dX5_carries_78 : decode cX5_carries 78 = .ok (.iadd, 1) := by decide +kernel
theorem dX5_carries_79 : decode cX5_carries 79 = .ok (.istore 6, 2) := by decide +kernel
theorem dX5_carries_81 : decode cX5_carries 81 = .ok (.iload_n 3, 1) := by decide +kernel
theorem dX5_carries_82 : decode cX5_carries 82 = .ok (.ifCond .eq 50, 3) := by decide +kernel
theorem dX5_carries_85 : decode cX5_carries 85 = .ok (.aload_n 0, 1) := by decide +kernel
theorem dX5_carries_86 : decode cX5_carries 86 = .ok (.iload 4, 2) := by decide +kernel
theorem dX5_carries_88 : decode cX5_carries 88 = .ok (.invokevirtual 130, 3) := by decide +kernel
theorem dX5_carries_91 : decode cX5_carries 91 = .ok (.aload_n 0, 1) := by decide +kernel
theorem dX5_carries_92 : decode cX5_carries 92 = .ok (.getfield 7, 3) := by decide +kernel
theorem dX5_carries_95 : decode cX5_carries 95 = .ok (.iload 4, 2) := by decide +kernel
theorem dX5_carries_97 : decode cX5_carries 97 = .ok (.iconst 1, 1) := by decide +kernel
theorem dX5_carries_98 : decode cX5_carries 98 = .ok (.bastore, 1) := by decide +kernel
theorem dX5_carries_99 : decode cX5_carries 99 = .ok (.aload_n 0, 1) := by decide +kernel
theorem dX5_carries_100 : decode cX5_carries 100 = .ok (.getfield 13, 3) := by decide +kernel
theorem dX5_carries_103 : decode cX5_carries 103 = .ok (.iload 4, 2) := by decide +kernel
theorem dX5_carries_105 : decode cX5_carries 105 = .ok (.iload 6, 2) := by decide +kernel
theorem dX5_carries_107 : decode cX5_carries 107 = .ok (.iastore, 1) := by decide +kernel
theorem dX5_carries_108 : decode cX5_carries 108 = .ok (.aload_n 0, 1) := by decide +kernel
theorem dX5_carries_109 : decode cX5_carries 109 = .ok (.dup, 1) := by decide +kernel
theorem dX5_carries_110 : decode cX5_carries 110 = .ok (.getfield 82, 3) := by decide +kernel
theorem dX5_carries_113 : decode cX5_carries 113 = .ok (.iconst 1, 1) := by decide +kernel
theorem dX5_carries_114 : decode cX5_carries 114 = .ok (.iadd, 1) := by decide +kernel
theorem dX5_carries_115 : decode cX5_carries 115 = .ok (.putfield 82, 3) := by decide +kernel
theorem dX5_carries_118 : decode cX5_carries 118 = .ok (.aload_n 0, 1) := by decide +kernel
theorem dX5_carries_119 : decode cX5_carries 119 = .ok (.getfield 23, 3) := by decide +kernel
theorem dX5_carries_122 : decode cX5_carries 122 = .ok (.iload 4, 2) := by decide +kernel
theorem dX5_carries_124 : decode cX5_carries 124 = .ok (.aload_n 0, 1) := by decide +kernel
theorem dX5_carries_125 : decode cX5_carries 125 = .ok (.getfield 82, 3) := by decide +kernel
theorem dX5_carries_128 : decode cX5_carries 128 = .ok (.iastore, 1) := by decide +kernel
theorem dX5_carries_129 : decode cX5_carries 129 = .ok (.goto 24, 3) := by decide +kernel
theorem dX5_carries_132 : decode cX5_carries 132 = .ok (.aload_n 0, 1) := by decide +kernel
theorem dX5_carries_133 : decode cX5_carries 133 = .ok (.iload 6, 2) := by decide +kernel
theorem dX5_carries_135 : decode cX5_carries 135 = .ok (.aload_n 0, 1) := by decide +kernel
theorem dX5_carries_136 : decode cX5_carries 136 = .ok (.getfield 17, 3) := by decide +kernel
theorem dX5_carries_139 : decode cX5_carries 139 = .ok (.iload 4, 2) := by decide +kernel
theorem dX5_carries_141 : decode cX5_carries 141 = .ok (.iaload, 1) := by decide +kernel
theorem dX5_carries_142 : decode cX5_carries 142 = .ok (.aload_n 0, 1) := by decide +kernel
theorem dX5_carries_143 : decode cX5_carries 143 = .ok (.getfield 20, 3) := by decide +kernel
theorem dX5_carries_146 : decode cX5_carries 146 = .ok (.iload 4, 2) := by decide +kernel
theorem dX5_carries_148 : decode cX5_carries 148 = .ok (.iaload, 1) := by decide +kernel
theorem dX5_carries_149 : decode cX5_carries 149 = .ok (.invokevirtual 119, 3) := by decide +kernel
theorem dX5_carries_152 : decode cX5_carries 152 = .ok (.pop, 1) := by decide +kernel
theorem dX5_carries_153 : decode cX5_carries 153 = .ok (.aload_n 0, 1) := by decide +kernel
theorem dX5_carries_154 : decode cX5_carries 154 = .ok (.invokevirtual 144, 3) := by decide +kernel
theorem dX5_carries_157 : decode cX5_carries 157 = .ok (.istore 4, 2) := by decide +kernel
theorem dX5_carries_159 : decode cX5_carries 159 = .ok (.goto (-121), 3) := by decide +kernel
theorem dX5_carries_162 : decode cX5_carries 162 = .ok (.return_, 1) := by decide +kernel
theorem dX5_lowest_0 : decode cX5_lowest 0 = .ok (.iconst (-1), 1) := by decide +kernel
theorem dX5_lowest_1 : decode cX5_lowest 1 = .ok (.istore_n 1, 1) := by decide +kernel
theorem dX5_lowest_2 : decode cX5_lowest 2 = .ok (.iconst 0, 1) := by decide +kernel
theorem dX5_lowest_3 : decode cX5_lowest 3 = .ok (.istore_n 2, 1) := by decide +kernel
theorem dX5_lowest_4 : decode cX5_lowest 4 = .ok (.iload_n 2, 1) := by decide +kernel
theorem dX5_lowest_5 : decode cX5_lowest 5 = .ok (.bipush 60, 2) := by decide +kernel
theorem dX5_lowest_7 : decode cX5_lowest 7 = .ok (.if_icmp .ge 43, 3) := by decide +kernel
theorem dX5_lowest_10 : decode cX5_lowest 10 = .ok (.aload_n 0, 1) := by decide +kernel
theorem dX5_lowest_11 : decode cX5_lowest 11 = .ok (.getfield 50, 3) := by decide +kernel
theorem dX5_lowest_14 : decode cX5_lowest 14 = .ok (.iload_n 2, 1) := by decide +kernel
theorem dX5_lowest_15 : decode cX5_lowest 15 = .ok (.baload, 1) := by decide +kernel
theorem dX5_lowest_16 : decode cX5_lowest 16 = .ok (.ifCond .eq 26, 3) := by decide +kernel
theorem dX5_lowest_19 : decode cX5_lowest 19 = .ok (.iload_n 1, 1) := by decide +kernel
theorem dX5_lowest_20 : decode cX5_lowest 20 = .ok (.ifCond .lt 18, 3) := by decide +kernel
theorem dX5_lowest_23 : decode cX5_lowest 23 = .ok (.aload_n 0, 1) := by decide +kernel
theorem dX5_lowest_24 : decode cX5_lowest 24 = .ok (.getfield 23, 3) := by decide +kernel
theorem dX5_lowest_27 : decode cX5_lowest 27 = .ok (.iload_n 2, 1) := by decide +kernel
theorem dX5_lowest_28 : decode cX5_lowest 28 = .ok (.iaload, 1) := by decide +kernel
theorem dX5_lowest_29 : decode cX5_lowest 29 = .ok (.aload_n 0, 1) := by decide +kernel
theorem dX5_lowest_30 : decode cX5_lowest 30 = .ok (.getfield 23, 3) := by decide +kernel
theorem dX5_lowest_33 : decode cX5_lowest 33 = .ok (.iload_n 1, 1) := by decide +kernel
theorem dX5_lowest_34 : decode cX5_lowest 34 = .ok (.iaload, 1) := by decide +kernel
theorem dX5_lowest_35 : decode cX5_lowest 35 = .ok (.if_icmp .ge 7, 3) := by decide +kernel
theorem dX5_lowest_38 : decode cX5_lowest 38 = .ok (.iload_n 2, 1) := by decide +kernel
theorem dX5_lowest_39 : decode cX5_lowest 39 = .ok (.goto 4, 3) := by decide +kernel
theorem dX5_lowest_42 : decode cX5_lowest 42 = .ok (.iload_n 1, 1) := by decide +kernel
theorem dX5_lowest_43 : decode cX5_lowest 43 = .ok (.istore_n 1, 1) := by decide +kernel
theorem dX5_lowest_44 : decode cX5_lowest 44 = .ok (.iinc 2 1, 3) := by decide +kernel
theorem dX5_lowest_47 : decode cX5_lowest 47 = .ok (.goto (-43), 3) := by decide +kernel
theorem dX5_lowest_50 : decode cX5_lowest 50 = .ok (.iload_n 1, 1) := by decide +kernel
theorem dX5_lowest_51 : decode cX5_lowest 51 = .ok (.ireturn, 1) := by decide +kernel
theorem dX5_copy_0 : decode cX5_copy 0 = .ok (.aload_n 0, 1) := by decide +kernel
theorem dX5_copy_1 : decode cX5_copy 1 = .ok (.iload_n 1, 1) := by decide +kernel
theorem dX5_copy_2 : decode cX5_copy 2 = .ok (.iload_n 2, 1) := by decide +kernel
theorem dX5_copy_3 : decode cX5_copy 3 = .ok (.iload_n 3, 1) := by decide +kernel
theorem dX5_copy_4 : decode cX5_copy 4 = .ok (.iload 4, 2) := by decide +kernel
theorem dX5_copy_6 : decode cX5_copy 6 = .ok (.iload 5, 2) := by decide +kernel
theorem dX5_copy_8 : decode cX5_copy 8 = .ok (.iconst 0, 1) := by decide +kernel
theorem dX5_copy_9 : decode cX5_copy 9 = .ok (.invokevirtual 151, 3) := by decide +kernel
theorem dX5_copy_12 : decode cX5_copy 12 = .ok (.ireturn, 1) := by decide +kernel
theorem dX5_move_0 : decode cX5_move 0 = .ok (.aload_n 0, 1) := by decide +kernel
theorem dX5_move_1 : decode cX5_move 1 = .ok (.iload_n 1, 1) := by decide +kernel
theorem dX5_move_2 : decode cX5_move 2 = .ok (.iload_n 2, 1) := by decide +kernel
theorem dX5_move_3 : decode cX5_move 3 = .ok (.iload_n 3, 1) := by decide +kernel
theorem dX5_move_4 : decode cX5_move 4 = .ok (.iload 4, 2) := by decide +kernel
theorem dX5_move_6 : decode cX5_move 6 = .ok (.iload 5, 2) := by decide +kernel
theorem dX5_move_8 : decode cX5_move 8 = .ok (.iconst 1, 1) := by decide +kernel
theorem dX5_move_9 : decode cX5_move 9 = .ok (.invokevirtual 151, 3) := by decide +kernel
theorem dX5_move_12 : decode cX5_move 12 = .ok (.ireturn, 1) := by decide +kernel
theorem dX5_asks_0 : decode cX5_asks 0 = .ok (.aload_n 0, 1) := by decide +kernel
theorem dX5_asks_1 : decode cX5_asks 1 = .ok (.iload_n 1, 1) := by decide +kernel
theorem dX5_asks_2 : decode cX5_asks 2 = .ok (.invokestatic 64, 3) := by decide +kernel
theorem dX5_asks_5 : decode cX5_asks 5 = .ok (.ifCond .eq 7, 3) := by decide +kernel
theorem dX5_asks_8 : decode cX5_asks 8 = .ok (.iconst 0, 1) := by decide +kernel
theorem dX5_asks_9 : decode cX5_asks 9 = .ok (.goto 4, 3) := by decide +kernel
theorem dX5_asks_12 : decode cX5_asks 12 = .ok (.iconst 1, 1) := by decide +kernel
theorem dX5_asks_13 : decode cX5_asks 13 = .ok (.putfield 56, 3) := by decide +kernel
theorem dX5_asks_16 : decode cX5_asks 16 = .ok (.aload_n 0, 1) := by decide +kernel
theorem dX5_asks_17 : decode cX5_asks 17 = .ok (.getfield 56, 3) := by decide +kernel
theorem dX5_asks_20 : decode cX5_asks 20 = .ok (.ifCond .ne 7, 3) := by decide +kernel
theorem dX5_asks_23 : decode cX5_asks 23 = .ok (.iconst 1, 1) := by decide +kernel
theorem dX5_asks_24 : decode cX5_asks 24 = .ok (.goto 4, 3) := by decide +kernel
theorem dX5_asks_27 : decode cX5_asks 27 = .ok (.iconst 0, 1) := by decide +kernel
theorem dX5_asks_28 : decode cX5_asks 28 = .ok (.ireturn, 1) := by decide +kernel
theorem dX5_kindOf_0 : decode cX5_kindOf 0 = .ok (.aload_n 0, 1) := by decide +kernel
theorem dX5_kindOf_1 : decode cX5_kindOf 1 = .ok (.iload_n 1, 1) := by decide +kernel
theorem dX5_kindOf_2 : decode cX5_kindOf 2 = .ok (.invokevirtual 155, 3) := by decide +kernel
theorem dX5_kindOf_5 : decode cX5_kindOf 5 = .ok (.ifCond .eq 11, 3) := by decide +kernel
theorem dX5_kindOf_8 : decode cX5_kindOf 8 = .ok (.aload_n 0, 1) := by decide +kernel
theorem dX5_kindOf_9 : decode cX5_kindOf 9 = .ok (.iload_n 1, 1) := by decide +kernel
theorem dX5_kindOf_10 : decode cX5_kindOf 10 = .ok (.invokevirtual 109, 3) := by decide +kernel
theorem dX5_kindOf_13 : decode cX5_kindOf 13 = .ok (.goto 4, 3) := by decide +kernel
theorem dX5_kindOf_16 : decode cX5_kindOf 16 = .ok (.iconst 0, 1) := by decide +kernel
theorem dX5_kindOf_17 : decode cX5_kindOf 17 = .ok (.ireturn, 1) := by decide +kernel
theorem dX5_content_0 : decode cX5_content 0 = .ok (.aload_n 0, 1) := by decide +kernel
theorem dX5_content_1 : decode cX5_content 1 = .ok (.iload_n 1, 1) := by decide +kernel
theorem dX5_content_2 : decode cX5_content 2 = .ok (.invokevirtual 155, 3) := by decide +kernel
theorem dX5_content_5 : decode cX5_content 5 = .ok (.ifCond .ne 7, 3) := by decide +kernel
theorem dX5_content_8 : decode cX5_content 8 = .ok (.iconst 0, 1) := by decide +kernel
theorem dX5_content_9 : decode cX5_content 9 = .ok (.goto 26, 3) := by decide +kernel
theorem dX5_content_12 : decode cX5_content 12 = .ok (.aload_n 0, 1) := by decide +kernel
theorem dX5_content_13 : decode cX5_content 13 = .ok (.iload_n 1, 1) := by decide +kernel
theorem dX5_content_14 : decode cX5_content 14 = .ok (.invokevirtual 109, 3) := by decide +kernel
theorem dX5_content_17 : decode cX5_content 17 = .ok (.iconst 1, 1) := by decide +kernel
theorem dX5_content_18 : decode cX5_content 18 = .ok (.if_icmp .ne 16, 3) := by decide +kernel
theorem dX5_content_21 : decode cX5_content 21 = .ok (.aload_n 0, 1) := by decide +kernel
theorem dX5_content_22 : decode cX5_content 22 = .ok (.getfield 20, 3) := by decide +kernel
theorem dX5_content_25 : decode cX5_content 25 = .ok (.aload_n 0, 1) := by decide +kernel
theorem dX5_content_26 : decode cX5_content 26 = .ok (.iload_n 1, 1) := by decide +kernel
theorem dX5_content_27 : decode cX5_content 27 = .ok (.invokevirtual 74, 3) := by decide +kernel
theorem dX5_content_30 : decode cX5_content 30 = .ok (.iaload, 1) := by decide +kernel
theorem dX5_content_31 : decode cX5_content 31 = .ok (.goto 4, 3) := by decide +kernel
theorem dX5_content_34 : decode cX5_content 34 = .ok (.iconst (-1), 1) := by decide +kernel
theorem dX5_content_35 : decode cX5_content 35 = .ok (.ireturn, 1) := by decide +kernel
theorem dX5_resources_0 : decode cX5_resources 0 = .ok (.aload_n 0, 1) := by decide +kernel
theorem dX5_resources_1 : decode cX5_resources 1 = .ok (.iconst 0, 1) := by decide +kernel
theorem dX5_resources_2 : decode cX5_resources 2 = .ok (.putfield 56, 3) := by decide +kernel
theorem dX5_resources_5 : decode cX5_resources 5 = .ok (.aload_n 0, 1) := by decide +kernel
theorem dX5_resources_6 : decode cX5_resources 6 = .ok (.invokevirtual 115, 3) := by decide +kernel
theorem dX5_resources_9 : decode cX5_resources 9 = .ok (.ireturn, 1) := by decide +kernel
theorem dX5_isMember_0 : decode cX5_isMember 0 = .ok (.aload_n 0, 1) := by decide +kernel
theorem dX5_isMember_1 : decode cX5_isMember 1 = .ok (.getfield 7, 3) := by decide +kernel
theorem dX5_isMember_4 : decode cX5_isMember 4 = .ok (.iload_n 1, 1) := by decide +kernel
theorem dX5_isMember_5 : decode cX5_isMember 5 = .ok (.baload, 1) := by decide +kernel
theorem dX5_isMember_6 : decode cX5_isMember 6 = .ok (.ifCond .eq 20, 3) := by decide +kernel
theorem dX5_isMember_9 : decode cX5_isMember 9 = .ok (.aload_n 0, 1) := by decide +kernel
theorem dX5_isMember_10 : decode cX5_isMember 10 = .ok (.getfield 13, 3) := by decide +kernel
theorem dX5_isMember_13 : decode cX5_isMember 13 = .ok (.iload_n 1, 1) := by decide +kernel
theorem dX5_isMember_14 : decode cX5_isMember 14 = .ok (.iaload, 1) := by decide +kernel
theorem dX5_isMember_15 : decode cX5_isMember 15 = .ok (.bipush 10, 2) := by decide +kernel
theorem dX5_isMember_17 : decode cX5_isMember 17 = .ok (.idiv, 1) := by decide +kernel
theorem dX5_isMember_18 : decode cX5_isMember 18 = .ok (.iload_n 2, 1) := by decide +kernel
theorem dX5_isMember_19 : decode cX5_isMember 19 = .ok (.if_icmp .ne 7, 3) := by decide +kernel
theorem dX5_isMember_22 : decode cX5_isMember 22 = .ok (.iconst 1, 1) := by decide +kernel
theorem dX5_isMember_23 : decode cX5_isMember 23 = .ok (.goto 4, 3) := by decide +kernel
theorem dX5_isMember_26 : decode cX5_isMember 26 = .ok (.iconst 0, 1) := by decide +kernel
theorem dX5_isMember_27 : decode cX5_isMember 27 = .ok (.ireturn, 1) := by decide +kernel
theorem dX5_membersOf_0 : decode cX5_membersOf 0 = .ok (.iconst 0, 1) := by decide +kernel
theorem dX5_membersOf_1 : decode cX5_membersOf 1 = .ok (.istore_n 2, 1) := by decide +kernel
theorem dX5_membersOf_2 : decode cX5_membersOf 2 = .ok (.iconst 0, 1) := by decide +kernel
theorem dX5_membersOf_3 : decode cX5_membersOf 3 = .ok (.istore_n 3, 1) := by decide +kernel
theorem dX5_membersOf_4 : decode cX5_membersOf 4 = .ok (.iload_n 3, 1) := by decide +kernel
theorem dX5_membersOf_5 : decode cX5_membersOf 5 = .ok (.bipush 60, 2) := by decide +kernel
theorem dX5_membersOf_7 : decode cX5_membersOf 7 = .ok (.if_icmp .ge 26, 3) := by decide +kernel
theorem dX5_membersOf_10 : decode cX5_membersOf 10 = .ok (.iload_n 2, 1) := by decide +kernel
theorem dX5_membersOf_11 : decode cX5_membersOf 11 = .ok (.aload_n 0, 1) := by decide +kernel
theorem dX5_membersOf_12 : decode cX5_membersOf 12 = .ok (.iload_n 3, 1) := by decide +kernel
theorem dX5_membersOf_13 : decode cX5_membersOf 13 = .ok (.iload_n 1, 1) := by decide +kernel
theorem dX5_membersOf_14 : decode cX5_membersOf 14 = .ok (.invokevirtual 158, 3) := by decide +kernel
theorem dX5_membersOf_17 : decode cX5_membersOf 17 = .ok (.ifCond .eq 7, 3) := by decide +kernel
theorem dX5_membersOf_20 : decode cX5_membersOf 20 = .ok (.iconst 1, 1) := by decide +kernel
theorem dX5_membersOf_21 : decode cX5_membersOf 21 = .ok (.goto 4, 3) := by decide +kernel
theorem dX5_membersOf_24 : decode cX5_membersOf 24 = .ok (.iconst 0, 1) := by decide +kernel
theorem dX5_membersOf_25 : decode cX5_membersOf 25 = .ok (.iadd, 1) := by decide +kernel
theorem dX5_membersOf_26 : decode cX5_membersOf 26 = .ok (.istore_n 2, 1) := by decide +kernel
theorem dX5_membersOf_27 : decode cX5_membersOf 27 = .ok (.iinc 3 1, 3) := by decide +kernel
theorem dX5_membersOf_30 : decode cX5_membersOf 30 = .ok (.goto (-26), 3) := by decide +kernel
theorem dX5_membersOf_33 : decode cX5_membersOf 33 = .ok (.iload_n 2, 1) := by decide +kernel
theorem dX5_membersOf_34 : decode cX5_membersOf 34 = .ok (.ireturn, 1) := by decide +kernel
theorem dX5_members_0 : decode cX5_members 0 = .ok (.aload_n 0, 1) := by decide +kernel
theorem dX5_members_1 : decode cX5_members 1 = .ok (.iload_n 1, 1) := by decide +kernel
theorem dX5_members_2 : decode cX5_members 2 = .ok (.invokevirtual 155, 3) := by decide +kernel
theorem dX5_members_5 : decode cX5_members 5 = .ok (.ifCond .eq 11, 3) := by decide +kernel
theorem dX5_members_8 : decode cX5_members 8 = .ok (.aload_n 0, 1) := by decide +kernel
theorem dX5_members_9 : decode cX5_members 9 = .ok (.iload_n 1, 1) := by decide +kernel
theorem dX5_members_10 : decode cX5_members 10 = .ok (.invokevirtual 161, 3) := by decide +kernel
theorem dX5_members_13 : decode cX5_members 13 = .ok (.goto 4, 3) := by decide +kernel
theorem dX5_members_16 : decode cX5_members 16 = .ok (.iconst 0, 1) := by decide +kernel
theorem dX5_members_17 : decode cX5_members 17 = .ok (.ireturn, 1) := by decide +kernel
theorem dX5_memberOf_0 : decode cX5_memberOf 0 = .ok (.iconst (-1), 1) := by decide +kernel
theorem dX5_memberOf_1 : decode cX5_memberOf 1 = .ok (.istore_n 3, 1) := by decide +kernel
theorem dX5_memberOf_2 : decode cX5_memberOf 2 = .ok (.iconst 0, 1) := by decide +kernel
theorem dX5_memberOf_3 : decode cX5_memberOf 3 = .ok (.istore 4, 2) := by decide +kernel
theorem dX5_memberOf_5 : decode cX5_memberOf 5 = .ok (.iload 4, 2) := by decide +kernel
theorem dX5_memberOf_7 : decode cX5_memberOf 7 = .ok (.bipush 60, 2) := by decide +kernel
theorem dX5_memberOf_9 : decode cX5_memberOf 9 = .ok (.if_icmp .ge 88, 3) := by decide +kernel
theorem dX5_memberOf_12 : decode cX5_memberOf 12 = .ok (.iconst 0, 1) := by decide +kernel
theorem dX5_memberOf_13 : decode cX5_memberOf 13 = .ok (.istore 5, 2) := by decide +kernel
theorem dX5_memberOf_15 : decode cX5_memberOf 15 = .ok (.iconst 0, 1) := by decide +kernel
theorem dX5_memberOf_16 : decode cX5_memberOf 16 = .ok (.istore 6, 2) := by decide +kernel
theorem dX5_memberOf_18 : decode cX5_memberOf 18 = .ok (.iload 6, 2) := by decide +kernel
theorem dX5_memberOf_20 : decode cX5_memberOf 20 = .ok (.bipush 60, 2) := by decide +kernel
theorem dX5_memberOf_22 : decode cX5_memberOf 22 = .ok (.if_icmp .ge 46, 3) := by decide +kernel
theorem dX5_memberOf_25 : decode cX5_memberOf 25 = .ok (.iload 5, 2) := by decide +kernel
theorem dX5_memberOf_27 : decode cX5_memberOf 27 = .ok (.aload_n 0, 1) := by decide +kernel
theorem dX5_memberOf_28 : decode cX5_memberOf 28 = .ok (.iload 6, 2) := by decide +kernel
theorem dX5_memberOf_30 : decode cX5_memberOf 30 = .ok (.iload_n 1, 1) := by decide +kernel
theorem dX5_memberOf_31 : decode cX5_memberOf 31 = .ok (.invokevirtual 158, 3) := by decide +kernel
theorem dX5_memberOf_34 : decode cX5_memberOf 34 = .ok (.ifCond .eq 24, 3) := by decide +kernel
theorem dX5_memberOf_37 : decode cX5_memberOf 37 = .ok (.aload_n 0, 1) := by decide +kernel
theorem dX5_memberOf_38 : decode cX5_memberOf 38 = .ok (.getfield 23, 3) := by decide +kernel
theorem dX5_memberOf_41 : decode cX5_memberOf 41 = .ok (.iload 6, 2) := by decide +kernel
theorem dX5_memberOf_43 : decode cX5_memberOf 43 = .ok (.iaload, 1) := by decide +kernel
theorem dX5_memberOf_44 : decode cX5_memberOf 44 = .ok (.aload_n 0, 1) := by decide +kernel
theorem dX5_memberOf_45 : decode cX5_memberOf 45 = .ok (.getfield 23, 3) := by decide +kernel
theorem dX5_memberOf_48 : decode cX5_memberOf 48 = .ok (.iload 4, 2) := by decide +kernel
theorem dX5_memberOf_50 : decode cX5_memberOf 50 = .ok (.iaload, 1) := by decide +kernel
theorem dX5_memberOf_51 : decode cX5_memberOf 51 = .ok (.if_icmp .ge 7, 3) := by decide +kernel
theorem dX5_memberOf_54 : decode cX5_memberOf 54 = .ok (.iconst 1, 1) := by decide +kernel
theorem dX5_memberOf_55 : decode cX5_memberOf 55 = .ok (.goto 4, 3) := by decide +kernel
theorem dX5_memberOf_58 : decode cX5_memberOf 58 = .ok (.iconst 0, 1) := by decide +kernel
theorem dX5_memberOf_59 : decode cX5_memberOf 59 = .ok (.iadd, 1) := by decide +kernel
theorem dX5_memberOf_60 : decode cX5_memberOf 60 = .ok (.istore 5, 2) := by decide +kernel
theorem dX5_memberOf_62 : decode cX5_memberOf 62 = .ok (.iinc 6 1, 3) := by decide +kernel
theorem dX5_memberOf_65 : decode cX5_memberOf 65 = .ok (.goto (-47), 3) := by decide +kernel
theorem dX5_memberOf_68 : decode cX5_memberOf 68 = .ok (.aload_n 0, 1) := by decide +kernel
theorem dX5_memberOf_69 : decode cX5_memberOf 69 = .ok (.iload 4, 2) := by decide +kernel
theorem dX5_memberOf_71 : decode cX5_memberOf 71 = .ok (.iload_n 1, 1) := by decide +kernel
theorem dX5_memberOf_72 : decode cX5_memberOf 72 = .ok (.invokevirtual 158, 3) := by decide +kernel
theorem dX5_memberOf_75 : decode cX5_memberOf 75 = .ok (.ifCond .eq 14, 3) := by decide +kernel
theorem dX5_memberOf_78 : decode cX5_memberOf 78 = .ok (.iload 5, 2) := by decide +kernel
theorem dX5_memberOf_80 : decode cX5_memberOf 80 = .ok (.iload_n 2, 1) := by decide +kernel
theorem dX5_memberOf_81 : decode cX5_memberOf 81 = .ok (.if_icmp .ne 8, 3) := by decide +kernel
theorem dX5_memberOf_84 : decode cX5_memberOf 84 = .ok (.iload 4, 2) := by decide +kernel
theorem dX5_memberOf_86 : decode cX5_memberOf 86 = .ok (.goto 4, 3) := by decide +kernel
theorem dX5_memberOf_89 : decode cX5_memberOf 89 = .ok (.iload_n 3, 1) := by decide +kernel
theorem dX5_memberOf_90 : decode cX5_memberOf 90 = .ok (.istore_n 3, 1) := by decide +kernel
theorem dX5_memberOf_91 : decode cX5_memberOf 91 = .ok (.iinc 4 1, 3) := by decide +kernel
theorem dX5_memberOf_94 : decode cX5_memberOf 94 = .ok (.goto (-89), 3) := by decide +kernel
theorem dX5_memberOf_97 : decode cX5_memberOf 97 = .ok (.iload_n 3, 1) := by decide +kernel
theorem dX5_memberOf_98 : decode cX5_memberOf 98 = .ok (.ireturn, 1) := by decide +kernel
theorem dX5_memberAt_0 : decode cX5_memberAt 0 = .ok (.aload_n 0, 1) := by decide +kernel
theorem dX5_memberAt_1 : decode cX5_memberAt 1 = .ok (.iload_n 1, 1) := by decide +kernel
theorem dX5_memberAt_2 : decode cX5_memberAt 2 = .ok (.invokevirtual 155, 3) := by decide +kernel
theorem dX5_memberAt_5 : decode cX5_memberAt 5 = .ok (.ifCond .ne 5, 3) := by decide +kernel
theorem dX5_memberAt_8 : decode cX5_memberAt 8 = .ok (.iconst 0, 1) := by decide +kernel
theorem dX5_memberAt_9 : decode cX5_memberAt 9 = .ok (.ireturn, 1) := by decide +kernel
theorem dX5_memberAt_10 : decode cX5_memberAt 10 = .ok (.aload_n 0, 1) := by decide +kernel
theorem dX5_memberAt_11 : decode cX5_memberAt 11 = .ok (.iload_n 1, 1) := by decide +kernel
theorem dX5_memberAt_12 : decode cX5_memberAt 12 = .ok (.iload_n 2, 1) := by decide +kernel
theorem dX5_memberAt_13 : decode cX5_memberAt 13 = .ok (.invokevirtual 164, 3) := by decide +kernel
theorem dX5_memberAt_16 : decode cX5_memberAt 16 = .ok (.istore_n 3, 1) := by decide +kernel
theorem dX5_memberAt_17 : decode cX5_memberAt 17 = .ok (.aload_n 0, 1) := by decide +kernel
theorem dX5_memberAt_18 : decode cX5_memberAt 18 = .ok (.iload_n 3, 1) := by decide +kernel
theorem dX5_memberAt_19 : decode cX5_memberAt 19 = .ok (.ifCond .ge 7, 3) := by decide +kernel
theorem dX5_memberAt_22 : decode cX5_memberAt 22 = .ok (.iconst 2, 1) := by decide +kernel
theorem dX5_memberAt_23 : decode cX5_memberAt 23 = .ok (.goto 4, 3) := by decide +kernel
theorem dX5_memberAt_26 : decode cX5_memberAt 26 = .ok (.iconst 0, 1) := by decide +kernel
theorem dX5_memberAt_27 : decode cX5_memberAt 27 = .ok (.putfield 56, 3) := by decide +kernel
theorem dX5_memberAt_30 : decode cX5_memberAt 30 = .ok (.aload_n 0, 1) := by decide +kernel
theorem dX5_memberAt_31 : decode cX5_memberAt 31 = .ok (.getfield 56, 3) := by decide +kernel
theorem dX5_memberAt_34 : decode cX5_memberAt 34 = .ok (.ifCond .le 7, 3) := by decide +kernel
theorem dX5_memberAt_37 : decode cX5_memberAt 37 = .ok (.iconst 0, 1) := by decide +kernel
theorem dX5_memberAt_38 : decode cX5_memberAt 38 = .ok (.goto 9, 3) := by decide +kernel
theorem dX5_memberAt_41 : decode cX5_memberAt 41 = .ok (.aload_n 0, 1) := by decide +kernel
theorem dX5_memberAt_42 : decode cX5_memberAt 42 = .ok (.getfield 13, 3) := by decide +kernel
theorem dX5_memberAt_45 : decode cX5_memberAt 45 = .ok (.iload_n 3, 1) := by decide +kernel
theorem dX5_memberAt_46 : decode cX5_memberAt 46 = .ok (.iaload, 1) := by decide +kernel
theorem dX5_memberAt_47 : decode cX5_memberAt 47 = .ok (.ireturn, 1) := by decide +kernel
theorem dX5_order_0 : decode cX5_order 0 = .ok (.aload_n 0, 1) := by decide +kernel
theorem dX5_order_1 : decode cX5_order 1 = .ok (.iload_n 1, 1) := by decide +kernel
theorem dX5_order_2 : decode cX5_order 2 = .ok (.iload_n 2, 1) := by decide +kernel
theorem dX5_order_3 : decode cX5_order 3 = .ok (.iload 4, 2) := by decide +kernel
theorem dX5_order_5 : decode cX5_order 5 = .ok (.invokevirtual 106, 3) := by decide +kernel
theorem dX5_order_8 : decode cX5_order 8 = .ok (.ifCond .eq 11, 3) := by decide +kernel
theorem dX5_order_11 : decode cX5_order 11 = .ok (.iload_n 3, 1) := by decide +kernel
theorem dX5_order_12 : decode cX5_order 12 = .ok (.ifCond .lt 7, 3) := by decide +kernel
theorem dX5_order_15 : decode cX5_order 15 = .ok (.iconst 1, 1) := by decide +kernel
theorem dX5_order_16 : decode cX5_order 16 = .ok (.goto 4, 3) := by decide +kernel
theorem dX5_order_19 : decode cX5_order 19 = .ok (.iconst 0, 1) := by decide +kernel
theorem dX5_order_20 : decode cX5_order 20 = .ok (.istore 5, 2) := by decide +kernel
theorem dX5_order_22 : decode cX5_order 22 = .ok (.aload_n 0, 1) := by decide +kernel
theorem dX5_order_23 : decode cX5_order 23 = .ok (.iload 5, 2) := by decide +kernel
theorem dX5_order_25 : decode cX5_order 25 = .ok (.ifCond .eq 7, 3) := by decide +kernel
theorem dX5_order_28 : decode cX5_order 28 = .ok (.iconst 0, 1) := by decide +kernel
theorem dX5_order_29 : decode cX5_order 29 = .ok (.goto 4, 3) := by decide +kernel
theorem dX5_order_32 : decode cX5_order 32 = .ok (.iconst 1, 1) := by decide +kernel
theorem dX5_order_33 : decode cX5_order 33 = .ok (.putfield 56, 3) := by decide +kernel
theorem dX5_order_36 : decode cX5_order 36 = .ok (.iload 5, 2) := by decide +kernel
theorem dX5_order_38 : decode cX5_order 38 = .ok (.ifCond .ne 5, 3) := by decide +kernel
theorem dX5_order_41 : decode cX5_order 41 = .ok (.iconst 0, 1) := by decide +kernel
theorem dX5_order_42 : decode cX5_order 42 = .ok (.ireturn, 1) := by decide +kernel
theorem dX5_order_43 : decode cX5_order 43 = .ok (.aload_n 0, 1) := by decide +kernel
theorem dX5_order_44 : decode cX5_order 44 = .ok (.iload_n 2, 1) := by decide +kernel
theorem dX5_order_45 : decode cX5_order 45 = .ok (.invokevirtual 74, 3) := by decide +kernel
theorem dX5_order_48 : decode cX5_order 48 = .ok (.istore 6, 2) := by decide +kernel
theorem dX5_order_50 : decode cX5_order 50 = .ok (.iload 6, 2) := by decide +kernel
theorem dX5_order_52 : decode cX5_order 52 = .ok (.ifCond .ge 7, 3) := by decide +kernel
theorem dX5_order_55 : decode cX5_order 55 = .ok (.iconst 1, 1) := by decide +kernel
theorem dX5_order_56 : decode cX5_order 56 = .ok (.goto 22, 3) := by decide +kernel
theorem dX5_order_59 : decode cX5_order 59 = .ok (.aload_n 0, 1) := by decide +kernel
theorem dX5_order_60 : decode cX5_order 60 = .ok (.iload_n 1, 1) := by decide +kernel
theorem dX5_order_61 : decode cX5_order 61 = .ok (.iload_n 2, 1) := by decide +kernel
theorem dX5_order_62 : decode cX5_order 62 = .ok (.bipush 10, 2) := by decide +kernel
theorem dX5_order_64 : decode cX5_order 64 = .ok (.idiv, 1) := by decide +kernel
theorem dX5_order_65 : decode cX5_order 65 = .ok (.iload 4, 2) := by decide +kernel
theorem dX5_order_67 : decode cX5_order 67 = .ok (.invokevirtual 103, 3) := by decide +kernel
theorem dX5_order_70 : decode cX5_order 70 = .ok (.ifCond .eq 7, 3) := by decide +kernel
theorem dX5_order_73 : decode cX5_order 73 = .ok (.iconst 0, 1) := by decide +kernel
theorem dX5_order_74 : decode cX5_order 74 = .ok (.goto 4, 3) := by decide +kernel
theorem dX5_order_77 : decode cX5_order 77 = .ok (.iconst 4, 1) := by decide +kernel
theorem dX5_order_78 : decode cX5_order 78 = .ok (.istore 7, 2) := by decide +kernel
theorem dX5_order_80 : decode cX5_order 80 = .ok (.iload 7, 2) := by decide +kernel
theorem dX5_order_82 : decode cX5_order 82 = .ok (.ifCond .ne 86, 3) := by decide +kernel
theorem dX5_order_85 : decode cX5_order 85 = .ok (.aload_n 0, 1) := by decide +kernel
theorem dX5_order_86 : decode cX5_order 86 = .ok (.dup, 1) := by decide +kernel
theorem dX5_order_87 : decode cX5_order 87 = .ok (.getfield 82, 3) := by decide +kernel
theorem dX5_order_90 : decode cX5_order 90 = .ok (.iconst 1, 1) := by decide +kernel
theorem dX5_order_91 : decode cX5_order 91 = .ok (.iadd, 1) := by decide +kernel
theorem dX5_order_92 : decode cX5_order 92 = .ok (.putfield 82, 3) := by decide +kernel
theorem dX5_order_95 : decode cX5_order 95 = .ok (.aload_n 0, 1) := by decide +kernel
theorem dX5_order_96 : decode cX5_order 96 = .ok (.getfield 23, 3) := by decide +kernel
theorem dX5_order_99 : decode cX5_order 99 = .ok (.iload 6, 2) := by decide +kernel
theorem dX5_order_101 : decode cX5_order 101 = .ok (.aload_n 0, 1) := by decide +kernel
theorem dX5_order_102 : decode cX5_order 102 = .ok (.getfield 82, 3) := by decide +kernel
theorem dX5_order_105 : decode cX5_order 105 = .ok (.iastore, 1) := by decide +kernel
theorem dX5_order_106 : decode cX5_order 106 = .ok (.aload_n 0, 1) := by decide +kernel
theorem dX5_order_107 : decode cX5_order 107 = .ok (.iload_n 2, 1) := by decide +kernel
theorem dX5_order_108 : decode cX5_order 108 = .ok (.bipush 10, 2) := by decide +kernel
theorem dX5_order_110 : decode cX5_order 110 = .ok (.idiv, 1) := by decide +kernel
theorem dX5_order_111 : decode cX5_order 111 = .ok (.invokevirtual 161, 3) := by decide +kernel
theorem dX5_order_114 : decode cX5_order 114 = .ok (.iconst 1, 1) := by decide +kernel
theorem dX5_order_115 : decode cX5_order 115 = .ok (.isub, 1) := by decide +kernel
theorem dX5_order_116 : decode cX5_order 116 = .ok (.iload_n 3, 1) := by decide +kernel
theorem dX5_order_117 : decode cX5_order 117 = .ok (.isub, 1) := by decide +kernel
theorem dX5_order_118 : decode cX5_order 118 = .ok (.istore 8, 2) := by decide +kernel
theorem dX5_order_120 : decode cX5_order 120 = .ok (.iconst 0, 1) := by decide +kernel
theorem dX5_order_121 : decode cX5_order 121 = .ok (.istore 9, 2) := by decide +kernel
theorem dX5_order_123 : decode cX5_order 123 = .ok (.iload 9, 2) := by decide +kernel
theorem dX5_order_125 : decode cX5_order 125 = .ok (.iload 8, 2) := by decide +kernel
theorem dX5_order_127 : decode cX5_order 127 = .ok (.if_icmp .ge 41, 3) := by decide +kernel
theorem dX5_order_130 : decode cX5_order 130 = .ok (.aload_n 0, 1) := by decide +kernel
theorem dX5_order_131 : decode cX5_order 131 = .ok (.iload_n 2, 1) := by decide +kernel
theorem dX5_order_132 : decode cX5_order 132 = .ok (.bipush 10, 2) := by decide +kernel
theorem dX5_order_134 : decode cX5_order 134 = .ok (.idiv, 1) := by decide +kernel
theorem dX5_order_135 : decode cX5_order 135 = .ok (.iload_n 3, 1) := by decide +kernel
theorem dX5_order_136 : decode cX5_order 136 = .ok (.invokevirtual 164, 3) := by decide +kernel
theorem dX5_order_139 : decode cX5_order 139 = .ok (.istore 10, 2) := by decide +kernel
theorem dX5_order_141 : decode cX5_order 141 = .ok (.aload_n 0, 1) := by decide +kernel
theorem dX5_order_142 : decode cX5_order 142 = .ok (.dup, 1) := by decide +kernel
theorem dX5_order_143 : decode cX5_order 143 = .ok (.getfield 82, 3) := by decide +kernel
theorem dX5_order_146 : decode cX5_order 146 = .ok (.iconst 1, 1) := by decide +kernel
theorem dX5_order_147 : decode cX5_order 147 = .ok (.iadd, 1) := by decide +kernel
theorem dX5_order_148 : decode cX5_order 148 = .ok (.putfield 82, 3) := by decide +kernel
theorem dX5_order_151 : decode cX5_order 151 = .ok (.aload_n 0, 1) := by decide +kernel
theorem dX5_order_152 : decode cX5_order 152 = .ok (.getfield 23, 3) := by decide +kernel
theorem dX5_order_155 : decode cX5_order 155 = .ok (.iload 10, 2) := by decide +kernel
theorem dX5_order_157 : decode cX5_order 157 = .ok (.aload_n 0, 1) := by decide +kernel
theorem dX5_order_158 : decode cX5_order 158 = .ok (.getfield 82, 3) := by decide +kernel
theorem dX5_order_161 : decode cX5_order 161 = .ok (.iastore, 1) := by decide +kernel
theorem dX5_order_162 : decode cX5_order 162 = .ok (.iinc 9 1, 3) := by decide +kernel
theorem dX5_order_165 : decode cX5_order 165 = .ok (.goto (-42), 3) := by decide +kernel
theorem dX5_order_168 : decode cX5_order 168 = .ok (.iload 7, 2) := by decide +kernel
theorem dX5_order_170 : decode cX5_order 170 = .ok (.ireturn, 1) := by decide +kernel
theorem dX5_clashes_0 : decode cX5_clashes 0 = .ok (.iconst 0, 1) := by decide +kernel
theorem dX5_clashes_1 : decode cX5_clashes 1 = .ok (.istore 4, 2) := by decide +kernel
theorem dX5_clashes_3 : decode cX5_clashes 3 = .ok (.iconst 0, 1) := by decide +kernel
theorem dX5_clashes_4 : decode cX5_clashes 4 = .ok (.istore 5, 2) := by decide +kernel
theorem dX5_clashes_6 : decode cX5_clashes 6 = .ok (.iload 5, 2) := by decide +kernel
theorem dX5_clashes_8 : decode cX5_clashes 8 = .ok (.aload_n 0, 1) := by decide +kernel
theorem dX5_clashes_9 : decode cX5_clashes 9 = .ok (.getfield 85, 3) := by decide +kernel
theorem dX5_clashes_12 : decode cX5_clashes 12 = .ok (.if_icmp .ge 82, 3) := by decide +kernel
theorem dX5_clashes_15 : decode cX5_clashes 15 = .ok (.aload_n 0, 1) := by decide +kernel
theorem dX5_clashes_16 : decode cX5_clashes 16 = .ok (.iload 5, 2) := by decide +kernel
theorem dX5_clashes_18 : decode cX5_clashes 18 = .ok (.iload_n 1, 1) := by decide +kernel
theorem dX5_clashes_19 : decode cX5_clashes 19 = .ok (.invokevirtual 94, 3) := by decide +kernel
theorem dX5_clashes_22 : decode cX5_clashes 22 = .ok (.ifCond .ne 30, 3) := by decide +kernel
theorem dX5_clashes_25 : decode cX5_clashes 25 = .ok (.iload_n 3, 1) := by decide +kernel
theorem dX5_clashes_26 : decode cX5_clashes 26 = .ok (.ifCond .eq 30, 3) := by decide +kernel
theorem dX5_clashes_29 : decode cX5_clashes 29 = .ok (.aload_n 0, 1) := by decide +kernel
theorem dX5_clashes_30 : decode cX5_clashes 30 = .ok (.iload 5, 2) := by decide +kernel
theorem dX5_clashes_32 : decode cX5_clashes 32 = .ok (.invokevirtual 91, 3) := by decide +kernel
theorem dX5_clashes_35 : decode cX5_clashes 35 = .ok (.ifCond .eq 21, 3) := by decide +kernel
theorem dX5_clashes_38 : decode cX5_clashes 38 = .ok (.iload_n 1, 1) := by decide +kernel
theorem dX5_clashes_39 : decode cX5_clashes 39 = .ok (.aload_n 0, 1) := by decide +kernel
theorem dX5_clashes_40 : decode cX5_clashes 40 = .ok (.getfield 35, 3) := by decide +kernel
theorem dX5_clashes_43 : decode cX5_clashes 43 = .ok (.iload 5, 2) := by decide +kernel
theorem dX5_clashes_45 : decode cX5_clashes 45 = .ok (.iaload, 1) := by decide +kernel
theorem dX5_clashes_46 : decode cX5_clashes 46 = .ok (.invokestatic 78, 3) := by decide +kernel
theorem dX5_clashes_49 : decode cX5_clashes 49 = .ok (.ifCond .eq 7, 3) := by decide +kernel
theorem dX5_clashes_52 : decode cX5_clashes 52 = .ok (.iconst 1, 1) := by decide +kernel
theorem dX5_clashes_53 : decode cX5_clashes 53 = .ok (.goto 4, 3) := by decide +kernel
theorem dX5_clashes_56 : decode cX5_clashes 56 = .ok (.iconst 0, 1) := by decide +kernel
theorem dX5_clashes_57 : decode cX5_clashes 57 = .ok (.istore 6, 2) := by decide +kernel
theorem dX5_clashes_59 : decode cX5_clashes 59 = .ok (.iload 4, 2) := by decide +kernel
theorem dX5_clashes_61 : decode cX5_clashes 61 = .ok (.iload 6, 2) := by decide +kernel
theorem dX5_clashes_63 : decode cX5_clashes 63 = .ok (.ifCond .eq 21, 3) := by decide +kernel
theorem dX5_clashes_66 : decode cX5_clashes 66 = .ok (.iload_n 2, 1) := by decide +kernel
theorem dX5_clashes_67 : decode cX5_clashes 67 = .ok (.ifCond .eq 13, 3) := by decide +kernel
theorem dX5_clashes_70 : decode cX5_clashes 70 = .ok (.aload_n 0, 1) := by decide +kernel
theorem dX5_clashes_71 : decode cX5_clashes 71 = .ok (.getfield 38, 3) := by decide +kernel
theorem dX5_clashes_74 : decode cX5_clashes 74 = .ok (.iload 5, 2) := by decide +kernel
theorem dX5_clashes_76 : decode cX5_clashes 76 = .ok (.baload, 1) := by decide +kernel
theorem dX5_clashes_77 : decode cX5_clashes 77 = .ok (.ifCond .ne 7, 3) := by decide +kernel
theorem dX5_clashes_80 : decode cX5_clashes 80 = .ok (.iconst 1, 1) := by decide +kernel
theorem dX5_clashes_81 : decode cX5_clashes 81 = .ok (.goto 4, 3) := by decide +kernel
theorem dX5_clashes_84 : decode cX5_clashes 84 = .ok (.iconst 0, 1) := by decide +kernel
theorem dX5_clashes_85 : decode cX5_clashes 85 = .ok (.ior, 1) := by decide +kernel
theorem dX5_clashes_86 : decode cX5_clashes 86 = .ok (.istore 4, 2) := by decide +kernel
theorem dX5_clashes_88 : decode cX5_clashes 88 = .ok (.iinc 5 1, 3) := by decide +kernel
theorem dX5_clashes_91 : decode cX5_clashes 91 = .ok (.goto (-85), 3) := by decide +kernel
theorem dX5_clashes_94 : decode cX5_clashes 94 = .ok (.iload 4, 2) := by decide +kernel
theorem dX5_clashes_96 : decode cX5_clashes 96 = .ok (.ireturn, 1) := by decide +kernel
theorem dX5_lock_0 : decode cX5_lock 0 = .ok (.iload_n 1, 1) := by decide +kernel
theorem dX5_lock_1 : decode cX5_lock 1 = .ok (.invokestatic 68, 3) := by decide +kernel
theorem dX5_lock_4 : decode cX5_lock 4 = .ok (.ifCond .eq 31, 3) := by decide +kernel
theorem dX5_lock_7 : decode cX5_lock 7 = .ok (.iload_n 2, 1) := by decide +kernel
theorem dX5_lock_8 : decode cX5_lock 8 = .ok (.invokestatic 64, 3) := by decide +kernel
theorem dX5_lock_11 : decode cX5_lock 11 = .ok (.ifCond .eq 24, 3) := by decide +kernel
theorem dX5_lock_14 : decode cX5_lock 14 = .ok (.iload 5, 2) := by decide +kernel
theorem dX5_lock_16 : decode cX5_lock 16 = .ok (.iconst 1, 1) := by decide +kernel
theorem dX5_lock_17 : decode cX5_lock 17 = .ok (.sipush 1000, 3) := by decide +kernel
theorem dX5_lock_20 : decode cX5_lock 20 = .ok (.invokestatic 60, 3) := by decide +kernel
theorem dX5_lock_23 : decode cX5_lock 23 = .ok (.ifCond .eq 12, 3) := by decide +kernel
theorem dX5_lock_26 : decode cX5_lock 26 = .ok (.iload 6, 2) := by decide +kernel
theorem dX5_lock_28 : decode cX5_lock 28 = .ok (.ifCond .lt 7, 3) := by decide +kernel
theorem dX5_lock_31 : decode cX5_lock 31 = .ok (.iconst 1, 1) := by decide +kernel
theorem dX5_lock_32 : decode cX5_lock 32 = .ok (.goto 4, 3) := by decide +kernel
theorem dX5_lock_35 : decode cX5_lock 35 = .ok (.iconst 0, 1) := by decide +kernel
theorem dX5_lock_36 : decode cX5_lock 36 = .ok (.istore 7, 2) := by decide +kernel
theorem dX5_lock_38 : decode cX5_lock 38 = .ok (.aload_n 0, 1) := by decide +kernel
theorem dX5_lock_39 : decode cX5_lock 39 = .ok (.iload 7, 2) := by decide +kernel
theorem dX5_lock_41 : decode cX5_lock 41 = .ok (.ifCond .eq 7, 3) := by decide +kernel
theorem dX5_lock_44 : decode cX5_lock 44 = .ok (.iconst 0, 1) := by decide +kernel
theorem dX5_lock_45 : decode cX5_lock 45 = .ok (.goto 4, 3) := by decide +kernel
theorem dX5_lock_48 : decode cX5_lock 48 = .ok (.iconst 1, 1) := by decide +kernel
theorem dX5_lock_49 : decode cX5_lock 49 = .ok (.putfield 56, 3) := by decide +kernel
theorem dX5_lock_52 : decode cX5_lock 52 = .ok (.iload 7, 2) := by decide +kernel
theorem dX5_lock_54 : decode cX5_lock 54 = .ok (.ifCond .ne 5, 3) := by decide +kernel
theorem dX5_lock_57 : decode cX5_lock 57 = .ok (.iconst 0, 1) := by decide +kernel
theorem dX5_lock_58 : decode cX5_lock 58 = .ok (.ireturn, 1) := by decide +kernel
theorem dX5_lock_59 : decode cX5_lock 59 = .ok (.aload_n 0, 1) := by decide +kernel
theorem dX5_lock_60 : decode cX5_lock 60 = .ok (.iload_n 2, 1) := by decide +kernel
theorem dX5_lock_61 : decode cX5_lock 61 = .ok (.invokevirtual 109, 3) := by decide +kernel
theorem dX5_lock_64 : decode cX5_lock 64 = .ok (.ifCond .ge 7, 3) := by decide +kernel
theorem dX5_lock_67 : decode cX5_lock 67 = .ok (.iconst 1, 1) := by decide +kernel
theorem dX5_lock_68 : decode cX5_lock 68 = .ok (.goto 4, 3) := by decide +kernel
theorem dX5_lock_71 : decode cX5_lock 71 = .ok (.iconst 0, 1) := by decide +kernel
theorem dX5_lock_72 : decode cX5_lock 72 = .ok (.istore 8, 2) := by decide +kernel
theorem dX5_lock_74 : decode cX5_lock 74 = .ok (.aload_n 0, 1) := by decide +kernel
theorem dX5_lock_75 : decode cX5_lock 75 = .ok (.aload_n 0, 1) := by decide +kernel
theorem dX5_lock_76 : decode cX5_lock 76 = .ok (.getfield 85, 3) := by decide +kernel
theorem dX5_lock_79 : decode cX5_lock 79 = .ok (.bipush 30, 2) := by decide +kernel
theorem dX5_lock_81 : decode cX5_lock 81 = .ok (.if_icmp .eq 31, 3) := by decide +kernel
theorem dX5_lock_84 : decode cX5_lock 84 = .ok (.aload_n 0, 1) := by decide +kernel
theorem dX5_lock_85 : decode cX5_lock 85 = .ok (.iload_n 2, 1) := by decide +kernel
theorem dX5_lock_86 : decode cX5_lock 86 = .ok (.iload_n 3, 1) := by decide +kernel
theorem dX5_lock_87 : decode cX5_lock 87 = .ok (.iload 4, 2) := by decide +kernel
theorem dX5_lock_89 : decode cX5_lock 89 = .ok (.invokevirtual 167, 3) := by decide +kernel
theorem dX5_lock_92 : decode cX5_lock 92 = .ok (.ifCond .ne 20, 3) := by decide +kernel
theorem dX5_lock_95 : decode cX5_lock 95 = .ok (.iload 8, 2) := by decide +kernel
theorem dX5_lock_97 : decode cX5_lock 97 = .ok (.ifCond .eq 19, 3) := by decide +kernel
theorem dX5_lock_100 : decode cX5_lock 100 = .ok (.aload_n 0, 1) := by decide +kernel
theorem dX5_lock_101 : decode cX5_lock 101 = .ok (.iload_n 1, 1) := by decide +kernel
theorem dX5_lock_102 : decode cX5_lock 102 = .ok (.iload_n 2, 1) := by decide +kernel
theorem dX5_lock_103 : decode cX5_lock 103 = .ok (.iconst (-1), 1) := by decide +kernel
theorem dX5_lock_104 : decode cX5_lock 104 = .ok (.iload 6, 2) := by decide +kernel
theorem dX5_lock_106 : decode cX5_lock 106 = .ok (.invokevirtual 123, 3) := by decide +kernel
theorem dX5_lock_109 : decode cX5_lock 109 = .ok (.ifCond .le 7, 3) := by decide +kernel
theorem dX5_lock_112 : decode cX5_lock 112 = .ok (.iconst 2, 1) := by decide +kernel
theorem dX5_lock_113 : decode cX5_lock 113 = .ok (.goto 4, 3) := by decide +kernel
theorem dX5_lock_116 : decode cX5_lock 116 = .ok (.iconst 0, 1) := by decide +kernel
theorem dX5_lock_117 : decode cX5_lock 117 = .ok (.putfield 56, 3) := by decide +kernel
theorem dX5_lock_120 : decode cX5_lock 120 = .ok (.aload_n 0, 1) := by decide +kernel
theorem dX5_lock_121 : decode cX5_lock 121 = .ok (.getfield 56, 3) := by decide +kernel
theorem dX5_lock_124 : decode cX5_lock 124 = .ok (.ifCond .le 5, 3) := by decide +kernel
theorem dX5_lock_127 : decode cX5_lock 127 = .ok (.iconst 0, 1) := by decide +kernel
theorem dX5_lock_128 : decode cX5_lock 128 = .ok (.ireturn, 1) := by decide +kernel
theorem dX5_lock_129 : decode cX5_lock 129 = .ok (.iload 8, 2) := by decide +kernel
theorem dX5_lock_131 : decode cX5_lock 131 = .ok (.ifCond .eq 11, 3) := by decide +kernel
theorem dX5_lock_134 : decode cX5_lock 134 = .ok (.aload_n 0, 1) := by decide +kernel
theorem dX5_lock_135 : decode cX5_lock 135 = .ok (.iload_n 2, 1) := by decide +kernel
theorem dX5_lock_136 : decode cX5_lock 136 = .ok (.iconst 1, 1) := by decide +kernel
theorem dX5_lock_137 : decode cX5_lock 137 = .ok (.iconst 0, 1) := by decide +kernel
theorem dX5_lock_138 : decode cX5_lock 138 = .ok (.invokevirtual 119, 3) := by decide +kernel
theorem dX5_lock_141 : decode cX5_lock 141 = .ok (.pop, 1) := by decide +kernel
theorem dX5_lock_142 : decode cX5_lock 142 = .ok (.aload_n 0, 1) := by decide +kernel
theorem dX5_lock_143 : decode cX5_lock 143 = .ok (.getfield 32, 3) := by decide +kernel
theorem dX5_lock_146 : decode cX5_lock 146 = .ok (.aload_n 0, 1) := by decide +kernel
theorem dX5_lock_147 : decode cX5_lock 147 = .ok (.getfield 85, 3) := by decide +kernel
theorem dX5_lock_150 : decode cX5_lock 150 = .ok (.iload_n 1, 1) := by decide +kernel
theorem dX5_lock_151 : decode cX5_lock 151 = .ok (.iastore, 1) := by decide +kernel
theorem dX5_lock_152 : decode cX5_lock 152 = .ok (.aload_n 0, 1) := by decide +kernel
theorem dX5_lock_153 : decode cX5_lock 153 = .ok (.getfield 35, 3) := by decide +kernel
theorem dX5_lock_156 : decode cX5_lock 156 = .ok (.aload_n 0, 1) := by decide +kernel
theorem dX5_lock_157 : decode cX5_lock 157 = .ok (.getfield 85, 3) := by decide +kernel
theorem dX5_lock_160 : decode cX5_lock 160 = .ok (.iload_n 2, 1) := by decide +kernel
theorem dX5_lock_161 : decode cX5_lock 161 = .ok (.iastore, 1) := by decide +kernel
theorem dX5_lock_162 : decode cX5_lock 162 = .ok (.aload_n 0, 1) := by decide +kernel
theorem dX5_lock_163 : decode cX5_lock 163 = .ok (.getfield 38, 3) := by decide +kernel
theorem dX5_lock_166 : decode cX5_lock 166 = .ok (.aload_n 0, 1) := by decide +kernel
theorem dX5_lock_167 : decode cX5_lock 167 = .ok (.getfield 85, 3) := by decide +kernel
theorem dX5_lock_170 : decode cX5_lock 170 = .ok (.iload_n 3, 1) := by decide +kernel
theorem dX5_lock_171 : decode cX5_lock 171 = .ok (.bastore, 1) := by decide +kernel
theorem dX5_lock_172 : decode cX5_lock 172 = .ok (.aload_n 0, 1) := by decide +kernel
theorem dX5_lock_173 : decode cX5_lock 173 = .ok (.getfield 41, 3) := by decide +kernel
theorem dX5_lock_176 : decode cX5_lock 176 = .ok (.aload_n 0, 1) := by decide +kernel
theorem dX5_lock_177 : decode cX5_lock 177 = .ok (.getfield 85, 3) := by decide +kernel
theorem dX5_lock_180 : decode cX5_lock 180 = .ok (.iload 4, 2) := by decide +kernel
theorem dX5_lock_182 : decode cX5_lock 182 = .ok (.bastore, 1) := by decide +kernel
theorem dX5_lock_183 : decode cX5_lock 183 = .ok (.aload_n 0, 1) := by decide +kernel
theorem dX5_lock_184 : decode cX5_lock 184 = .ok (.getfield 44, 3) := by decide +kernel
theorem dX5_lock_187 : decode cX5_lock 187 = .ok (.aload_n 0, 1) := by decide +kernel
theorem dX5_lock_188 : decode cX5_lock 188 = .ok (.getfield 85, 3) := by decide +kernel
theorem dX5_lock_191 : decode cX5_lock 191 = .ok (.aload_n 0, 1) := by decide +kernel
theorem dX5_lock_192 : decode cX5_lock 192 = .ok (.getfield 88, 3) := by decide +kernel
theorem dX5_lock_195 : decode cX5_lock 195 = .ok (.iload 5, 2) := by decide +kernel
theorem dX5_lock_197 : decode cX5_lock 197 = .ok (.iadd, 1) := by decide +kernel
theorem dX5_lock_198 : decode cX5_lock 198 = .ok (.iastore, 1) := by decide +kernel
theorem dX5_lock_199 : decode cX5_lock 199 = .ok (.aload_n 0, 1) := by decide +kernel
theorem dX5_lock_200 : decode cX5_lock 200 = .ok (.dup, 1) := by decide +kernel
theorem dX5_lock_201 : decode cX5_lock 201 = .ok (.getfield 85, 3) := by decide +kernel
theorem dX5_lock_204 : decode cX5_lock 204 = .ok (.iconst 1, 1) := by decide +kernel
theorem dX5_lock_205 : decode cX5_lock 205 = .ok (.iadd, 1) := by decide +kernel
theorem dX5_lock_206 : decode cX5_lock 206 = .ok (.putfield 85, 3) := by decide +kernel
theorem dX5_lock_209 : decode cX5_lock 209 = .ok (.aload_n 0, 1) := by decide +kernel
theorem dX5_lock_210 : decode cX5_lock 210 = .ok (.getfield 85, 3) := by decide +kernel
theorem dX5_lock_213 : decode cX5_lock 213 = .ok (.iconst 1, 1) := by decide +kernel
theorem dX5_lock_214 : decode cX5_lock 214 = .ok (.isub, 1) := by decide +kernel
theorem dX5_lock_215 : decode cX5_lock 215 = .ok (.ireturn, 1) := by decide +kernel
theorem dX5_refresh_0 : decode cX5_refresh 0 = .ok (.aload_n 0, 1) := by decide +kernel
theorem dX5_refresh_1 : decode cX5_refresh 1 = .ok (.iload_n 2, 1) := by decide +kernel
theorem dX5_refresh_2 : decode cX5_refresh 2 = .ok (.iconst 0, 1) := by decide +kernel
theorem dX5_refresh_3 : decode cX5_refresh 3 = .ok (.aload_n 0, 1) := by decide +kernel
theorem dX5_refresh_4 : decode cX5_refresh 4 = .ok (.getfield 85, 3) := by decide +kernel
theorem dX5_refresh_7 : decode cX5_refresh 7 = .ok (.iconst 1, 1) := by decide +kernel
theorem dX5_refresh_8 : decode cX5_refresh 8 = .ok (.isub, 1) := by decide +kernel
theorem dX5_refresh_9 : decode cX5_refresh 9 = .ok (.invokestatic 60, 3) := by decide +kernel
theorem dX5_refresh_12 : decode cX5_refresh 12 = .ok (.ifCond .ne 7, 3) := by decide +kernel
theorem dX5_refresh_15 : decode cX5_refresh 15 = .ok (.iconst 1, 1) := by decide +kernel
theorem dX5_refresh_16 : decode cX5_refresh 16 = .ok (.goto 52, 3) := by decide +kernel
theorem dX5_refresh_19 : decode cX5_refresh 19 = .ok (.aload_n 0, 1) := by decide +kernel
theorem dX5_refresh_20 : decode cX5_refresh 20 = .ok (.iload_n 2, 1) := by decide +kernel
theorem dX5_refresh_21 : decode cX5_refresh 21 = .ok (.invokevirtual 91, 3) := by decide +kernel
theorem dX5_refresh_24 : decode cX5_refresh 24 = .ok (.ifCond .ne 7, 3) := by decide +kernel
theorem dX5_refresh_27 : decode cX5_refresh 27 = .ok (.iconst 1, 1) := by decide +kernel
theorem dX5_refresh_28 : decode cX5_refresh 28 = .ok (.goto 40, 3) := by decide +kernel
theorem dX5_refresh_31 : decode cX5_refresh 31 = .ok (.iload_n 1, 1) := by decide +kernel
theorem dX5_refresh_32 : decode cX5_refresh 32 = .ok (.invokestatic 68, 3) := by decide +kernel
theorem dX5_refresh_35 : decode cX5_refresh 35 = .ok (.ifCond .eq 14, 3) := by decide +kernel
theorem dX5_refresh_38 : decode cX5_refresh 38 = .ok (.iload_n 3, 1) := by decide +kernel
theorem dX5_refresh_39 : decode cX5_refresh 39 = .ok (.iconst 0, 1) := by decide +kernel
theorem dX5_refresh_40 : decode cX5_refresh 40 = .ok (.sipush 1000, 3) := by decide +kernel
theorem dX5_refresh_43 : decode cX5_refresh 43 = .ok (.invokestatic 60, 3) := by decide +kernel
theorem dX5_refresh_46 : decode cX5_refresh 46 = .ok (.ifCond .ne 7, 3) := by decide +kernel
theorem dX5_refresh_49 : decode cX5_refresh 49 = .ok (.iconst 2, 1) := by decide +kernel
theorem dX5_refresh_50 : decode cX5_refresh 50 = .ok (.goto 18, 3) := by decide +kernel
theorem dX5_refresh_53 : decode cX5_refresh 53 = .ok (.aload_n 0, 1) := by decide +kernel
theorem dX5_refresh_54 : decode cX5_refresh 54 = .ok (.getfield 32, 3) := by decide +kernel
theorem dX5_refresh_57 : decode cX5_refresh 57 = .ok (.iload_n 2, 1) := by decide +kernel
theorem dX5_refresh_58 : decode cX5_refresh 58 = .ok (.iaload, 1) := by decide +kernel
theorem dX5_refresh_59 : decode cX5_refresh 59 = .ok (.iload_n 1, 1) := by decide +kernel
theorem dX5_refresh_60 : decode cX5_refresh 60 = .ok (.if_icmp .ne 7, 3) := by decide +kernel
theorem dX5_refresh_63 : decode cX5_refresh 63 = .ok (.iconst 0, 1) := by decide +kernel
theorem dX5_refresh_64 : decode cX5_refresh 64 = .ok (.goto 4, 3) := by decide +kernel
theorem dX5_refresh_67 : decode cX5_refresh 67 = .ok (.iconst 3, 1) := by decide +kernel
theorem dX5_refresh_68 : decode cX5_refresh 68 = .ok (.putfield 56, 3) := by decide +kernel
theorem dX5_refresh_71 : decode cX5_refresh 71 = .ok (.aload_n 0, 1) := by decide +kernel
theorem dX5_refresh_72 : decode cX5_refresh 72 = .ok (.getfield 56, 3) := by decide +kernel
theorem dX5_refresh_75 : decode cX5_refresh 75 = .ok (.ifCond .le 5, 3) := by decide +kernel
theorem dX5_refresh_78 : decode cX5_refresh 78 = .ok (.iconst 0, 1) := by decide +kernel
theorem dX5_refresh_79 : decode cX5_refresh 79 = .ok (.ireturn, 1) := by decide +kernel
theorem dX5_refresh_80 : decode cX5_refresh 80 = .ok (.aload_n 0, 1) := by decide +kernel
theorem dX5_refresh_81 : decode cX5_refresh 81 = .ok (.getfield 44, 3) := by decide +kernel
theorem dX5_refresh_84 : decode cX5_refresh 84 = .ok (.iload_n 2, 1) := by decide +kernel
theorem dX5_refresh_85 : decode cX5_refresh 85 = .ok (.iaload, 1) := by decide +kernel
theorem dX5_refresh_86 : decode cX5_refresh 86 = .ok (.aload_n 0, 1) := by decide +kernel
theorem dX5_refresh_87 : decode cX5_refresh 87 = .ok (.getfield 88, 3) := by decide +kernel
theorem dX5_refresh_90 : decode cX5_refresh 90 = .ok (.isub, 1) := by decide +kernel
theorem dX5_refresh_91 : decode cX5_refresh 91 = .ok (.istore 4, 2) := by decide +kernel
theorem dX5_refresh_93 : decode cX5_refresh 93 = .ok (.aload_n 0, 1) := by decide +kernel
theorem dX5_refresh_94 : decode cX5_refresh 94 = .ok (.getfield 44, 3) := by decide +kernel
theorem dX5_refresh_97 : decode cX5_refresh 97 = .ok (.iload_n 2, 1) := by decide +kernel
theorem dX5_refresh_98 : decode cX5_refresh 98 = .ok (.aload_n 0, 1) := by decide +kernel
theorem dX5_refresh_99 : decode cX5_refresh 99 = .ok (.getfield 88, 3) := by decide +kernel
theorem dX5_refresh_102 : decode cX5_refresh 102 = .ok (.iload_n 3, 1) := by decide +kernel
theorem dX5_refresh_103 : decode cX5_refresh 103 = .ok (.iadd, 1) := by decide +kernel
theorem dX5_refresh_104 : decode cX5_refresh 104 = .ok (.iastore, 1) := by decide +kernel
theorem dX5_refresh_105 : decode cX5_refresh 105 = .ok (.iload 4, 2) := by decide +kernel
theorem dX5_refresh_107 : decode cX5_refresh 107 = .ok (.ireturn, 1) := by decide +kernel
theorem dX5_pass_0 : decode cX5_pass 0 = .ok (.aload_n 0, 1) := by decide +kernel
theorem dX5_pass_1 : decode cX5_pass 1 = .ok (.iload_n 1, 1) := by decide +kernel
theorem dX5_pass_2 : decode cX5_pass 2 = .ok (.iconst 1, 1) := by decide +kernel
theorem dX5_pass_3 : decode cX5_pass 3 = .ok (.sipush 1000, 3) := by decide +kernel
theorem dX5_pass_6 : decode cX5_pass 6 = .ok (.invokestatic 60, 3) := by decide +kernel
theorem dX5_pass_9 : decode cX5_pass 9 = .ok (.ifCond .ne 7, 3) := by decide +kernel
theorem dX5_pass_12 : decode cX5_pass 12 = .ok (.iconst 1, 1) := by decide +kernel
theorem dX5_pass_13 : decode cX5_pass 13 = .ok (.goto 19, 3) := by decide +kernel
theorem dX5_pass_16 : decode cX5_pass 16 = .ok (.aload_n 0, 1) := by decide +kernel
theorem dX5_pass_17 : decode cX5_pass 17 = .ok (.getfield 88, 3) := by decide +kernel
theorem dX5_pass_20 : decode cX5_pass 20 = .ok (.iload_n 1, 1) := by decide +kernel
theorem dX5_pass_21 : decode cX5_pass 21 = .ok (.iadd, 1) := by decide +kernel
theorem dX5_pass_22 : decode cX5_pass 22 = .ok (.ldc 171, 2) := by decide +kernel
theorem dX5_pass_24 : decode cX5_pass 24 = .ok (.if_icmp .le 7, 3) := by decide +kernel
theorem dX5_pass_27 : decode cX5_pass 27 = .ok (.iconst 2, 1) := by decide +kernel
theorem dX5_pass_28 : decode cX5_pass 28 = .ok (.goto 4, 3) := by decide +kernel
theorem dX5_pass_31 : decode cX5_pass 31 = .ok (.iconst 0, 1) := by decide +kernel
theorem dX5_pass_32 : decode cX5_pass 32 = .ok (.putfield 56, 3) := by decide +kernel
theorem dX5_pass_35 : decode cX5_pass 35 = .ok (.iconst 0, 1) := by decide +kernel
theorem dX5_pass_36 : decode cX5_pass 36 = .ok (.istore_n 2, 1) := by decide +kernel
theorem dX5_pass_37 : decode cX5_pass 37 = .ok (.iconst 0, 1) := by decide +kernel
theorem dX5_pass_38 : decode cX5_pass 38 = .ok (.istore_n 3, 1) := by decide +kernel
theorem dX5_pass_39 : decode cX5_pass 39 = .ok (.iload_n 3, 1) := by decide +kernel
theorem dX5_pass_40 : decode cX5_pass 40 = .ok (.aload_n 0, 1) := by decide +kernel
theorem dX5_pass_41 : decode cX5_pass 41 = .ok (.getfield 85, 3) := by decide +kernel
theorem dX5_pass_44 : decode cX5_pass 44 = .ok (.if_icmp .ge 47, 3) := by decide +kernel
theorem dX5_pass_47 : decode cX5_pass 47 = .ok (.aload_n 0, 1) := by decide +kernel
theorem dX5_pass_48 : decode cX5_pass 48 = .ok (.getfield 56, 3) := by decide +kernel
theorem dX5_pass_51 : decode cX5_pass 51 = .ok (.ifCond .ne 40, 3) := by decide +kernel
theorem dX5_pass_54 : decode cX5_pass 54 = .ok (.iload_n 2, 1) := by decide +kernel
theorem dX5_pass_55 : decode cX5_pass 55 = .ok (.aload_n 0, 1) := by decide +kernel
theorem dX5_pass_56 : decode cX5_pass 56 = .ok (.iload_n 3, 1) := by decide +kernel
theorem dX5_pass_57 : decode cX5_pass 57 = .ok (.invokevirtual 91, 3) := by decide +kernel
theorem dX5_pass_60 : decode cX5_pass 60 = .ok (.ifCond .eq 22, 3) := by decide +kernel
theorem dX5_pass_63 : decode cX5_pass 63 = .ok (.aload_n 0, 1) := by decide +kernel
theorem dX5_pass_64 : decode cX5_pass 64 = .ok (.getfield 44, 3) := by decide +kernel
theorem dX5_pass_67 : decode cX5_pass 67 = .ok (.iload_n 3, 1) := by decide +kernel
theorem dX5_pass_68 : decode cX5_pass 68 = .ok (.iaload, 1) := by decide +kernel
theorem dX5_pass_69 : decode cX5_pass 69 = .ok (.aload_n 0, 1) := by decide +kernel
theorem dX5_pass_70 : decode cX5_pass 70 = .ok (.getfield 88, 3) := by decide +kernel
theorem dX5_pass_73 : decode cX5_pass 73 = .ok (.iload_n 1, 1) := by decide +kernel
theorem dX5_pass_74 : decode cX5_pass 74 = .ok (.iadd, 1) := by decide +kernel
theorem dX5_pass_75 : decode cX5_pass 75 = .ok (.if_icmp .gt 7, 3) := by decide +kernel
theorem dX5_pass_78 : decode cX5_pass 78 = .ok (.iconst 1, 1) := by decide +kernel
theorem dX5_pass_79 : decode cX5_pass 79 = .ok (.goto 4, 3) := by decide +kernel
theorem dX5_pass_82 : decode cX5_pass 82 = .ok (.iconst 0, 1) := by decide +kernel
theorem dX5_pass_83 : decode cX5_pass 83 = .ok (.iadd, 1) := by decide +kernel
theorem dX5_pass_84 : decode cX5_pass 84 = .ok (.istore_n 2, 1) := by decide +kernel
theorem dX5_pass_85 : decode cX5_pass 85 = .ok (.iinc 3 1, 3) := by decide +kernel
theorem dX5_pass_88 : decode cX5_pass 88 = .ok (.goto (-49), 3) := by decide +kernel
theorem dX5_pass_91 : decode cX5_pass 91 = .ok (.aload_n 0, 1) := by decide +kernel
theorem dX5_pass_92 : decode cX5_pass 92 = .ok (.dup, 1) := by decide +kernel
theorem dX5_pass_93 : decode cX5_pass 93 = .ok (.getfield 88, 3) := by decide +kernel
theorem dX5_pass_96 : decode cX5_pass 96 = .ok (.aload_n 0, 1) := by decide +kernel
theorem dX5_pass_97 : decode cX5_pass 97 = .ok (.getfield 56, 3) := by decide +kernel
theorem dX5_pass_100 : decode cX5_pass 100 = .ok (.ifCond .ne 7, 3) := by decide +kernel
theorem dX5_pass_103 : decode cX5_pass 103 = .ok (.iload_n 1, 1) := by decide +kernel
theorem dX5_pass_104 : decode cX5_pass 104 = .ok (.goto 4, 3) := by decide +kernel
theorem dX5_pass_107 : decode cX5_pass 107 = .ok (.iconst 0, 1) := by decide +kernel
theorem dX5_pass_108 : decode cX5_pass 108 = .ok (.iadd, 1) := by decide +kernel
theorem dX5_pass_109 : decode cX5_pass 109 = .ok (.putfield 88, 3) := by decide +kernel
theorem dX5_pass_112 : decode cX5_pass 112 = .ok (.iload_n 2, 1) := by decide +kernel
theorem dX5_pass_113 : decode cX5_pass 113 = .ok (.ireturn, 1) := by decide +kernel
theorem dX5_covering_0 : decode cX5_covering 0 = .ok (.aload_n 0, 1) := by decide +kernel
theorem dX5_covering_1 : decode cX5_covering 1 = .ok (.iload_n 1, 1) := by decide +kernel
theorem dX5_covering_2 : decode cX5_covering 2 = .ok (.invokevirtual 155, 3) := by decide +kernel
theorem dX5_covering_5 : decode cX5_covering 5 = .ok (.ifCond .eq 11, 3) := by decide +kernel
theorem dX5_covering_8 : decode cX5_covering 8 = .ok (.aload_n 0, 1) := by decide +kernel
theorem dX5_covering_9 : decode cX5_covering 9 = .ok (.iload_n 1, 1) := by decide +kernel
theorem dX5_covering_10 : decode cX5_covering 10 = .ok (.invokevirtual 97, 3) := by decide +kernel
theorem dX5_covering_13 : decode cX5_covering 13 = .ok (.goto 4, 3) := by decide +kernel
theorem dX5_covering_16 : decode cX5_covering 16 = .ok (.iconst 0, 1) := by decide +kernel
theorem dX5_covering_17 : decode cX5_covering 17 = .ok (.ireturn, 1) := by decide +kernel
theorem dX5_mayChange_0 : decode cX5_mayChange 0 = .ok (.aload_n 0, 1) := by decide +kernel
theorem dX5_mayChange_1 : decode cX5_mayChange 1 = .ok (.iload_n 1, 1) := by decide +kernel
theorem dX5_mayChange_2 : decode cX5_mayChange 2 = .ok (.invokestatic 68, 3) := by decide +kernel
theorem dX5_mayChange_5 : decode cX5_mayChange 5 = .ok (.ifCond .eq 18, 3) := by decide +kernel
theorem dX5_mayChange_8 : decode cX5_mayChange 8 = .ok (.iload_n 2, 1) := by decide +kernel
theorem dX5_mayChange_9 : decode cX5_mayChange 9 = .ok (.invokestatic 64, 3) := by decide +kernel
theorem dX5_mayChange_12 : decode cX5_mayChange 12 = .ok (.ifCond .eq 11, 3) := by decide +kernel
theorem dX5_mayChange_15 : decode cX5_mayChange 15 = .ok (.iload_n 3, 1) := by decide +kernel
theorem dX5_mayChange_16 : decode cX5_mayChange 16 = .ok (.ifCond .lt 7, 3) := by decide +kernel
theorem dX5_mayChange_19 : decode cX5_mayChange 19 = .ok (.iconst 0, 1) := by decide +kernel
theorem dX5_mayChange_20 : decode cX5_mayChange 20 = .ok (.goto 4, 3) := by decide +kernel
theorem dX5_mayChange_23 : decode cX5_mayChange 23 = .ok (.iconst 1, 1) := by decide +kernel
theorem dX5_mayChange_24 : decode cX5_mayChange 24 = .ok (.putfield 56, 3) := by decide +kernel
theorem dX5_mayChange_27 : decode cX5_mayChange 27 = .ok (.aload_n 0, 1) := by decide +kernel
theorem dX5_mayChange_28 : decode cX5_mayChange 28 = .ok (.getfield 56, 3) := by decide +kernel
theorem dX5_mayChange_31 : decode cX5_mayChange 31 = .ok (.ifCond .ne 17, 3) := by decide +kernel
theorem dX5_mayChange_34 : decode cX5_mayChange 34 = .ok (.aload_n 0, 1) := by decide +kernel
theorem dX5_mayChange_35 : decode cX5_mayChange 35 = .ok (.iload_n 1, 1) := by decide +kernel
theorem dX5_mayChange_36 : decode cX5_mayChange 36 = .ok (.iload_n 2, 1) := by decide +kernel
theorem dX5_mayChange_37 : decode cX5_mayChange 37 = .ok (.iload_n 3, 1) := by decide +kernel
theorem dX5_mayChange_38 : decode cX5_mayChange 38 = .ok (.invokevirtual 103, 3) := by decide +kernel
theorem dX5_mayChange_41 : decode cX5_mayChange 41 = .ok (.ifCond .eq 7, 3) := by decide +kernel
theorem dX5_mayChange_44 : decode cX5_mayChange 44 = .ok (.iconst 1, 1) := by decide +kernel
theorem dX5_mayChange_45 : decode cX5_mayChange 45 = .ok (.goto 4, 3) := by decide +kernel
theorem dX5_mayChange_48 : decode cX5_mayChange 48 = .ok (.iconst 0, 1) := by decide +kernel
theorem dX5_mayChange_49 : decode cX5_mayChange 49 = .ok (.ireturn, 1) := by decide +kernel
theorem dX5_keep_0 : decode cX5_keep 0 = .ok (.aload_n 0, 1) := by decide +kernel
theorem dX5_keep_1 : decode cX5_keep 1 = .ok (.iload_n 1, 1) := by decide +kernel
theorem dX5_keep_2 : decode cX5_keep 2 = .ok (.invokevirtual 155, 3) := by decide +kernel
theorem dX5_keep_5 : decode cX5_keep 5 = .ok (.ifCond .ne 5, 3) := by decide +kernel
theorem dX5_keep_8 : decode cX5_keep 8 = .ok (.iconst 0, 1) := by decide +kernel
theorem dX5_keep_9 : decode cX5_keep 9 = .ok (.ireturn, 1) := by decide +kernel
theorem dX5_keep_10 : decode cX5_keep 10 = .ok (.aload_n 0, 1) := by decide +kernel
theorem dX5_keep_11 : decode cX5_keep 11 = .ok (.iload_n 1, 1) := by decide +kernel
theorem dX5_keep_12 : decode cX5_keep 12 = .ok (.invokevirtual 74, 3) := by decide +kernel
theorem dX5_keep_15 : decode cX5_keep 15 = .ok (.istore_n 2, 1) := by decide +kernel
theorem dX5_keep_16 : decode cX5_keep 16 = .ok (.iload_n 2, 1) := by decide +kernel
theorem dX5_keep_17 : decode cX5_keep 17 = .ok (.ifCond .lt 28, 3) := by decide +kernel
theorem dX5_keep_20 : decode cX5_keep 20 = .ok (.aload_n 0, 1) := by decide +kernel
theorem dX5_keep_21 : decode cX5_keep 21 = .ok (.getfield 17, 3) := by decide +kernel
theorem dX5_keep_24 : decode cX5_keep 24 = .ok (.iload_n 2, 1) := by decide +kernel
theorem dX5_keep_25 : decode cX5_keep 25 = .ok (.iaload, 1) := by decide +kernel
theorem dX5_keep_26 : decode cX5_keep 26 = .ok (.iconst 1, 1) := by decide +kernel
theorem dX5_keep_27 : decode cX5_keep 27 = .ok (.if_icmp .ne 18, 3) := by decide +kernel
theorem dX5_keep_30 : decode cX5_keep 30 = .ok (.aload_n 0, 1) := by decide +kernel
theorem dX5_keep_31 : decode cX5_keep 31 = .ok (.getfield 26, 3) := by decide +kernel
theorem dX5_keep_34 : decode cX5_keep 34 = .ok (.iload_n 2, 1) := by decide +kernel
theorem dX5_keep_35 : decode cX5_keep 35 = .ok (.iaload, 1) := by decide +kernel
theorem dX5_keep_36 : decode cX5_keep 36 = .ok (.bipush 10, 2) := by decide +kernel
theorem dX5_keep_38 : decode cX5_keep 38 = .ok (.if_icmp .ge 7, 3) := by decide +kernel
theorem dX5_keep_41 : decode cX5_keep 41 = .ok (.iconst 1, 1) := by decide +kernel
theorem dX5_keep_42 : decode cX5_keep 42 = .ok (.goto 4, 3) := by decide +kernel
theorem dX5_keep_45 : decode cX5_keep 45 = .ok (.iconst 0, 1) := by decide +kernel
theorem dX5_keep_46 : decode cX5_keep 46 = .ok (.istore_n 3, 1) := by decide +kernel
theorem dX5_keep_47 : decode cX5_keep 47 = .ok (.aload_n 0, 1) := by decide +kernel
theorem dX5_keep_48 : decode cX5_keep 48 = .ok (.iload_n 3, 1) := by decide +kernel
theorem dX5_keep_49 : decode cX5_keep 49 = .ok (.ifCond .eq 7, 3) := by decide +kernel
theorem dX5_keep_52 : decode cX5_keep 52 = .ok (.iconst 0, 1) := by decide +kernel
theorem dX5_keep_53 : decode cX5_keep 53 = .ok (.goto 4, 3) := by decide +kernel
theorem dX5_keep_56 : decode cX5_keep 56 = .ok (.iconst 2, 1) := by decide +kernel
theorem dX5_keep_57 : decode cX5_keep 57 = .ok (.putfield 56, 3) := by decide +kernel
theorem dX5_keep_60 : decode cX5_keep 60 = .ok (.iload_n 3, 1) := by decide +kernel
theorem dX5_keep_61 : decode cX5_keep 61 = .ok (.ifCond .ne 5, 3) := by decide +kernel
theorem dX5_keep_64 : decode cX5_keep 64 = .ok (.iconst 0, 1) := by decide +kernel
theorem dX5_keep_65 : decode cX5_keep 65 = .ok (.ireturn, 1) := by decide +kernel
theorem dX5_keep_66 : decode cX5_keep 66 = .ok (.aload_n 0, 1) := by decide +kernel
theorem dX5_keep_67 : decode cX5_keep 67 = .ok (.getfield 29, 3) := by decide +kernel
theorem dX5_keep_70 : decode cX5_keep 70 = .ok (.bipush 10, 2) := by decide +kernel
theorem dX5_keep_72 : decode cX5_keep 72 = .ok (.iload_n 2, 1) := by decide +kernel
theorem dX5_keep_73 : decode cX5_keep 73 = .ok (.imul, 1) := by decide +kernel
theorem dX5_keep_74 : decode cX5_keep 74 = .ok (.aload_n 0, 1) := by decide +kernel
theorem dX5_keep_75 : decode cX5_keep 75 = .ok (.getfield 26, 3) := by decide +kernel
theorem dX5_keep_78 : decode cX5_keep 78 = .ok (.iload_n 2, 1) := by decide +kernel
theorem dX5_keep_79 : decode cX5_keep 79 = .ok (.iaload, 1) := by decide +kernel
theorem dX5_keep_80 : decode cX5_keep 80 = .ok (.iadd, 1) := by decide +kernel
theorem dX5_keep_81 : decode cX5_keep 81 = .ok (.aload_n 0, 1) := by decide +kernel
theorem dX5_keep_82 : decode cX5_keep 82 = .ok (.getfield 20, 3) := by decide +kernel
theorem dX5_keep_85 : decode cX5_keep 85 = .ok (.iload_n 2, 1) := by decide +kernel
theorem dX5_keep_86 : decode cX5_keep 86 = .ok (.iaload, 1) := by decide +kernel
theorem dX5_keep_87 : decode cX5_keep 87 = .ok (.iastore, 1) := by decide +kernel
theorem dX5_keep_88 : decode cX5_keep 88 = .ok (.aload_n 0, 1) := by decide +kernel
theorem dX5_keep_89 : decode cX5_keep 89 = .ok (.getfield 26, 3) := by decide +kernel
theorem dX5_keep_92 : decode cX5_keep 92 = .ok (.iload_n 2, 1) := by decide +kernel
theorem dX5_keep_93 : decode cX5_keep 93 = .ok (.dup2, 1) := by decide +kernel
theorem dX5_keep_94 : decode cX5_keep 94 = .ok (.iaload, 1) := by decide +kernel
theorem dX5_keep_95 : decode cX5_keep 95 = .ok (.iconst 1, 1) := by decide +kernel
theorem dX5_keep_96 : decode cX5_keep 96 = .ok (.iadd, 1) := by decide +kernel
theorem dX5_keep_97 : decode cX5_keep 97 = .ok (.iastore, 1) := by decide +kernel
theorem dX5_keep_98 : decode cX5_keep 98 = .ok (.aload_n 0, 1) := by decide +kernel
theorem dX5_keep_99 : decode cX5_keep 99 = .ok (.getfield 26, 3) := by decide +kernel
theorem dX5_keep_102 : decode cX5_keep 102 = .ok (.iload_n 2, 1) := by decide +kernel
theorem dX5_keep_103 : decode cX5_keep 103 = .ok (.iaload, 1) := by decide +kernel
theorem dX5_keep_104 : decode cX5_keep 104 = .ok (.iconst 1, 1) := by decide +kernel
theorem dX5_keep_105 : decode cX5_keep 105 = .ok (.isub, 1) := by decide +kernel
theorem dX5_keep_106 : decode cX5_keep 106 = .ok (.ireturn, 1) := by decide +kernel
theorem dX5_restore_0 : decode cX5_restore 0 = .ok (.aload_n 0, 1) := by decide +kernel
theorem dX5_restore_1 : decode cX5_restore 1 = .ok (.iload_n 1, 1) := by decide +kernel
theorem dX5_restore_2 : decode cX5_restore 2 = .ok (.invokestatic 68, 3) := by decide +kernel
theorem dX5_restore_5 : decode cX5_restore 5 = .ok (.ifCond .eq 23, 3) := by decide +kernel
theorem dX5_restore_8 : decode cX5_restore 8 = .ok (.iload_n 2, 1) := by decide +kernel
theorem dX5_restore_9 : decode cX5_restore 9 = .ok (.invokestatic 64, 3) := by decide +kernel
theorem dX5_restore_12 : decode cX5_restore 12 = .ok (.ifCond .eq 16, 3) := by decide +kernel
theorem dX5_restore_15 : decode cX5_restore 15 = .ok (.iload_n 3, 1) := by decide +kernel
theorem dX5_restore_16 : decode cX5_restore 16 = .ok (.ifCond .lt 12, 3) := by decide +kernel
theorem dX5_restore_19 : decode cX5_restore 19 = .ok (.iload 4, 2) := by decide +kernel
theorem dX5_restore_21 : decode cX5_restore 21 = .ok (.ifCond .lt 7, 3) := by decide +kernel
theorem dX5_restore_24 : decode cX5_restore 24 = .ok (.iconst 0, 1) := by decide +kernel
theorem dX5_restore_25 : decode cX5_restore 25 = .ok (.goto 4, 3) := by decide +kernel
theorem dX5_restore_28 : decode cX5_restore 28 = .ok (.iconst 1, 1) := by decide +kernel
theorem dX5_restore_29 : decode cX5_restore 29 = .ok (.putfield 56, 3) := by decide +kernel
theorem dX5_restore_32 : decode cX5_restore 32 = .ok (.aload_n 0, 1) := by decide +kernel
theorem dX5_restore_33 : decode cX5_restore 33 = .ok (.getfield 56, 3) := by decide +kernel
theorem dX5_restore_36 : decode cX5_restore 36 = .ok (.ifCond .le 5, 3) := by decide +kernel
theorem dX5_restore_39 : decode cX5_restore 39 = .ok (.iconst 0, 1) := by decide +kernel
theorem dX5_restore_40 : decode cX5_restore 40 = .ok (.ireturn, 1) := by decide +kernel
theorem dX5_restore_41 : decode cX5_restore 41 = .ok (.aload_n 0, 1) := by decide +kernel
theorem dX5_restore_42 : decode cX5_restore 42 = .ok (.iload_n 2, 1) := by decide +kernel
theorem dX5_restore_43 : decode cX5_restore 43 = .ok (.invokevirtual 74, 3) := by decide +kernel
theorem dX5_restore_46 : decode cX5_restore 46 = .ok (.istore 5, 2) := by decide +kernel
theorem dX5_restore_48 : decode cX5_restore 48 = .ok (.iload 5, 2) := by decide +kernel
theorem dX5_restore_50 : decode cX5_restore 50 = .ok (.ifCond .lt 29, 3) := by decide +kernel
theorem dX5_restore_53 : decode cX5_restore 53 = .ok (.aload_n 0, 1) := by decide +kernel
theorem dX5_restore_54 : decode cX5_restore 54 = .ok (.getfield 17, 3) := by decide +kernel
theorem dX5_restore_57 : decode cX5_restore 57 = .ok (.iload 5, 2) := by decide +kernel
theorem dX5_restore_59 : decode cX5_restore 59 = .ok (.iaload, 1) := by decide +kernel
theorem dX5_restore_60 : decode cX5_restore 60 = .ok (.iconst 1, 1) := by decide +kernel
theorem dX5_restore_61 : decode cX5_restore 61 = .ok (.if_icmp .ne 18, 3) := by decide +kernel
theorem dX5_restore_64 : decode cX5_restore 64 = .ok (.iload_n 3, 1) := by decide +kernel
theorem dX5_restore_65 : decode cX5_restore 65 = .ok (.aload_n 0, 1) := by decide +kernel
theorem dX5_restore_66 : decode cX5_restore 66 = .ok (.getfield 26, 3) := by decide +kernel
theorem dX5_restore_69 : decode cX5_restore 69 = .ok (.iload 5, 2) := by decide +kernel
theorem dX5_restore_71 : decode cX5_restore 71 = .ok (.iaload, 1) := by decide +kernel
theorem dX5_restore_72 : decode cX5_restore 72 = .ok (.if_icmp .ge 7, 3) := by decide +kernel
theorem dX5_restore_75 : decode cX5_restore 75 = .ok (.iconst 1, 1) := by decide +kernel
theorem dX5_restore_76 : decode cX5_restore 76 = .ok (.goto 4, 3) := by decide +kernel
theorem dX5_restore_79 : decode cX5_restore 79 = .ok (.iconst 0, 1) := by decide +kernel
theorem dX5_restore_80 : decode cX5_restore 80 = .ok (.istore 6, 2) := by decide +kernel
theorem dX5_restore_82 : decode cX5_restore 82 = .ok (.iload 6, 2) := by decide +kernel
theorem dX5_restore_84 : decode cX5_restore 84 = .ok (.ifCond .ne 7, 3) := by decide +kernel
theorem dX5_restore_87 : decode cX5_restore 87 = .ok (.iconst 1, 1) := by decide +kernel
theorem dX5_restore_88 : decode cX5_restore 88 = .ok (.goto 19, 3) := by decide +kernel
theorem dX5_restore_91 : decode cX5_restore 91 = .ok (.aload_n 0, 1) := by decide +kernel
theorem dX5_restore_92 : decode cX5_restore 92 = .ok (.iload_n 1, 1) := by decide +kernel
theorem dX5_restore_93 : decode cX5_restore 93 = .ok (.iload_n 2, 1) := by decide +kernel
theorem dX5_restore_94 : decode cX5_restore 94 = .ok (.iload 4, 2) := by decide +kernel
theorem dX5_restore_96 : decode cX5_restore 96 = .ok (.invokevirtual 103, 3) := by decide +kernel
theorem dX5_restore_99 : decode cX5_restore 99 = .ok (.ifCond .eq 7, 3) := by decide +kernel
theorem dX5_restore_102 : decode cX5_restore 102 = .ok (.iconst 0, 1) := by decide +kernel
theorem dX5_restore_103 : decode cX5_restore 103 = .ok (.goto 4, 3) := by decide +kernel
theorem dX5_restore_106 : decode cX5_restore 106 = .ok (.iconst 4, 1) := by decide +kernel
theorem dX5_restore_107 : decode cX5_restore 107 = .ok (.istore 7, 2) := by decide +kernel
theorem dX5_restore_109 : decode cX5_restore 109 = .ok (.iload 7, 2) := by decide +kernel
theorem dX5_restore_111 : decode cX5_restore 111 = .ok (.ifCond .ne 22, 3) := by decide +kernel
theorem dX5_restore_114 : decode cX5_restore 114 = .ok (.aload_n 0, 1) := by decide +kernel
theorem dX5_restore_115 : decode cX5_restore 115 = .ok (.getfield 20, 3) := by decide +kernel
theorem dX5_restore_118 : decode cX5_restore 118 = .ok (.iload 5, 2) := by decide +kernel
theorem dX5_restore_120 : decode cX5_restore 120 = .ok (.aload_n 0, 1) := by decide +kernel
theorem dX5_restore_121 : decode cX5_restore 121 = .ok (.getfield 29, 3) := by decide +kernel
theorem dX5_restore_124 : decode cX5_restore 124 = .ok (.bipush 10, 2) := by decide +kernel
theorem dX5_restore_126 : decode cX5_restore 126 = .ok (.iload 5, 2) := by decide +kernel
theorem dX5_restore_128 : decode cX5_restore 128 = .ok (.imul, 1) := by decide +kernel
theorem dX5_restore_129 : decode cX5_restore 129 = .ok (.iload_n 3, 1) := by decide +kernel
theorem dX5_restore_130 : decode cX5_restore 130 = .ok (.iadd, 1) := by decide +kernel
theorem dX5_restore_131 : decode cX5_restore 131 = .ok (.iaload, 1) := by decide +kernel
theorem dX5_restore_132 : decode cX5_restore 132 = .ok (.iastore, 1) := by decide +kernel
theorem dX5_restore_133 : decode cX5_restore 133 = .ok (.iload 7, 2) := by decide +kernel
theorem dX5_restore_135 : decode cX5_restore 135 = .ok (.ireturn, 1) := by decide +kernel
theorem dL_makeCollection_0 : decode cL_makeCollection 0 = .ok (.aload 4, 2) := by decide +kernel
theorem dL_makeCollection_2 : decode cL_makeCollection 2 = .ok (.iconst 0, 1) := by decide +kernel
theorem dL_makeCollection_3 : decode cL_makeCollection 3 = .ok (.aload_n 0, 1) := by decide +kernel
theorem dL_makeCollection_4 : decode cL_makeCollection 4 = .ok (.iload_n 1, 1) := by decide +kernel
theorem dL_makeCollection_5 : decode cL_makeCollection 5 = .ok (.iload_n 2, 1) := by decide +kernel
theorem dL_makeCollection_6 : decode cL_makeCollection 6 = .ok (.iload_n 3, 1) := by decide +kernel
theorem dL_makeCollection_7 : decode cL_makeCollection 7 = .ok (.invokevirtual 7, 3) := by decide +kernel
theorem dL_makeCollection_10 : decode cL_makeCollection 10 = .ok (.i2l, 1) := by decide +kernel
theorem dL_makeCollection_11 : decode cL_makeCollection 11 = .ok (.lastore, 1) := by decide +kernel
theorem dL_makeCollection_12 : decode cL_makeCollection 12 = .ok (.goto 7, 3) := by decide +kernel
theorem dL_makeCollection_15 : decode cL_makeCollection 15 = .ok (.astore 5, 2) := by decide +kernel
theorem dL_makeCollection_17 : decode cL_makeCollection 17 = .ok (.iconst 1, 1) := by decide +kernel
theorem dL_makeCollection_18 : decode cL_makeCollection 18 = .ok (.ireturn, 1) := by decide +kernel
theorem dL_makeCollection_19 : decode cL_makeCollection 19 = .ok (.iconst 0, 1) := by decide +kernel
theorem dL_makeCollection_20 : decode cL_makeCollection 20 = .ok (.ireturn, 1) := by decide +kernel
theorem dL_put_0 : decode cL_put 0 = .ok (.aload 6, 2) := by decide +kernel
theorem dL_put_2 : decode cL_put 2 = .ok (.iconst 0, 1) := by decide +kernel
theorem dL_put_3 : decode cL_put 3 = .ok (.aload_n 0, 1) := by decide +kernel
theorem dL_put_4 : decode cL_put 4 = .ok (.iload_n 1, 1) := by decide +kernel
theorem dL_put_5 : decode cL_put 5 = .ok (.iload_n 2, 1) := by decide +kernel
theorem dL_put_6 : decode cL_put 6 = .ok (.iload_n 3, 1) := by decide +kernel
theorem dL_put_7 : decode cL_put 7 = .ok (.iload 4, 2) := by decide +kernel
theorem dL_put_9 : decode cL_put 9 = .ok (.iload 5, 2) := by decide +kernel
theorem dL_put_11 : decode cL_put 11 = .ok (.invokevirtual 15, 3) := by decide +kernel
theorem dL_put_14 : decode cL_put 14 = .ok (.i2l, 1) := by decide +kernel
theorem dL_put_15 : decode cL_put 15 = .ok (.lastore, 1) := by decide +kernel
theorem dL_put_16 : decode cL_put 16 = .ok (.goto 7, 3) := by decide +kernel
theorem dL_put_19 : decode cL_put 19 = .ok (.astore 7, 2) := by decide +kernel
theorem dL_put_21 : decode cL_put 21 = .ok (.iconst 1, 1) := by decide +kernel
theorem dL_put_22 : decode cL_put 22 = .ok (.ireturn, 1) := by decide +kernel
theorem dL_put_23 : decode cL_put 23 = .ok (.iconst 0, 1) := by decide +kernel
theorem dL_put_24 : decode cL_put 24 = .ok (.ireturn, 1) := by decide +kernel
theorem dL_delete_0 : decode cL_delete 0 = .ok (.aload 4, 2) := by decide +kernel
theorem dL_delete_2 : decode cL_delete 2 = .ok (.iconst 0, 1) := by decide +kernel
theorem dL_delete_3 : decode cL_delete 3 = .ok (.aload_n 0, 1) := by decide +kernel
theorem dL_delete_4 : decode cL_delete 4 = .ok (.iload_n 1, 1) := by decide +kernel
theorem dL_delete_5 : decode cL_delete 5 = .ok (.iload_n 2, 1) := by decide +kernel
theorem dL_delete_6 : decode cL_delete 6 = .ok (.iload_n 3, 1) := by decide +kernel
theorem dL_delete_7 : decode cL_delete 7 = .ok (.invokevirtual 19, 3) := by decide +kernel
theorem dL_delete_10 : decode cL_delete 10 = .ok (.i2l, 1) := by decide +kernel
theorem dL_delete_11 : decode cL_delete 11 = .ok (.lastore, 1) := by decide +kernel
theorem dL_delete_12 : decode cL_delete 12 = .ok (.goto 7, 3) := by decide +kernel
theorem dL_delete_15 : decode cL_delete 15 = .ok (.astore 5, 2) := by decide +kernel
theorem dL_delete_17 : decode cL_delete 17 = .ok (.iconst 1, 1) := by decide +kernel
theorem dL_delete_18 : decode cL_delete 18 = .ok (.ireturn, 1) := by decide +kernel
theorem dL_delete_19 : decode cL_delete 19 = .ok (.iconst 0, 1) := by decide +kernel
theorem dL_delete_20 : decode cL_delete 20 = .ok (.ireturn, 1) := by decide +kernel
theorem dL_failureAt_0 : decode cL_failureAt 0 = .ok (.aload_n 2, 1) := by decide +kernel
theorem dL_failureAt_1 : decode cL_failureAt 1 = .ok (.iconst 0, 1) := by decide +kernel
theorem dL_failureAt_2 : decode cL_failureAt 2 = .ok (.aload_n 0, 1) := by decide +kernel
theorem dL_failureAt_3 : decode cL_failureAt 3 = .ok (.iload_n 1, 1) := by decide +kernel
theorem dL_failureAt_4 : decode cL_failureAt 4 = .ok (.invokevirtual 22, 3) := by decide +kernel
theorem dL_failureAt_7 : decode cL_failureAt 7 = .ok (.i2l, 1) := by decide +kernel
theorem dL_failureAt_8 : decode cL_failureAt 8 = .ok (.lastore, 1) := by decide +kernel
theorem dL_failureAt_9 : decode cL_failureAt 9 = .ok (.goto 6, 3) := by decide +kernel
theorem dL_failureAt_12 : decode cL_failureAt 12 = .ok (.astore_n 3, 1) := by decide +kernel
theorem dL_failureAt_13 : decode cL_failureAt 13 = .ok (.iconst 1, 1) := by decide +kernel
theorem dL_failureAt_14 : decode cL_failureAt 14 = .ok (.ireturn, 1) := by decide +kernel
theorem dL_failureAt_15 : decode cL_failureAt 15 = .ok (.iconst 0, 1) := by decide +kernel
theorem dL_failureAt_16 : decode cL_failureAt 16 = .ok (.ireturn, 1) := by decide +kernel
theorem dL_copy_0 : decode cL_copy 0 = .ok (.aload 6, 2) := by decide +kernel
theorem dL_copy_2 : decode cL_copy 2 = .ok (.iconst 0, 1) := by decide +kernel
theorem dL_copy_3 : decode cL_copy 3 = .ok (.aload_n 0, 1) := by decide +kernel
theorem dL_copy_4 : decode cL_copy 4 = .ok (.iload_n 1, 1) := by decide +kernel
theorem dL_copy_5 : decode cL_copy 5 = .ok (.iload_n 2, 1) := by decide +kernel
theorem dL_copy_6 : decode cL_copy 6 = .ok (.iload_n 3, 1) := by decide +kernel
theorem dL_copy_7 : decode cL_copy 7 = .ok (.iload 4, 2) := by decide +kernel
theorem dL_copy_9 : decode cL_copy 9 = .ok (.iload 5, 2) := by decide +kernel
theorem dL_copy_11 : decode cL_copy 11 = .ok (.invokevirtual 28, 3) := by decide +kernel
theorem dL_copy_14 : decode cL_copy 14 = .ok (.i2l, 1) := by decide +kernel
theorem dL_copy_15 : decode cL_copy 15 = .ok (.lastore, 1) := by decide +kernel
theorem dL_copy_16 : decode cL_copy 16 = .ok (.goto 7, 3) := by decide +kernel
theorem dL_copy_19 : decode cL_copy 19 = .ok (.astore 7, 2) := by decide +kernel
theorem dL_copy_21 : decode cL_copy 21 = .ok (.iconst 1, 1) := by decide +kernel
theorem dL_copy_22 : decode cL_copy 22 = .ok (.ireturn, 1) := by decide +kernel
theorem dL_copy_23 : decode cL_copy 23 = .ok (.iconst 0, 1) := by decide +kernel
theorem dL_copy_24 : decode cL_copy 24 = .ok (.ireturn, 1) := by decide +kernel
theorem dL_move_0 : decode cL_move 0 = .ok (.aload 6, 2) := by decide +kernel
theorem dL_move_2 : decode cL_move 2 = .ok (.iconst 0, 1) := by decide +kernel
theorem dL_move_3 : decode cL_move 3 = .ok (.aload_n 0, 1) := by decide +kernel
theorem dL_move_4 : decode cL_move 4 = .ok (.iload_n 1, 1) := by decide +kernel
theorem dL_move_5 : decode cL_move 5 = .ok (.iload_n 2, 1) := by decide +kernel
theorem dL_move_6 : decode cL_move 6 = .ok (.iload_n 3, 1) := by decide +kernel
theorem dL_move_7 : decode cL_move 7 = .ok (.iload 4, 2) := by decide +kernel
theorem dL_move_9 : decode cL_move 9 = .ok (.iload 5, 2) := by decide +kernel
theorem dL_move_11 : decode cL_move 11 = .ok (.invokevirtual 32, 3) := by decide +kernel
theorem dL_move_14 : decode cL_move 14 = .ok (.i2l, 1) := by decide +kernel
theorem dL_move_15 : decode cL_move 15 = .ok (.lastore, 1) := by decide +kernel
theorem dL_move_16 : decode cL_move 16 = .ok (.goto 7, 3) := by decide +kernel
theorem dL_move_19 : decode cL_move 19 = .ok (.astore 7, 2) := by decide +kernel
theorem dL_move_21 : decode cL_move 21 = .ok (.iconst 1, 1) := by decide +kernel
theorem dL_move_22 : decode cL_move 22 = .ok (.ireturn, 1) := by decide +kernel
theorem dL_move_23 : decode cL_move 23 = .ok (.iconst 0, 1) := by decide +kernel
theorem dL_move_24 : decode cL_move 24 = .ok (.ireturn, 1) := by decide +kernel
theorem dL_kindOf_0 : decode cL_kindOf 0 = .ok (.aload_n 2, 1) := by decide +kernel
theorem dL_kindOf_1 : decode cL_kindOf 1 = .ok (.iconst 0, 1) := by decide +kernel
theorem dL_kindOf_2 : decode cL_kindOf 2 = .ok (.aload_n 0, 1) := by decide +kernel
theorem dL_kindOf_3 : decode cL_kindOf 3 = .ok (.iload_n 1, 1) := by decide +kernel
theorem dL_kindOf_4 : decode cL_kindOf 4 = .ok (.invokevirtual 35, 3) := by decide +kernel
theorem dL_kindOf_7 : decode cL_kindOf 7 = .ok (.i2l, 1) := by decide +kernel
theorem dL_kindOf_8 : decode cL_kindOf 8 = .ok (.lastore, 1) := by decide +kernel
theorem dL_kindOf_9 : decode cL_kindOf 9 = .ok (.goto 6, 3) := by decide +kernel
theorem dL_kindOf_12 : decode cL_kindOf 12 = .ok (.astore_n 3, 1) := by decide +kernel
theorem dL_kindOf_13 : decode cL_kindOf 13 = .ok (.iconst 1, 1) := by decide +kernel
theorem dL_kindOf_14 : decode cL_kindOf 14 = .ok (.ireturn, 1) := by decide +kernel
theorem dL_kindOf_15 : decode cL_kindOf 15 = .ok (.iconst 0, 1) := by decide +kernel
theorem dL_kindOf_16 : decode cL_kindOf 16 = .ok (.ireturn, 1) := by decide +kernel
theorem dL_content_0 : decode cL_content 0 = .ok (.aload_n 2, 1) := by decide +kernel
theorem dL_content_1 : decode cL_content 1 = .ok (.iconst 0, 1) := by decide +kernel
theorem dL_content_2 : decode cL_content 2 = .ok (.aload_n 0, 1) := by decide +kernel
theorem dL_content_3 : decode cL_content 3 = .ok (.iload_n 1, 1) := by decide +kernel
theorem dL_content_4 : decode cL_content 4 = .ok (.invokevirtual 38, 3) := by decide +kernel
theorem dL_content_7 : decode cL_content 7 = .ok (.i2l, 1) := by decide +kernel
theorem dL_content_8 : decode cL_content 8 = .ok (.lastore, 1) := by decide +kernel
theorem dL_content_9 : decode cL_content 9 = .ok (.goto 6, 3) := by decide +kernel
theorem dL_content_12 : decode cL_content 12 = .ok (.astore_n 3, 1) := by decide +kernel
theorem dL_content_13 : decode cL_content 13 = .ok (.iconst 1, 1) := by decide +kernel
theorem dL_content_14 : decode cL_content 14 = .ok (.ireturn, 1) := by decide +kernel
theorem dL_content_15 : decode cL_content 15 = .ok (.iconst 0, 1) := by decide +kernel
theorem dL_content_16 : decode cL_content 16 = .ok (.ireturn, 1) := by decide +kernel
theorem dL_members_0 : decode cL_members 0 = .ok (.aload_n 2, 1) := by decide +kernel
theorem dL_members_1 : decode cL_members 1 = .ok (.iconst 0, 1) := by decide +kernel
theorem dL_members_2 : decode cL_members 2 = .ok (.aload_n 0, 1) := by decide +kernel
theorem dL_members_3 : decode cL_members 3 = .ok (.iload_n 1, 1) := by decide +kernel
theorem dL_members_4 : decode cL_members 4 = .ok (.invokevirtual 41, 3) := by decide +kernel
theorem dL_members_7 : decode cL_members 7 = .ok (.i2l, 1) := by decide +kernel
theorem dL_members_8 : decode cL_members 8 = .ok (.lastore, 1) := by decide +kernel
theorem dL_members_9 : decode cL_members 9 = .ok (.goto 6, 3) := by decide +kernel
theorem dL_members_12 : decode cL_members 12 = .ok (.astore_n 3, 1) := by decide +kernel
theorem dL_members_13 : decode cL_members 13 = .ok (.iconst 1, 1) := by decide +kernel
theorem dL_members_14 : decode cL_members 14 = .ok (.ireturn, 1) := by decide +kernel
theorem dL_members_15 : decode cL_members 15 = .ok (.iconst 0, 1) := by decide +kernel
theorem dL_members_16 : decode cL_members 16 = .ok (.ireturn, 1) := by decide +kernel
theorem dL_memberAt_0 : decode cL_memberAt 0 = .ok (.aload_n 3, 1) := by decide +kernel
theorem dL_memberAt_1 : decode cL_memberAt 1 = .ok (.iconst 0, 1) := by decide +kernel
theorem dL_memberAt_2 : decode cL_memberAt 2 = .ok (.aload_n 0, 1) := by decide +kernel
theorem dL_memberAt_3 : decode cL_memberAt 3 = .ok (.iload_n 1, 1) := by decide +kernel
theorem dL_memberAt_4 : decode cL_memberAt 4 = .ok (.iload_n 2, 1) := by decide +kernel
theorem dL_memberAt_5 : decode cL_memberAt 5 = .ok (.invokevirtual 44, 3) := by decide +kernel
theorem dL_memberAt_8 : decode cL_memberAt 8 = .ok (.i2l, 1) := by decide +kernel
theorem dL_memberAt_9 : decode cL_memberAt 9 = .ok (.lastore, 1) := by decide +kernel
theorem dL_memberAt_10 : decode cL_memberAt 10 = .ok (.goto 11, 3) := by decide +kernel
theorem dL_memberAt_13 : decode cL_memberAt 13 = .ok (.astore 4, 2) := by decide +kernel
theorem dL_memberAt_15 : decode cL_memberAt 15 = .ok (.iconst 1, 1) := by decide +kernel
theorem dL_memberAt_16 : decode cL_memberAt 16 = .ok (.ireturn, 1) := by decide +kernel
theorem dL_memberAt_17 : decode cL_memberAt 17 = .ok (.astore 4, 2) := by decide +kernel
theorem dL_memberAt_19 : decode cL_memberAt 19 = .ok (.iconst 2, 1) := by decide +kernel
theorem dL_memberAt_20 : decode cL_memberAt 20 = .ok (.ireturn, 1) := by decide +kernel
theorem dL_memberAt_21 : decode cL_memberAt 21 = .ok (.iconst 0, 1) := by decide +kernel
theorem dL_memberAt_22 : decode cL_memberAt 22 = .ok (.ireturn, 1) := by decide +kernel
theorem dL_order_0 : decode cL_order 0 = .ok (.aload 5, 2) := by decide +kernel
theorem dL_order_2 : decode cL_order 2 = .ok (.iconst 0, 1) := by decide +kernel
theorem dL_order_3 : decode cL_order 3 = .ok (.aload_n 0, 1) := by decide +kernel
theorem dL_order_4 : decode cL_order 4 = .ok (.iload_n 1, 1) := by decide +kernel
theorem dL_order_5 : decode cL_order 5 = .ok (.iload_n 2, 1) := by decide +kernel
theorem dL_order_6 : decode cL_order 6 = .ok (.iload_n 3, 1) := by decide +kernel
theorem dL_order_7 : decode cL_order 7 = .ok (.iload 4, 2) := by decide +kernel
theorem dL_order_9 : decode cL_order 9 = .ok (.invokevirtual 48, 3) := by decide +kernel
theorem dL_order_12 : decode cL_order 12 = .ok (.i2l, 1) := by decide +kernel
theorem dL_order_13 : decode cL_order 13 = .ok (.lastore, 1) := by decide +kernel
theorem dL_order_14 : decode cL_order 14 = .ok (.goto 7, 3) := by decide +kernel
theorem dL_order_17 : decode cL_order 17 = .ok (.astore 6, 2) := by decide +kernel
theorem dL_order_19 : decode cL_order 19 = .ok (.iconst 1, 1) := by decide +kernel
theorem dL_order_20 : decode cL_order 20 = .ok (.ireturn, 1) := by decide +kernel
theorem dL_order_21 : decode cL_order 21 = .ok (.iconst 0, 1) := by decide +kernel
theorem dL_order_22 : decode cL_order 22 = .ok (.ireturn, 1) := by decide +kernel
theorem dL_lock_0 : decode cL_lock 0 = .ok (.aload 7, 2) := by decide +kernel
theorem dL_lock_2 : decode cL_lock 2 = .ok (.iconst 0, 1) := by decide +kernel
theorem dL_lock_3 : decode cL_lock 3 = .ok (.aload_n 0, 1) := by decide +kernel
theorem dL_lock_4 : decode cL_lock 4 = .ok (.iload_n 1, 1) := by decide +kernel
theorem dL_lock_5 : decode cL_lock 5 = .ok (.iload_n 2, 1) := by decide +kernel
theorem dL_lock_6 : decode cL_lock 6 = .ok (.iload_n 3, 1) := by decide +kernel
theorem dL_lock_7 : decode cL_lock 7 = .ok (.iload 4, 2) := by decide +kernel
theorem dL_lock_9 : decode cL_lock 9 = .ok (.iload 5, 2) := by decide +kernel
theorem dL_lock_11 : decode cL_lock 11 = .ok (.iload 6, 2) := by decide +kernel
theorem dL_lock_13 : decode cL_lock 13 = .ok (.invokevirtual 52, 3) := by decide +kernel
theorem dL_lock_16 : decode cL_lock 16 = .ok (.i2l, 1) := by decide +kernel
theorem dL_lock_17 : decode cL_lock 17 = .ok (.lastore, 1) := by decide +kernel
theorem dL_lock_18 : decode cL_lock 18 = .ok (.goto 11, 3) := by decide +kernel
theorem dL_lock_21 : decode cL_lock 21 = .ok (.astore 8, 2) := by decide +kernel
theorem dL_lock_23 : decode cL_lock 23 = .ok (.iconst 1, 1) := by decide +kernel
theorem dL_lock_24 : decode cL_lock 24 = .ok (.ireturn, 1) := by decide +kernel
theorem dL_lock_25 : decode cL_lock 25 = .ok (.astore 8, 2) := by decide +kernel
theorem dL_lock_27 : decode cL_lock 27 = .ok (.iconst 2, 1) := by decide +kernel
theorem dL_lock_28 : decode cL_lock 28 = .ok (.ireturn, 1) := by decide +kernel
theorem dL_lock_29 : decode cL_lock 29 = .ok (.iconst 0, 1) := by decide +kernel
theorem dL_lock_30 : decode cL_lock 30 = .ok (.ireturn, 1) := by decide +kernel
theorem dL_refresh_0 : decode cL_refresh 0 = .ok (.aload 4, 2) := by decide +kernel
theorem dL_refresh_2 : decode cL_refresh 2 = .ok (.iconst 0, 1) := by decide +kernel
theorem dL_refresh_3 : decode cL_refresh 3 = .ok (.aload_n 0, 1) := by decide +kernel
theorem dL_refresh_4 : decode cL_refresh 4 = .ok (.iload_n 1, 1) := by decide +kernel
theorem dL_refresh_5 : decode cL_refresh 5 = .ok (.iload_n 2, 1) := by decide +kernel
theorem dL_refresh_6 : decode cL_refresh 6 = .ok (.iload_n 3, 1) := by decide +kernel
theorem dL_refresh_7 : decode cL_refresh 7 = .ok (.invokevirtual 58, 3) := by decide +kernel
theorem dL_refresh_10 : decode cL_refresh 10 = .ok (.i2l, 1) := by decide +kernel
theorem dL_refresh_11 : decode cL_refresh 11 = .ok (.lastore, 1) := by decide +kernel
theorem dL_refresh_12 : decode cL_refresh 12 = .ok (.goto 15, 3) := by decide +kernel
theorem dL_refresh_15 : decode cL_refresh 15 = .ok (.astore 5, 2) := by decide +kernel
theorem dL_refresh_17 : decode cL_refresh 17 = .ok (.iconst 1, 1) := by decide +kernel
theorem dL_refresh_18 : decode cL_refresh 18 = .ok (.ireturn, 1) := by decide +kernel
theorem dL_refresh_19 : decode cL_refresh 19 = .ok (.astore 5, 2) := by decide +kernel
theorem dL_refresh_21 : decode cL_refresh 21 = .ok (.iconst 2, 1) := by decide +kernel
theorem dL_refresh_22 : decode cL_refresh 22 = .ok (.ireturn, 1) := by decide +kernel
theorem dL_refresh_23 : decode cL_refresh 23 = .ok (.astore 5, 2) := by decide +kernel
theorem dL_refresh_25 : decode cL_refresh 25 = .ok (.iconst 3, 1) := by decide +kernel
theorem dL_refresh_26 : decode cL_refresh 26 = .ok (.ireturn, 1) := by decide +kernel
theorem dL_refresh_27 : decode cL_refresh 27 = .ok (.iconst 0, 1) := by decide +kernel
theorem dL_refresh_28 : decode cL_refresh 28 = .ok (.ireturn, 1) := by decide +kernel
theorem dL_pass_0 : decode cL_pass 0 = .ok (.aload_n 2, 1) := by decide +kernel
theorem dL_pass_1 : decode cL_pass 1 = .ok (.iconst 0, 1) := by decide +kernel
theorem dL_pass_2 : decode cL_pass 2 = .ok (.aload_n 0, 1) := by decide +kernel
theorem dL_pass_3 : decode cL_pass 3 = .ok (.iload_n 1, 1) := by decide +kernel
theorem dL_pass_4 : decode cL_pass 4 = .ok (.invokevirtual 61, 3) := by decide +kernel
theorem dL_pass_7 : decode cL_pass 7 = .ok (.i2l, 1) := by decide +kernel
theorem dL_pass_8 : decode cL_pass 8 = .ok (.lastore, 1) := by decide +kernel
theorem dL_pass_9 : decode cL_pass 9 = .ok (.goto 9, 3) := by decide +kernel
theorem dL_pass_12 : decode cL_pass 12 = .ok (.astore_n 3, 1) := by decide +kernel
theorem dL_pass_13 : decode cL_pass 13 = .ok (.iconst 1, 1) := by decide +kernel
theorem dL_pass_14 : decode cL_pass 14 = .ok (.ireturn, 1) := by decide +kernel
theorem dL_pass_15 : decode cL_pass 15 = .ok (.astore_n 3, 1) := by decide +kernel
theorem dL_pass_16 : decode cL_pass 16 = .ok (.iconst 2, 1) := by decide +kernel
theorem dL_pass_17 : decode cL_pass 17 = .ok (.ireturn, 1) := by decide +kernel
theorem dL_pass_18 : decode cL_pass 18 = .ok (.iconst 0, 1) := by decide +kernel
theorem dL_pass_19 : decode cL_pass 19 = .ok (.ireturn, 1) := by decide +kernel
theorem dL_covering_0 : decode cL_covering 0 = .ok (.aload_n 2, 1) := by decide +kernel
theorem dL_covering_1 : decode cL_covering 1 = .ok (.iconst 0, 1) := by decide +kernel
theorem dL_covering_2 : decode cL_covering 2 = .ok (.aload_n 0, 1) := by decide +kernel
theorem dL_covering_3 : decode cL_covering 3 = .ok (.iload_n 1, 1) := by decide +kernel
theorem dL_covering_4 : decode cL_covering 4 = .ok (.invokevirtual 64, 3) := by decide +kernel
theorem dL_covering_7 : decode cL_covering 7 = .ok (.i2l, 1) := by decide +kernel
theorem dL_covering_8 : decode cL_covering 8 = .ok (.lastore, 1) := by decide +kernel
theorem dL_covering_9 : decode cL_covering 9 = .ok (.goto 6, 3) := by decide +kernel
theorem dL_covering_12 : decode cL_covering 12 = .ok (.astore_n 3, 1) := by decide +kernel
theorem dL_covering_13 : decode cL_covering 13 = .ok (.iconst 1, 1) := by decide +kernel
theorem dL_covering_14 : decode cL_covering 14 = .ok (.ireturn, 1) := by decide +kernel
theorem dL_covering_15 : decode cL_covering 15 = .ok (.iconst 0, 1) := by decide +kernel
theorem dL_covering_16 : decode cL_covering 16 = .ok (.ireturn, 1) := by decide +kernel
theorem dL_mayChange_0 : decode cL_mayChange 0 = .ok (.aload 4, 2) := by decide +kernel
theorem dL_mayChange_2 : decode cL_mayChange 2 = .ok (.iconst 0, 1) := by decide +kernel
theorem dL_mayChange_3 : decode cL_mayChange 3 = .ok (.aload_n 0, 1) := by decide +kernel
theorem dL_mayChange_4 : decode cL_mayChange 4 = .ok (.iload_n 1, 1) := by decide +kernel
theorem dL_mayChange_5 : decode cL_mayChange 5 = .ok (.iload_n 2, 1) := by decide +kernel
theorem dL_mayChange_6 : decode cL_mayChange 6 = .ok (.iload_n 3, 1) := by decide +kernel
theorem dL_mayChange_7 : decode cL_mayChange 7 = .ok (.invokevirtual 67, 3) := by decide +kernel
theorem dL_mayChange_10 : decode cL_mayChange 10 = .ok (.ifCond .eq 7, 3) := by decide +kernel
theorem dL_mayChange_13 : decode cL_mayChange 13 = .ok (.lconst 1, 1) := by decide +kernel
theorem dL_mayChange_14 : decode cL_mayChange 14 = .ok (.goto 4, 3) := by decide +kernel
theorem dL_mayChange_17 : decode cL_mayChange 17 = .ok (.lconst 0, 1) := by decide +kernel
theorem dL_mayChange_18 : decode cL_mayChange 18 = .ok (.lastore, 1) := by decide +kernel
theorem dL_mayChange_19 : decode cL_mayChange 19 = .ok (.goto 7, 3) := by decide +kernel
theorem dL_mayChange_22 : decode cL_mayChange 22 = .ok (.astore 5, 2) := by decide +kernel
theorem dL_mayChange_24 : decode cL_mayChange 24 = .ok (.iconst 1, 1) := by decide +kernel
theorem dL_mayChange_25 : decode cL_mayChange 25 = .ok (.ireturn, 1) := by decide +kernel
theorem dL_mayChange_26 : decode cL_mayChange 26 = .ok (.iconst 0, 1) := by decide +kernel
theorem dL_mayChange_27 : decode cL_mayChange 27 = .ok (.ireturn, 1) := by decide +kernel
theorem dL_keep_0 : decode cL_keep 0 = .ok (.aload_n 2, 1) := by decide +kernel
theorem dL_keep_1 : decode cL_keep 1 = .ok (.iconst 0, 1) := by decide +kernel
theorem dL_keep_2 : decode cL_keep 2 = .ok (.aload_n 0, 1) := by decide +kernel
theorem dL_keep_3 : decode cL_keep 3 = .ok (.iload_n 1, 1) := by decide +kernel
theorem dL_keep_4 : decode cL_keep 4 = .ok (.invokevirtual 71, 3) := by decide +kernel
theorem dL_keep_7 : decode cL_keep 7 = .ok (.i2l, 1) := by decide +kernel
theorem dL_keep_8 : decode cL_keep 8 = .ok (.lastore, 1) := by decide +kernel
theorem dL_keep_9 : decode cL_keep 9 = .ok (.goto 9, 3) := by decide +kernel
theorem dL_keep_12 : decode cL_keep 12 = .ok (.astore_n 3, 1) := by decide +kernel
theorem dL_keep_13 : decode cL_keep 13 = .ok (.iconst 1, 1) := by decide +kernel
theorem dL_keep_14 : decode cL_keep 14 = .ok (.ireturn, 1) := by decide +kernel
theorem dL_keep_15 : decode cL_keep 15 = .ok (.astore_n 3, 1) := by decide +kernel
theorem dL_keep_16 : decode cL_keep 16 = .ok (.iconst 2, 1) := by decide +kernel
theorem dL_keep_17 : decode cL_keep 17 = .ok (.ireturn, 1) := by decide +kernel
theorem dL_keep_18 : decode cL_keep 18 = .ok (.iconst 0, 1) := by decide +kernel
theorem dL_keep_19 : decode cL_keep 19 = .ok (.ireturn, 1) := by decide +kernel
theorem dL_restore_0 : decode cL_restore 0 = .ok (.aload 5, 2) := by decide +kernel
theorem dL_restore_2 : decode cL_restore 2 = .ok (.iconst 0, 1) := by decide +kernel
theorem dL_restore_3 : decode cL_restore 3 = .ok (.aload_n 0, 1) := by decide +kernel
theorem dL_restore_4 : decode cL_restore 4 = .ok (.iload_n 1, 1) := by decide +kernel
theorem dL_restore_5 : decode cL_restore 5 = .ok (.iload_n 2, 1) := by decide +kernel
theorem dL_restore_6 : decode cL_restore 6 = .ok (.iload_n 3, 1) := by decide +kernel
theorem dL_restore_7 : decode cL_restore 7 = .ok (.iload 4, 2) := by decide +kernel
theorem dL_restore_9 : decode cL_restore 9 = .ok (.invokevirtual 74, 3) := by decide +kernel
theorem dL_restore_12 : decode cL_restore 12 = .ok (.i2l, 1) := by decide +kernel
theorem dL_restore_13 : decode cL_restore 13 = .ok (.lastore, 1) := by decide +kernel
theorem dL_restore_14 : decode cL_restore 14 = .ok (.goto 7, 3) := by decide +kernel
theorem dL_restore_17 : decode cL_restore 17 = .ok (.astore 6, 2) := by decide +kernel
theorem dL_restore_19 : decode cL_restore 19 = .ok (.iconst 1, 1) := by decide +kernel
theorem dL_restore_20 : decode cL_restore 20 = .ok (.ireturn, 1) := by decide +kernel
theorem dL_restore_21 : decode cL_restore 21 = .ok (.iconst 0, 1) := by decide +kernel
theorem dL_restore_22 : decode cL_restore 22 = .ok (.ireturn, 1) := by decide +kernel
end
section
theorem q1 : (.selects RX3 yX3_isCollection yX3_isCollection : Cond) ∈ wsA := inA (k := 1) (by decide +kernel) rfl
theorem q2 : (.selects RX3 yX3_kindAt yX3_kindAt : Cond) ∈ wsA := inA (k := 2) (by decide +kernel) rfl
theorem q3 : (.selects RX3 yX3_find yX3_find : Cond) ∈ wsA := inA (k := 3) (by decide +kernel) rfl
theorem q4 : (.selects RX3 yX3_indexOf yX3_indexOf : Cond) ∈ wsA := inA (k := 4) (by decide +kernel) rfl
theorem q5 : (.selects RX4 yX4_allowsWithParent yX4_allowsWithParent : Cond) ∈ wsA := inA (k := 5) (by decide +kernel) rfl
theorem q6 : (.selects RX1 yX1_allows yX1_allows : Cond) ∈ wsA := inA (k := 6) (by decide +kernel) rfl
theorem q7 : (.selects RX1 yX1_tokensOver yX1_tokensOver : Cond) ∈ wsA := inA (k := 7) (by decide +kernel) rfl
theorem q8 : (.selects RX1 yX1_find yX1_find : Cond) ∈ wsA := inA (k := 8) (by decide +kernel) rfl
theorem q9 : (.selects RX0 yX0_covers yX0_covers : Cond) ∈ wsA := inA (k := 9) (by decide +kernel) rfl
theorem q10 : (.selects RX3 yX3_append yX3_append : Cond) ∈ wsA := inA (k := 10) (by decide +kernel) rfl
theorem q11 : (.selects RX2 yX2_begin yX2_begin : Cond) ∈ wsA := inA (k := 11) (by decide +kernel) rfl
theorem q12 : (.selects RX4 yX4_outcomeOfWriting yX4_outcomeOfWriting : Cond) ∈ wsA := inA (k := 12) (by decide +kernel) rfl
theorem q13 : (.selects RX3 yX3_findFile yX3_findFile : Cond) ∈ wsA := inA (k := 13) (by decide +kernel) rfl
theorem q14 : (.selects RX4 yX4_write yX4_write : Cond) ∈ wsA := inA (k := 14) (by decide +kernel) rfl
theorem q15 : (.selects RX4 yX4_noteFailures yX4_noteFailures : Cond) ∈ wsA := inA (k := 15) (by decide +kernel) rfl
theorem q16 : (.selects RX4 yX4_insertFailure yX4_insertFailure : Cond) ∈ wsA := inA (k := 16) (by decide +kernel) rfl
theorem q17 : (.selects RX3 yX3_markTree yX3_markTree : Cond) ∈ wsA := inA (k := 17) (by decide +kernel) rfl
theorem q18 : (.selects RX4 yX4_spareFailures yX4_spareFailures : Cond) ∈ wsA := inA (k := 18) (by decide +kernel) rfl
theorem q19 : (.selects RX3 yX3_spareUpFrom yX3_spareUpFrom : Cond) ∈ wsA := inA (k := 19) (by decide +kernel) rfl
theorem q20 : (.selects RX4 yX4_removeMarked yX4_removeMarked : Cond) ∈ wsA := inA (k := 20) (by decide +kernel) rfl
theorem q21 : (.selects RX1 yX1_dropAt yX1_dropAt : Cond) ∈ wsA := inA (k := 21) (by decide +kernel) rfl
theorem q22 : (.selects RX3 yX3_removeMarked yX3_removeMarked : Cond) ∈ wsA := inA (k := 22) (by decide +kernel) rfl
theorem q23 : (.selects RX4 yX4_outcomeOfTarget yX4_outcomeOfTarget : Cond) ∈ wsA := inA (k := 23) (by decide +kernel) rfl
theorem q24 : (.selects RX3 yX3_fits yX3_fits : Cond) ∈ wsA := inA (k := 24) (by decide +kernel) rfl
theorem q25 : (.selects RX4 yX4_allowsTree yX4_allowsTree : Cond) ∈ wsA := inA (k := 25) (by decide +kernel) rfl
theorem q26 : (.selects RX3 yX3_treeSize yX3_treeSize : Cond) ∈ wsA := inA (k := 26) (by decide +kernel) rfl
theorem q27 : (.selects RX4 yX4_removeTree yX4_removeTree : Cond) ∈ wsA := inA (k := 27) (by decide +kernel) rfl
theorem q28 : (.selects RX3 yX3_appendCopyOfTree yX3_appendCopyOfTree : Cond) ∈ wsA := inA (k := 28) (by decide +kernel) rfl
theorem q29 : (.selects RX4 yX4_dropLocksOfTree yX4_dropLocksOfTree : Cond) ∈ wsA := inA (k := 29) (by decide +kernel) rfl
theorem q30 : (.selects RX3 yX3_renameTree yX3_renameTree : Cond) ∈ wsA := inA (k := 30) (by decide +kernel) rfl
theorem q31 : (.selects RX3 yX3_placeMember yX3_placeMember : Cond) ∈ wsA := inA (k := 31) (by decide +kernel) rfl
theorem q32 : (.selects RX3 yX3_shift yX3_shift : Cond) ∈ wsA := inA (k := 32) (by decide +kernel) rfl
theorem q33 : (.selects RX3 yX3_memberIndex yX3_memberIndex : Cond) ∈ wsA := inA (k := 33) (by decide +kernel) rfl
theorem q34 : (.selects RX3 yX3_memberCount yX3_memberCount : Cond) ∈ wsA := inA (k := 34) (by decide +kernel) rfl
theorem q35 : (.selects RX1 yX1_bar yX1_bar : Cond) ∈ wsA := inA (k := 35) (by decide +kernel) rfl
theorem q36 : (.selects RX1 yX1_add yX1_add : Cond) ∈ wsA := inA (k := 36) (by decide +kernel) rfl
theorem q37 : (.selects RX1 yX1_advance yX1_advance : Cond) ∈ wsA := inA (k := 37) (by decide +kernel) rfl
theorem q38 : (.selects RX2 yX2_addVersion yX2_addVersion : Cond) ∈ wsA := inA (k := 38) (by decide +kernel) rfl
theorem q39 : (.selects RX2 yX2_hasVersion yX2_hasVersion : Cond) ∈ wsA := inA (k := 39) (by decide +kernel) rfl
theorem q40 : (.selects RX2 yX2_takeVersion yX2_takeVersion : Cond) ∈ wsA := inA (k := 40) (by decide +kernel) rfl
theorem q41 : (.selects RX5 yX5_isRight yX5_isRight : Cond) ∈ wsA := inA (k := 41) (by decide +kernel) rfl
theorem q42 : (.selects RX5 yX5_kinds yX5_kinds : Cond) ∈ wsA := inA (k := 42) (by decide +kernel) rfl
theorem q43 : (.selects RX5 yX5_place yX5_place : Cond) ∈ wsA := inA (k := 43) (by decide +kernel) rfl
theorem q44 : (.selects RX5 yX5_mayMake yX5_mayMake : Cond) ∈ wsA := inA (k := 44) (by decide +kernel) rfl
theorem q45 : (.selects RX5 yX5_may yX5_may : Cond) ∈ wsA := inA (k := 45) (by decide +kernel) rfl
theorem q46 : (.selects RX5 yX5_set yX5_set : Cond) ∈ wsA := inA (k := 46) (by decide +kernel) rfl
theorem q47 : (.selects RX5 yX5_covers yX5_covers : Cond) ∈ wsA := inA (k := 47) (by decide +kernel) rfl
theorem q48 : (.selects RX5 yX5_isOn yX5_isOn : Cond) ∈ wsA := inA (k := 48) (by decide +kernel) rfl
theorem q49 : (.selects RX5 yX5_count yX5_count : Cond) ∈ wsA := inA (k := 49) (by decide +kernel) rfl
theorem q50 : (.selects RX5 yX5_makes yX5_makes : Cond) ∈ wsA := inA (k := 50) (by decide +kernel) rfl
theorem q51 : (.selects RX5 yX5_puts yX5_puts : Cond) ∈ wsA := inA (k := 51) (by decide +kernel) rfl
theorem q52 : (.selects RX5 yX5_isOf yX5_isOf : Cond) ∈ wsA := inA (k := 52) (by decide +kernel) rfl
theorem q53 : (.selects RX5 yX5_goes yX5_goes : Cond) ∈ wsA := inA (k := 53) (by decide +kernel) rfl
theorem q54 : (.selects RX5 yX5_brings yX5_brings : Cond) ∈ wsA := inA (k := 54) (by decide +kernel) rfl
theorem q55 : (.selects RX5 yX5_mayAll yX5_mayAll : Cond) ∈ wsA := inA (k := 55) (by decide +kernel) rfl
theorem q56 : (.selects RX5 yX5_carries yX5_carries : Cond) ∈ wsA := inA (k := 56) (by decide +kernel) rfl
theorem q57 : (.selects RX5 yX5_lowest yX5_lowest : Cond) ∈ wsA := inA (k := 57) (by decide +kernel) rfl
theorem q58 : (.selects RX5 yX5_asks yX5_asks : Cond) ∈ wsA := inA (k := 58) (by decide +kernel) rfl
theorem q59 : (.selects RX5 yX5_membersOf yX5_membersOf : Cond) ∈ wsA := inA (k := 59) (by decide +kernel) rfl
theorem q60 : (.selects RX5 yX5_isMember yX5_isMember : Cond) ∈ wsA := inA (k := 60) (by decide +kernel) rfl
theorem q61 : (.selects RX5 yX5_memberOf yX5_memberOf : Cond) ∈ wsA := inA (k := 61) (by decide +kernel) rfl
theorem q62 : (.selects RX5 yX5_clashes yX5_clashes : Cond) ∈ wsA := inA (k := 62) (by decide +kernel) rfl
theorem q63 : (.initialized RL : Cond) ∈ wsA := inA (k := 63) (by decide +kernel) rfl
theorem q64 : (.initialized RX4 : Cond) ∈ wsA := inA (k := 64) (by decide +kernel) rfl
theorem q65 : (.initialized RX3 : Cond) ∈ wsA := inA (k := 65) (by decide +kernel) rfl
theorem q66 : (.initialized RX2 : Cond) ∈ wsA := inA (k := 66) (by decide +kernel) rfl
theorem q67 : (.initialized RX1 : Cond) ∈ wsA := inA (k := 67) (by decide +kernel) rfl
theorem q68 : (.initialized RX0 : Cond) ∈ wsA := inA (k := 68) (by decide +kernel) rfl
theorem q69 : (.initialized RX5 : Cond) ∈ wsA := inA (k := 69) (by decide +kernel) rfl
theorem q73 : (.initialized "java/lang/IllegalArgumentException" : Cond) ∈ wsA := inA (k := 73) (by decide +kernel) rfl
theorem q74 : (.initialized "java/lang/IndexOutOfBoundsException" : Cond) ∈ wsA := inA (k := 74) (by decide +kernel) rfl
theorem q75 : (.initialized "java/lang/IllegalStateException" : Cond) ∈ wsA := inA (k := 75) (by decide +kernel) rfl
theorem q76 : (.classLink RL 8 RX4 : Cond) ∈ wsA := inA (k := 76) (by decide +kernel) rfl
theorem q77 : (.instantiable RX4 4 : Cond) ∈ wsA := inA (k := 77) (by decide +kernel) rfl
theorem q78 : (.methodLink RL 77 yX4_init : Cond) ∈ wsA := inA (k := 78) (by decide +kernel) rfl
theorem q79 : (.instanceMethod yX4_init : Cond) ∈ wsA := inA (k := 79) (by decide +kernel) rfl
theorem q80 : (.code yX4_init cX4_init 1 (none : Option Jvm.ClassFile.FieldType) : Cond) ∈ wsA := inA (k := 80) (by decide +kernel) rfl
theorem q81 : (.methodLink RX4 1 objectInit : Cond) ∈ wsA := inA (k := 81) (by decide +kernel) rfl
theorem q82 : (.instanceMethod objectInit : Cond) ∈ wsA := inA (k := 82) (by decide +kernel) rfl
theorem q83 : (.code objectInit object_method_1_code 1 (none : Option Jvm.ClassFile.FieldType) : Cond) ∈ wsA := inA (k := 83) (by decide +kernel) rfl
theorem q84 : (.classLink RX4 7 RX3 : Cond) ∈ wsA := inA (k := 84) (by decide +kernel) rfl
theorem q85 : (.instantiable RX3 2 : Cond) ∈ wsA := inA (k := 85) (by decide +kernel) rfl
theorem q87 : (.instanceMethod yX3_init : Cond) ∈ wsA := inA (k := 87) (by decide +kernel) rfl
theorem q88 : (.code yX3_init cX3_init 2 (none : Option Jvm.ClassFile.FieldType) : Cond) ∈ wsA := inA (k := 88) (by decide +kernel) rfl
theorem q89 : (.methodLink RX3 3 objectInit : Cond) ∈ wsA := inA (k := 89) (by decide +kernel) rfl
theorem q90 : (.classLink RX3 9 RX2 : Cond) ∈ wsA := inA (k := 90) (by decide +kernel) rfl
theorem q92 : (.instantiable RX2 6 : Cond) ∈ wsA := inA (k := 92) (by decide +kernel) rfl
theorem q94 : (.instanceMethod yX2_init : Cond) ∈ wsA := inA (k := 94) (by decide +kernel) rfl
theorem q95 : (.code yX2_init cX2_init 1 (none : Option Jvm.ClassFile.FieldType) : Cond) ∈ wsA := inA (k := 95) (by decide +kernel) rfl
theorem q96 : (.methodLink RX2 3 objectInit : Cond) ∈ wsA := inA (k := 96) (by decide +kernel) rfl
theorem q97 : (.fieldLink RX2 15 "ShelfServer$Resource" "path" "I" : Cond) ∈ wsA := inA (k := 97) (by decide +kernel) rfl
theorem q100 : (.fieldLink RX2 19 "ShelfServer$Resource" "kind" "I" : Cond) ∈ wsA := inA (k := 100) (by decide +kernel) rfl
theorem q102 : (.fieldLink RX2 22 "ShelfServer$Resource" "content" "I" : Cond) ∈ wsA := inA (k := 102) (by decide +kernel) rfl
theorem q105 : (.fieldLink RX2 25 "ShelfServer$Resource" "isGoing" "Z" : Cond) ∈ wsA := inA (k := 105) (by decide +kernel) rfl
theorem q108 : (.fieldLink RX2 9 "ShelfServer$Resource" "versions" "[I" : Cond) ∈ wsA := inA (k := 108) (by decide +kernel) rfl
theorem q109 : (.fieldLink RX2 29 "ShelfServer$Resource" "versionCount" "I" : Cond) ∈ wsA := inA (k := 109) (by decide +kernel) rfl
theorem q124 : (.arrayClass .int : Cond) ∈ wsA := inA (k := 124) (by decide +kernel) rfl
theorem q125 : (.fieldLink RX3 11 "ShelfServer$Shelf" "row" "[LShelfServer$Resource;" : Cond) ∈ wsA := inA (k := 125) (by decide +kernel) rfl
theorem q127 : (.fieldLink RX3 18 "ShelfServer$Shelf" "count" "I" : Cond) ∈ wsA := inA (k := 127) (by decide +kernel) rfl
theorem q134 : (.classLink RX4 16 RX1 : Cond) ∈ wsA := inA (k := 134) (by decide +kernel) rfl
theorem q135 : (.instantiable RX1 3 : Cond) ∈ wsA := inA (k := 135) (by decide +kernel) rfl
theorem q137 : (.instanceMethod yX1_init : Cond) ∈ wsA := inA (k := 137) (by decide +kernel) rfl
theorem q138 : (.code yX1_init cX1_init 2 (none : Option Jvm.ClassFile.FieldType) : Cond) ∈ wsA := inA (k := 138) (by decide +kernel) rfl
theorem q139 : (.methodLink RX1 3 objectInit : Cond) ∈ wsA := inA (k := 139) (by decide +kernel) rfl
theorem q140 : (.classLink RX1 9 RX0 : Cond) ∈ wsA := inA (k := 140) (by decide +kernel) rfl
theorem q142 : (.instantiable RX0 5 : Cond) ∈ wsA := inA (k := 142) (by decide +kernel) rfl
theorem q144 : (.instanceMethod yX0_init : Cond) ∈ wsA := inA (k := 144) (by decide +kernel) rfl
theorem q145 : (.code yX0_init cX0_init 1 (none : Option Jvm.ClassFile.FieldType) : Cond) ∈ wsA := inA (k := 145) (by decide +kernel) rfl
theorem q146 : (.methodLink RX0 1 objectInit : Cond) ∈ wsA := inA (k := 146) (by decide +kernel) rfl
theorem q149 : (.fieldLink RX0 7 "ShelfServer$Lock" "path" "I" : Cond) ∈ wsA := inA (k := 149) (by decide +kernel) rfl
theorem q152 : (.fieldLink RX0 13 "ShelfServer$Lock" "isDeep" "Z" : Cond) ∈ wsA := inA (k := 152) (by decide +kernel) rfl
theorem q167 : (.fieldLink RX1 11 "ShelfServer$Locks" "row" "[LShelfServer$Lock;" : Cond) ∈ wsA := inA (k := 167) (by decide +kernel) rfl
theorem q168 : (.fieldLink RX1 18 "ShelfServer$Locks" "count" "I" : Cond) ∈ wsA := inA (k := 168) (by decide +kernel) rfl
theorem q170 : (.fieldLink RX1 22 "ShelfServer$Locks" "now" "I" : Cond) ∈ wsA := inA (k := 170) (by decide +kernel) rfl
theorem q179 : (.fieldLink RX4 10 "ShelfServer" "shelf" "LShelfServer$Shelf;" : Cond) ∈ wsA := inA (k := 179) (by decide +kernel) rfl
theorem q180 : (.fieldLink RX4 19 "ShelfServer" "locks" "LShelfServer$Locks;" : Cond) ∈ wsA := inA (k := 180) (by decide +kernel) rfl
theorem q181 : (.fieldLink RX4 23 "ShelfServer" "failed" "[I" : Cond) ∈ wsA := inA (k := 181) (by decide +kernel) rfl
theorem q182 : (.fieldLink RX4 27 "ShelfServer" "failedCount" "I" : Cond) ∈ wsA := inA (k := 182) (by decide +kernel) rfl
theorem q192 : (.methodLink RL 98 yX4_failures : Cond) ∈ wsA := inA (k := 192) (by decide +kernel) rfl
theorem q193 : (.instanceMethod yX4_failures : Cond) ∈ wsA := inA (k := 193) (by decide +kernel) rfl
theorem q194 : (.selects RX4 yX4_failures yX4_failures : Cond) ∈ wsA := inA (k := 194) (by decide +kernel) rfl
theorem q195 : (.code yX4_failures cX4_failures 1 (some .int) : Cond) ∈ wsA := inA (k := 195) (by decide +kernel) rfl
theorem q196 : (.methodLink RL 119 yX4_resources : Cond) ∈ wsA := inA (k := 196) (by decide +kernel) rfl
theorem q197 : (.instanceMethod yX4_resources : Cond) ∈ wsA := inA (k := 197) (by decide +kernel) rfl
theorem q198 : (.selects RX4 yX4_resources yX4_resources : Cond) ∈ wsA := inA (k := 198) (by decide +kernel) rfl
theorem q199 : (.code yX4_resources cX4_resources 1 (some .int) : Cond) ∈ wsA := inA (k := 199) (by decide +kernel) rfl
theorem q200 : (.methodLink RL 81 yL_makeCollection : Cond) ∈ wsA := inA (k := 200) (by decide +kernel) rfl
theorem q201 : (.static yL_makeCollection : Cond) ∈ wsA := inA (k := 201) (by decide +kernel) rfl
theorem q202 : (.codeWith yL_makeCollection cL_makeCollection 6 (some .int) [(0, 12, 15, 13)] : Cond) ∈ wsA := inA (k := 202) (by decide +kernel) rfl
theorem q203 : (.classLink RL 13 "java/lang/IllegalArgumentException" : Cond) ∈ wsA := inA (k := 203) (by decide +kernel) rfl
theorem q204 : (.methodLink RL 7 yX4_makeCollection : Cond) ∈ wsA := inA (k := 204) (by decide +kernel) rfl
theorem q205 : (.instanceMethod yX4_makeCollection : Cond) ∈ wsA := inA (k := 205) (by decide +kernel) rfl
theorem q206 : (.selects RX4 yX4_makeCollection yX4_makeCollection : Cond) ∈ wsA := inA (k := 206) (by decide +kernel) rfl
theorem q207 : (.code yX4_makeCollection cX4_makeCollection 4 (some .int) : Cond) ∈ wsA := inA (k := 207) (by decide +kernel) rfl
theorem q208 : (.methodLink RX4 31 yX4_requireClient : Cond) ∈ wsA := inA (k := 208) (by decide +kernel) rfl
theorem q209 : (.static yX4_requireClient : Cond) ∈ wsA := inA (k := 209) (by decide +kernel) rfl
theorem q210 : (.code yX4_requireClient cX4_requireClient 1 (none : Option Jvm.ClassFile.FieldType) : Cond) ∈ wsA := inA (k := 210) (by decide +kernel) rfl
theorem q211 : (.methodLink RX4 64 yX4_requireRange : Cond) ∈ wsA := inA (k := 211) (by decide +kernel) rfl
theorem q212 : (.static yX4_requireRange : Cond) ∈ wsA := inA (k := 212) (by decide +kernel) rfl
theorem q213 : (.code yX4_requireRange cX4_requireRange 3 (none : Option Jvm.ClassFile.FieldType) : Cond) ∈ wsA := inA (k := 213) (by decide +kernel) rfl
theorem q214 : (.classLink RX4 218 "java/lang/IllegalArgumentException" : Cond) ∈ wsA := inA (k := 214) (by decide +kernel) rfl
theorem q215 : (.instantiable "java/lang/IllegalArgumentException" 6 : Cond) ∈ wsA := inA (k := 215) (by decide +kernel) rfl
theorem q239 : (.methodLink "java/lang/Throwable" 1 objectInit : Cond) ∈ wsA := inA (k := 239) (by decide +kernel) rfl
theorem q281 : (.arrayClass .byte : Cond) ∈ wsA := inA (k := 281) (by decide +kernel) rfl
theorem q282 : (.methodLink RX4 35 yX4_requirePathBelowTop : Cond) ∈ wsA := inA (k := 282) (by decide +kernel) rfl
theorem q283 : (.static yX4_requirePathBelowTop : Cond) ∈ wsA := inA (k := 283) (by decide +kernel) rfl
theorem q284 : (.code yX4_requirePathBelowTop cX4_requirePathBelowTop 1 (none : Option Jvm.ClassFile.FieldType) : Cond) ∈ wsA := inA (k := 284) (by decide +kernel) rfl
theorem q285 : (.methodLink RX4 123 yX4_requirePath : Cond) ∈ wsA := inA (k := 285) (by decide +kernel) rfl
theorem q286 : (.static yX4_requirePath : Cond) ∈ wsA := inA (k := 286) (by decide +kernel) rfl
theorem q287 : (.code yX4_requirePath cX4_requirePath 1 (none : Option Jvm.ClassFile.FieldType) : Cond) ∈ wsA := inA (k := 287) (by decide +kernel) rfl
theorem q288 : (.methodLink RX4 225 yX4_isPath : Cond) ∈ wsA := inA (k := 288) (by decide +kernel) rfl
theorem q289 : (.static yX4_isPath : Cond) ∈ wsA := inA (k := 289) (by decide +kernel) rfl
theorem q290 : (.code yX4_isPath cX4_isPath 3 (some .boolean) : Cond) ∈ wsA := inA (k := 290) (by decide +kernel) rfl
theorem q293 : (.methodLink RX4 38 yX4_requireNotNegative : Cond) ∈ wsA := inA (k := 293) (by decide +kernel) rfl
theorem q294 : (.static yX4_requireNotNegative : Cond) ∈ wsA := inA (k := 294) (by decide +kernel) rfl
theorem q295 : (.code yX4_requireNotNegative cX4_requireNotNegative 1 (none : Option Jvm.ClassFile.FieldType) : Cond) ∈ wsA := inA (k := 295) (by decide +kernel) rfl
theorem q297 : (.methodLink RX4 41 yX4_parentOf : Cond) ∈ wsA := inA (k := 297) (by decide +kernel) rfl
theorem q298 : (.static yX4_parentOf : Cond) ∈ wsA := inA (k := 298) (by decide +kernel) rfl
theorem q299 : (.code yX4_parentOf cX4_parentOf 1 (some .int) : Cond) ∈ wsA := inA (k := 299) (by decide +kernel) rfl
theorem q302 : (.instanceMethod yX3_isCollection : Cond) ∈ wsA := inA (k := 302) (by decide +kernel) rfl
theorem q303 : (.code yX3_isCollection cX3_isCollection 2 (some .boolean) : Cond) ∈ wsA := inA (k := 303) (by decide +kernel) rfl
theorem q304 : (.methodLink RX3 36 yX3_kindAt : Cond) ∈ wsA := inA (k := 304) (by decide +kernel) rfl
theorem q306 : (.instanceMethod yX3_kindAt : Cond) ∈ wsA := inA (k := 306) (by decide +kernel) rfl
theorem q307 : (.code yX3_kindAt cX3_kindAt 3 (some .int) : Cond) ∈ wsA := inA (k := 307) (by decide +kernel) rfl
theorem q308 : (.methodLink RX3 29 yX3_find : Cond) ∈ wsA := inA (k := 308) (by decide +kernel) rfl
theorem q310 : (.instanceMethod yX3_find : Cond) ∈ wsA := inA (k := 310) (by decide +kernel) rfl
theorem q311 : (.code yX3_find cX3_find 3 (some (.object "ShelfServer$Resource")) : Cond) ∈ wsA := inA (k := 311) (by decide +kernel) rfl
theorem q312 : (.methodLink RX3 25 yX3_indexOf : Cond) ∈ wsA := inA (k := 312) (by decide +kernel) rfl
theorem q314 : (.instanceMethod yX3_indexOf : Cond) ∈ wsA := inA (k := 314) (by decide +kernel) rfl
theorem q315 : (.code yX3_indexOf cX3_indexOf 3 (some .int) : Cond) ∈ wsA := inA (k := 315) (by decide +kernel) rfl
theorem q317 : (.methodLink RX4 53 yX4_allowsWithParent : Cond) ∈ wsA := inA (k := 317) (by decide +kernel) rfl
theorem q319 : (.instanceMethod yX4_allowsWithParent : Cond) ∈ wsA := inA (k := 319) (by decide +kernel) rfl
theorem q320 : (.code yX4_allowsWithParent cX4_allowsWithParent 4 (some .boolean) : Cond) ∈ wsA := inA (k := 320) (by decide +kernel) rfl
theorem q323 : (.instanceMethod yX1_allows : Cond) ∈ wsA := inA (k := 323) (by decide +kernel) rfl
theorem q324 : (.code yX1_allows cX1_allows 7 (some .boolean) : Cond) ∈ wsA := inA (k := 324) (by decide +kernel) rfl
theorem q325 : (.methodLink RX1 36 yX1_tokensOver : Cond) ∈ wsA := inA (k := 325) (by decide +kernel) rfl
theorem q327 : (.instanceMethod yX1_tokensOver : Cond) ∈ wsA := inA (k := 327) (by decide +kernel) rfl
theorem q328 : (.code yX1_tokensOver cX1_tokensOver 5 (some .int) : Cond) ∈ wsA := inA (k := 328) (by decide +kernel) rfl
theorem q329 : (.methodLink RX1 28 yX1_find : Cond) ∈ wsA := inA (k := 329) (by decide +kernel) rfl
theorem q331 : (.instanceMethod yX1_find : Cond) ∈ wsA := inA (k := 331) (by decide +kernel) rfl
theorem q332 : (.code yX1_find cX1_find 2 (some (.object "ShelfServer$Lock")) : Cond) ∈ wsA := inA (k := 332) (by decide +kernel) rfl
theorem q335 : (.instanceMethod yX0_covers : Cond) ∈ wsA := inA (k := 335) (by decide +kernel) rfl
theorem q336 : (.code yX0_covers cX0_covers 2 (some .boolean) : Cond) ∈ wsA := inA (k := 336) (by decide +kernel) rfl
theorem q338 : (.static yX4_isAbove : Cond) ∈ wsA := inA (k := 338) (by decide +kernel) rfl
theorem q339 : (.code yX4_isAbove cX4_isAbove 4 (some .boolean) : Cond) ∈ wsA := inA (k := 339) (by decide +kernel) rfl
theorem q342 : (.instanceMethod yX3_append : Cond) ∈ wsA := inA (k := 342) (by decide +kernel) rfl
theorem q343 : (.code yX3_append cX3_append 4 (none : Option Jvm.ClassFile.FieldType) : Cond) ∈ wsA := inA (k := 343) (by decide +kernel) rfl
theorem q346 : (.instanceMethod yX2_begin : Cond) ∈ wsA := inA (k := 346) (by decide +kernel) rfl
theorem q347 : (.code yX2_begin cX2_begin 4 (none : Option Jvm.ClassFile.FieldType) : Cond) ∈ wsA := inA (k := 347) (by decide +kernel) rfl
theorem q348 : (.methodLink RL 91 yL_put : Cond) ∈ wsA := inA (k := 348) (by decide +kernel) rfl
theorem q349 : (.static yL_put : Cond) ∈ wsA := inA (k := 349) (by decide +kernel) rfl
theorem q350 : (.codeWith yL_put cL_put 8 (some .int) [(0, 16, 19, 13)] : Cond) ∈ wsA := inA (k := 350) (by decide +kernel) rfl
theorem q351 : (.methodLink RL 15 yX4_put : Cond) ∈ wsA := inA (k := 351) (by decide +kernel) rfl
theorem q352 : (.instanceMethod yX4_put : Cond) ∈ wsA := inA (k := 352) (by decide +kernel) rfl
theorem q353 : (.selects RX4 yX4_put yX4_put : Cond) ∈ wsA := inA (k := 353) (by decide +kernel) rfl
theorem q354 : (.code yX4_put cX4_put 7 (some .int) : Cond) ∈ wsA := inA (k := 354) (by decide +kernel) rfl
theorem q355 : (.methodLink RX4 67 yX4_outcomeOfWriting : Cond) ∈ wsA := inA (k := 355) (by decide +kernel) rfl
theorem q357 : (.instanceMethod yX4_outcomeOfWriting : Cond) ∈ wsA := inA (k := 357) (by decide +kernel) rfl
theorem q358 : (.code yX4_outcomeOfWriting cX4_outcomeOfWriting 6 (some .int) : Cond) ∈ wsA := inA (k := 358) (by decide +kernel) rfl
theorem q361 : (.instanceMethod yX3_findFile : Cond) ∈ wsA := inA (k := 361) (by decide +kernel) rfl
theorem q362 : (.code yX3_findFile cX3_findFile 3 (some (.object "ShelfServer$Resource")) : Cond) ∈ wsA := inA (k := 362) (by decide +kernel) rfl
theorem q363 : (.methodLink RX4 71 yX4_write : Cond) ∈ wsA := inA (k := 363) (by decide +kernel) rfl
theorem q365 : (.instanceMethod yX4_write : Cond) ∈ wsA := inA (k := 365) (by decide +kernel) rfl
theorem q366 : (.code yX4_write cX4_write 4 (none : Option Jvm.ClassFile.FieldType) : Cond) ∈ wsA := inA (k := 366) (by decide +kernel) rfl
theorem q367 : (.methodLink RL 95 yL_delete : Cond) ∈ wsA := inA (k := 367) (by decide +kernel) rfl
theorem q368 : (.static yL_delete : Cond) ∈ wsA := inA (k := 368) (by decide +kernel) rfl
theorem q369 : (.codeWith yL_delete cL_delete 6 (some .int) [(0, 12, 15, 13)] : Cond) ∈ wsA := inA (k := 369) (by decide +kernel) rfl
theorem q370 : (.methodLink RL 19 yX4_delete : Cond) ∈ wsA := inA (k := 370) (by decide +kernel) rfl
theorem q371 : (.instanceMethod yX4_delete : Cond) ∈ wsA := inA (k := 371) (by decide +kernel) rfl
theorem q372 : (.selects RX4 yX4_delete yX4_delete : Cond) ∈ wsA := inA (k := 372) (by decide +kernel) rfl
theorem q373 : (.code yX4_delete cX4_delete 4 (some .int) : Cond) ∈ wsA := inA (k := 373) (by decide +kernel) rfl
theorem q374 : (.methodLink RX4 75 yX4_noteFailures : Cond) ∈ wsA := inA (k := 374) (by decide +kernel) rfl
theorem q376 : (.instanceMethod yX4_noteFailures : Cond) ∈ wsA := inA (k := 376) (by decide +kernel) rfl
theorem q377 : (.code yX4_noteFailures cX4_noteFailures 6 (none : Option Jvm.ClassFile.FieldType) : Cond) ∈ wsA := inA (k := 377) (by decide +kernel) rfl
theorem q378 : (.methodLink RX4 238 yX4_isAbove : Cond) ∈ wsA := inA (k := 378) (by decide +kernel) rfl
theorem q379 : (.methodLink RX4 244 yX4_insertFailure : Cond) ∈ wsA := inA (k := 379) (by decide +kernel) rfl
theorem q381 : (.instanceMethod yX4_insertFailure : Cond) ∈ wsA := inA (k := 381) (by decide +kernel) rfl
theorem q382 : (.code yX4_insertFailure cX4_insertFailure 3 (none : Option Jvm.ClassFile.FieldType) : Cond) ∈ wsA := inA (k := 382) (by decide +kernel) rfl
theorem q385 : (.instanceMethod yX3_markTree : Cond) ∈ wsA := inA (k := 385) (by decide +kernel) rfl
theorem q386 : (.code yX3_markTree cX3_markTree 3 (none : Option Jvm.ClassFile.FieldType) : Cond) ∈ wsA := inA (k := 386) (by decide +kernel) rfl
theorem q388 : (.static yX4_isIn : Cond) ∈ wsA := inA (k := 388) (by decide +kernel) rfl
theorem q389 : (.code yX4_isIn cX4_isIn 2 (some .boolean) : Cond) ∈ wsA := inA (k := 389) (by decide +kernel) rfl
theorem q390 : (.methodLink RX4 81 yX4_spareFailures : Cond) ∈ wsA := inA (k := 390) (by decide +kernel) rfl
theorem q392 : (.instanceMethod yX4_spareFailures : Cond) ∈ wsA := inA (k := 392) (by decide +kernel) rfl
theorem q393 : (.code yX4_spareFailures cX4_spareFailures 2 (none : Option Jvm.ClassFile.FieldType) : Cond) ∈ wsA := inA (k := 393) (by decide +kernel) rfl
theorem q396 : (.instanceMethod yX3_spareUpFrom : Cond) ∈ wsA := inA (k := 396) (by decide +kernel) rfl
theorem q397 : (.code yX3_spareUpFrom cX3_spareUpFrom 3 (none : Option Jvm.ClassFile.FieldType) : Cond) ∈ wsA := inA (k := 397) (by decide +kernel) rfl
theorem q398 : (.methodLink RX4 84 yX4_removeMarked : Cond) ∈ wsA := inA (k := 398) (by decide +kernel) rfl
theorem q400 : (.instanceMethod yX4_removeMarked : Cond) ∈ wsA := inA (k := 400) (by decide +kernel) rfl
theorem q401 : (.code yX4_removeMarked cX4_removeMarked 2 (none : Option Jvm.ClassFile.FieldType) : Cond) ∈ wsA := inA (k := 401) (by decide +kernel) rfl
theorem q404 : (.instanceMethod yX1_dropAt : Cond) ∈ wsA := inA (k := 404) (by decide +kernel) rfl
theorem q405 : (.code yX1_dropAt cX1_dropAt 4 (none : Option Jvm.ClassFile.FieldType) : Cond) ∈ wsA := inA (k := 405) (by decide +kernel) rfl
theorem q408 : (.instanceMethod yX3_removeMarked : Cond) ∈ wsA := inA (k := 408) (by decide +kernel) rfl
theorem q409 : (.code yX3_removeMarked cX3_removeMarked 4 (none : Option Jvm.ClassFile.FieldType) : Cond) ∈ wsA := inA (k := 409) (by decide +kernel) rfl
theorem q410 : (.methodLink RL 102 yL_failureAt : Cond) ∈ wsA := inA (k := 410) (by decide +kernel) rfl
theorem q411 : (.static yL_failureAt : Cond) ∈ wsA := inA (k := 411) (by decide +kernel) rfl
theorem q412 : (.codeWith yL_failureAt cL_failureAt 4 (some .int) [(0, 9, 12, 26)] : Cond) ∈ wsA := inA (k := 412) (by decide +kernel) rfl
theorem q413 : (.classLink RL 26 "java/lang/IndexOutOfBoundsException" : Cond) ∈ wsA := inA (k := 413) (by decide +kernel) rfl
theorem q414 : (.methodLink RL 22 yX4_failureAt : Cond) ∈ wsA := inA (k := 414) (by decide +kernel) rfl
theorem q415 : (.instanceMethod yX4_failureAt : Cond) ∈ wsA := inA (k := 415) (by decide +kernel) rfl
theorem q416 : (.selects RX4 yX4_failureAt yX4_failureAt : Cond) ∈ wsA := inA (k := 416) (by decide +kernel) rfl
theorem q417 : (.code yX4_failureAt cX4_failureAt 2 (some .int) : Cond) ∈ wsA := inA (k := 417) (by decide +kernel) rfl
theorem q418 : (.classLink RX4 87 "java/lang/IndexOutOfBoundsException" : Cond) ∈ wsA := inA (k := 418) (by decide +kernel) rfl
theorem q419 : (.instantiable "java/lang/IndexOutOfBoundsException" 6 : Cond) ∈ wsA := inA (k := 419) (by decide +kernel) rfl
theorem q434 : (.methodLink RL 106 yL_copy : Cond) ∈ wsA := inA (k := 434) (by decide +kernel) rfl
theorem q435 : (.static yL_copy : Cond) ∈ wsA := inA (k := 435) (by decide +kernel) rfl
theorem q436 : (.codeWith yL_copy cL_copy 8 (some .int) [(0, 16, 19, 13)] : Cond) ∈ wsA := inA (k := 436) (by decide +kernel) rfl
theorem q437 : (.methodLink RL 28 yX4_copy : Cond) ∈ wsA := inA (k := 437) (by decide +kernel) rfl
theorem q438 : (.instanceMethod yX4_copy : Cond) ∈ wsA := inA (k := 438) (by decide +kernel) rfl
theorem q439 : (.selects RX4 yX4_copy yX4_copy : Cond) ∈ wsA := inA (k := 439) (by decide +kernel) rfl
theorem q440 : (.code yX4_copy cX4_copy 7 (some .int) : Cond) ∈ wsA := inA (k := 440) (by decide +kernel) rfl
theorem q441 : (.methodLink RX4 94 yX4_requireTransfer : Cond) ∈ wsA := inA (k := 441) (by decide +kernel) rfl
theorem q442 : (.static yX4_requireTransfer : Cond) ∈ wsA := inA (k := 442) (by decide +kernel) rfl
theorem q443 : (.code yX4_requireTransfer cX4_requireTransfer 4 (none : Option Jvm.ClassFile.FieldType) : Cond) ∈ wsA := inA (k := 443) (by decide +kernel) rfl
theorem q444 : (.methodLink RX4 232 yX4_isIn : Cond) ∈ wsA := inA (k := 444) (by decide +kernel) rfl
theorem q446 : (.methodLink RX4 98 yX4_outcomeOfTarget : Cond) ∈ wsA := inA (k := 446) (by decide +kernel) rfl
theorem q448 : (.instanceMethod yX4_outcomeOfTarget : Cond) ∈ wsA := inA (k := 448) (by decide +kernel) rfl
theorem q449 : (.code yX4_outcomeOfTarget cX4_outcomeOfTarget 6 (some .int) : Cond) ∈ wsA := inA (k := 449) (by decide +kernel) rfl
theorem q452 : (.instanceMethod yX3_fits : Cond) ∈ wsA := inA (k := 452) (by decide +kernel) rfl
theorem q453 : (.code yX3_fits cX3_fits 4 (some .boolean) : Cond) ∈ wsA := inA (k := 453) (by decide +kernel) rfl
theorem q455 : (.static yX4_moved : Cond) ∈ wsA := inA (k := 455) (by decide +kernel) rfl
theorem q456 : (.code yX4_moved cX4_moved 6 (some .int) : Cond) ∈ wsA := inA (k := 456) (by decide +kernel) rfl
theorem q457 : (.methodLink RX4 114 yX4_allowsTree : Cond) ∈ wsA := inA (k := 457) (by decide +kernel) rfl
theorem q459 : (.instanceMethod yX4_allowsTree : Cond) ∈ wsA := inA (k := 459) (by decide +kernel) rfl
theorem q460 : (.code yX4_allowsTree cX4_allowsTree 6 (some .boolean) : Cond) ∈ wsA := inA (k := 460) (by decide +kernel) rfl
theorem q463 : (.instanceMethod yX3_treeSize : Cond) ∈ wsA := inA (k := 463) (by decide +kernel) rfl
theorem q464 : (.code yX3_treeSize cX3_treeSize 4 (some .int) : Cond) ∈ wsA := inA (k := 464) (by decide +kernel) rfl
theorem q465 : (.methodLink RX4 105 yX4_removeTree : Cond) ∈ wsA := inA (k := 465) (by decide +kernel) rfl
theorem q467 : (.instanceMethod yX4_removeTree : Cond) ∈ wsA := inA (k := 467) (by decide +kernel) rfl
theorem q468 : (.code yX4_removeTree cX4_removeTree 2 (none : Option Jvm.ClassFile.FieldType) : Cond) ∈ wsA := inA (k := 468) (by decide +kernel) rfl
theorem q471 : (.instanceMethod yX3_appendCopyOfTree : Cond) ∈ wsA := inA (k := 471) (by decide +kernel) rfl
theorem q472 : (.code yX3_appendCopyOfTree cX3_appendCopyOfTree 6 (none : Option Jvm.ClassFile.FieldType) : Cond) ∈ wsA := inA (k := 472) (by decide +kernel) rfl
theorem q473 : (.methodLink RX3 54 yX3_append : Cond) ∈ wsA := inA (k := 473) (by decide +kernel) rfl
theorem q474 : (.methodLink RL 110 yL_move : Cond) ∈ wsA := inA (k := 474) (by decide +kernel) rfl
theorem q475 : (.static yL_move : Cond) ∈ wsA := inA (k := 475) (by decide +kernel) rfl
theorem q476 : (.codeWith yL_move cL_move 8 (some .int) [(0, 16, 19, 13)] : Cond) ∈ wsA := inA (k := 476) (by decide +kernel) rfl
theorem q477 : (.methodLink RL 32 yX4_move : Cond) ∈ wsA := inA (k := 477) (by decide +kernel) rfl
theorem q478 : (.instanceMethod yX4_move : Cond) ∈ wsA := inA (k := 478) (by decide +kernel) rfl
theorem q479 : (.selects RX4 yX4_move yX4_move : Cond) ∈ wsA := inA (k := 479) (by decide +kernel) rfl
theorem q480 : (.code yX4_move cX4_move 7 (some .int) : Cond) ∈ wsA := inA (k := 480) (by decide +kernel) rfl
theorem q481 : (.methodLink RX4 117 yX4_dropLocksOfTree : Cond) ∈ wsA := inA (k := 481) (by decide +kernel) rfl
theorem q483 : (.instanceMethod yX4_dropLocksOfTree : Cond) ∈ wsA := inA (k := 483) (by decide +kernel) rfl
theorem q484 : (.code yX4_dropLocksOfTree cX4_dropLocksOfTree 3 (none : Option Jvm.ClassFile.FieldType) : Cond) ∈ wsA := inA (k := 484) (by decide +kernel) rfl
theorem q487 : (.instanceMethod yX3_renameTree : Cond) ∈ wsA := inA (k := 487) (by decide +kernel) rfl
theorem q488 : (.code yX3_renameTree cX3_renameTree 4 (none : Option Jvm.ClassFile.FieldType) : Cond) ∈ wsA := inA (k := 488) (by decide +kernel) rfl
theorem q489 : (.methodLink RX3 57 yX3_placeMember : Cond) ∈ wsA := inA (k := 489) (by decide +kernel) rfl
theorem q491 : (.instanceMethod yX3_placeMember : Cond) ∈ wsA := inA (k := 491) (by decide +kernel) rfl
theorem q492 : (.code yX3_placeMember cX3_placeMember 5 (none : Option Jvm.ClassFile.FieldType) : Cond) ∈ wsA := inA (k := 492) (by decide +kernel) rfl
theorem q493 : (.methodLink RX3 68 yX3_shift : Cond) ∈ wsA := inA (k := 493) (by decide +kernel) rfl
theorem q495 : (.instanceMethod yX3_shift : Cond) ∈ wsA := inA (k := 495) (by decide +kernel) rfl
theorem q496 : (.code yX3_shift cX3_shift 5 (none : Option Jvm.ClassFile.FieldType) : Cond) ∈ wsA := inA (k := 496) (by decide +kernel) rfl
theorem q498 : (.methodLink RX3 71 yX3_memberIndex : Cond) ∈ wsA := inA (k := 498) (by decide +kernel) rfl
theorem q500 : (.instanceMethod yX3_memberIndex : Cond) ∈ wsA := inA (k := 500) (by decide +kernel) rfl
theorem q501 : (.code yX3_memberIndex cX3_memberIndex 5 (some .int) : Cond) ∈ wsA := inA (k := 501) (by decide +kernel) rfl
theorem q502 : (.methodLink RL 113 yL_kindOf : Cond) ∈ wsA := inA (k := 502) (by decide +kernel) rfl
theorem q503 : (.static yL_kindOf : Cond) ∈ wsA := inA (k := 503) (by decide +kernel) rfl
theorem q504 : (.codeWith yL_kindOf cL_kindOf 4 (some .int) [(0, 9, 12, 13)] : Cond) ∈ wsA := inA (k := 504) (by decide +kernel) rfl
theorem q505 : (.methodLink RL 35 yX4_kindOf : Cond) ∈ wsA := inA (k := 505) (by decide +kernel) rfl
theorem q506 : (.instanceMethod yX4_kindOf : Cond) ∈ wsA := inA (k := 506) (by decide +kernel) rfl
theorem q507 : (.selects RX4 yX4_kindOf yX4_kindOf : Cond) ∈ wsA := inA (k := 507) (by decide +kernel) rfl
theorem q508 : (.code yX4_kindOf cX4_kindOf 2 (some .int) : Cond) ∈ wsA := inA (k := 508) (by decide +kernel) rfl
theorem q510 : (.methodLink RL 116 yL_content : Cond) ∈ wsA := inA (k := 510) (by decide +kernel) rfl
theorem q511 : (.static yL_content : Cond) ∈ wsA := inA (k := 511) (by decide +kernel) rfl
theorem q512 : (.codeWith yL_content cL_content 4 (some .int) [(0, 9, 12, 13)] : Cond) ∈ wsA := inA (k := 512) (by decide +kernel) rfl
theorem q513 : (.methodLink RL 38 yX4_content : Cond) ∈ wsA := inA (k := 513) (by decide +kernel) rfl
theorem q514 : (.instanceMethod yX4_content : Cond) ∈ wsA := inA (k := 514) (by decide +kernel) rfl
theorem q515 : (.selects RX4 yX4_content yX4_content : Cond) ∈ wsA := inA (k := 515) (by decide +kernel) rfl
theorem q516 : (.code yX4_content cX4_content 3 (some .int) : Cond) ∈ wsA := inA (k := 516) (by decide +kernel) rfl
theorem q517 : (.methodLink RL 123 yL_members : Cond) ∈ wsA := inA (k := 517) (by decide +kernel) rfl
theorem q518 : (.static yL_members : Cond) ∈ wsA := inA (k := 518) (by decide +kernel) rfl
theorem q519 : (.codeWith yL_members cL_members 4 (some .int) [(0, 9, 12, 13)] : Cond) ∈ wsA := inA (k := 519) (by decide +kernel) rfl
theorem q520 : (.methodLink RL 41 yX4_members : Cond) ∈ wsA := inA (k := 520) (by decide +kernel) rfl
theorem q521 : (.instanceMethod yX4_members : Cond) ∈ wsA := inA (k := 521) (by decide +kernel) rfl
theorem q522 : (.selects RX4 yX4_members yX4_members : Cond) ∈ wsA := inA (k := 522) (by decide +kernel) rfl
theorem q523 : (.code yX4_members cX4_members 2 (some .int) : Cond) ∈ wsA := inA (k := 523) (by decide +kernel) rfl
theorem q526 : (.instanceMethod yX3_memberCount : Cond) ∈ wsA := inA (k := 526) (by decide +kernel) rfl
theorem q527 : (.code yX3_memberCount cX3_memberCount 4 (some .int) : Cond) ∈ wsA := inA (k := 527) (by decide +kernel) rfl
theorem q528 : (.methodLink RL 126 yL_memberAt : Cond) ∈ wsA := inA (k := 528) (by decide +kernel) rfl
theorem q529 : (.static yL_memberAt : Cond) ∈ wsA := inA (k := 529) (by decide +kernel) rfl
theorem q530 : (.codeWith yL_memberAt cL_memberAt 5 (some .int) [(0, 10, 13, 13), (0, 10, 17, 26)] : Cond) ∈ wsA := inA (k := 530) (by decide +kernel) rfl
theorem q531 : (.methodLink RL 44 yX4_memberAt : Cond) ∈ wsA := inA (k := 531) (by decide +kernel) rfl
theorem q532 : (.instanceMethod yX4_memberAt : Cond) ∈ wsA := inA (k := 532) (by decide +kernel) rfl
theorem q533 : (.selects RX4 yX4_memberAt yX4_memberAt : Cond) ∈ wsA := inA (k := 533) (by decide +kernel) rfl
theorem q534 : (.code yX4_memberAt cX4_memberAt 4 (some .int) : Cond) ∈ wsA := inA (k := 534) (by decide +kernel) rfl
theorem q537 : (.methodLink RL 130 yL_order : Cond) ∈ wsA := inA (k := 537) (by decide +kernel) rfl
theorem q538 : (.static yL_order : Cond) ∈ wsA := inA (k := 538) (by decide +kernel) rfl
theorem q539 : (.codeWith yL_order cL_order 7 (some .int) [(0, 14, 17, 13)] : Cond) ∈ wsA := inA (k := 539) (by decide +kernel) rfl
theorem q540 : (.methodLink RL 48 yX4_order : Cond) ∈ wsA := inA (k := 540) (by decide +kernel) rfl
theorem q541 : (.instanceMethod yX4_order : Cond) ∈ wsA := inA (k := 541) (by decide +kernel) rfl
theorem q542 : (.selects RX4 yX4_order yX4_order : Cond) ∈ wsA := inA (k := 542) (by decide +kernel) rfl
theorem q543 : (.code yX4_order cX4_order 5 (some .int) : Cond) ∈ wsA := inA (k := 543) (by decide +kernel) rfl
theorem q545 : (.methodLink RL 134 yL_lock : Cond) ∈ wsA := inA (k := 545) (by decide +kernel) rfl
theorem q546 : (.static yL_lock : Cond) ∈ wsA := inA (k := 546) (by decide +kernel) rfl
theorem q547 : (.codeWith yL_lock cL_lock 9 (some .int) [(0, 18, 21, 13), (0, 18, 25, 56)] : Cond) ∈ wsA := inA (k := 547) (by decide +kernel) rfl
theorem q548 : (.classLink RL 56 "java/lang/IllegalStateException" : Cond) ∈ wsA := inA (k := 548) (by decide +kernel) rfl
theorem q549 : (.methodLink RL 52 yX4_lock : Cond) ∈ wsA := inA (k := 549) (by decide +kernel) rfl
theorem q550 : (.instanceMethod yX4_lock : Cond) ∈ wsA := inA (k := 550) (by decide +kernel) rfl
theorem q551 : (.selects RX4 yX4_lock yX4_lock : Cond) ∈ wsA := inA (k := 551) (by decide +kernel) rfl
theorem q552 : (.code yX4_lock cX4_lock 7 (some .int) : Cond) ∈ wsA := inA (k := 552) (by decide +kernel) rfl
theorem q553 : (.classLink RX4 157 "java/lang/IllegalStateException" : Cond) ∈ wsA := inA (k := 553) (by decide +kernel) rfl
theorem q554 : (.instantiable "java/lang/IllegalStateException" 6 : Cond) ∈ wsA := inA (k := 554) (by decide +kernel) rfl
theorem q571 : (.instanceMethod yX1_bar : Cond) ∈ wsA := inA (k := 571) (by decide +kernel) rfl
theorem q572 : (.code yX1_bar cX1_bar 6 (some .boolean) : Cond) ∈ wsA := inA (k := 572) (by decide +kernel) rfl
theorem q578 : (.instanceMethod yX1_add : Cond) ∈ wsA := inA (k := 578) (by decide +kernel) rfl
theorem q579 : (.code yX1_add cX1_add 7 (some .int) : Cond) ∈ wsA := inA (k := 579) (by decide +kernel) rfl
theorem q580 : (.methodLink RL 138 yL_refresh : Cond) ∈ wsA := inA (k := 580) (by decide +kernel) rfl
theorem q581 : (.static yL_refresh : Cond) ∈ wsA := inA (k := 581) (by decide +kernel) rfl
theorem q582 : (.codeWith yL_refresh cL_refresh 6 (some .int) [(0, 12, 15, 26), (0, 12, 19, 13), (0, 12, 23, 56)] : Cond) ∈ wsA := inA (k := 582) (by decide +kernel) rfl
theorem q583 : (.methodLink RL 58 yX4_refresh : Cond) ∈ wsA := inA (k := 583) (by decide +kernel) rfl
theorem q584 : (.instanceMethod yX4_refresh : Cond) ∈ wsA := inA (k := 584) (by decide +kernel) rfl
theorem q585 : (.selects RX4 yX4_refresh yX4_refresh : Cond) ∈ wsA := inA (k := 585) (by decide +kernel) rfl
theorem q586 : (.code yX4_refresh cX4_refresh 6 (some .int) : Cond) ∈ wsA := inA (k := 586) (by decide +kernel) rfl
theorem q590 : (.methodLink RL 141 yL_pass : Cond) ∈ wsA := inA (k := 590) (by decide +kernel) rfl
theorem q591 : (.static yL_pass : Cond) ∈ wsA := inA (k := 591) (by decide +kernel) rfl
theorem q592 : (.codeWith yL_pass cL_pass 4 (some .int) [(0, 9, 12, 13), (0, 9, 15, 56)] : Cond) ∈ wsA := inA (k := 592) (by decide +kernel) rfl
theorem q593 : (.methodLink RL 61 yX4_pass : Cond) ∈ wsA := inA (k := 593) (by decide +kernel) rfl
theorem q594 : (.instanceMethod yX4_pass : Cond) ∈ wsA := inA (k := 594) (by decide +kernel) rfl
theorem q595 : (.selects RX4 yX4_pass yX4_pass : Cond) ∈ wsA := inA (k := 595) (by decide +kernel) rfl
theorem q596 : (.code yX4_pass cX4_pass 2 (some .int) : Cond) ∈ wsA := inA (k := 596) (by decide +kernel) rfl
theorem q597 : (.constant RX4 192 (1000000 : Int32) : Cond) ∈ wsA := inA (k := 597) (by decide +kernel) rfl
theorem q601 : (.instanceMethod yX1_advance : Cond) ∈ wsA := inA (k := 601) (by decide +kernel) rfl
theorem q602 : (.code yX1_advance cX1_advance 6 (some .int) : Cond) ∈ wsA := inA (k := 602) (by decide +kernel) rfl
theorem q603 : (.methodLink RL 144 yL_covering : Cond) ∈ wsA := inA (k := 603) (by decide +kernel) rfl
theorem q604 : (.static yL_covering : Cond) ∈ wsA := inA (k := 604) (by decide +kernel) rfl
theorem q605 : (.codeWith yL_covering cL_covering 4 (some .int) [(0, 9, 12, 13)] : Cond) ∈ wsA := inA (k := 605) (by decide +kernel) rfl
theorem q606 : (.methodLink RL 64 yX4_covering : Cond) ∈ wsA := inA (k := 606) (by decide +kernel) rfl
theorem q607 : (.instanceMethod yX4_covering : Cond) ∈ wsA := inA (k := 607) (by decide +kernel) rfl
theorem q608 : (.selects RX4 yX4_covering yX4_covering : Cond) ∈ wsA := inA (k := 608) (by decide +kernel) rfl
theorem q609 : (.code yX4_covering cX4_covering 2 (some .int) : Cond) ∈ wsA := inA (k := 609) (by decide +kernel) rfl
theorem q611 : (.methodLink RL 147 yL_mayChange : Cond) ∈ wsA := inA (k := 611) (by decide +kernel) rfl
theorem q612 : (.static yL_mayChange : Cond) ∈ wsA := inA (k := 612) (by decide +kernel) rfl
theorem q613 : (.codeWith yL_mayChange cL_mayChange 6 (some .int) [(0, 19, 22, 13)] : Cond) ∈ wsA := inA (k := 613) (by decide +kernel) rfl
theorem q614 : (.methodLink RL 67 yX4_mayChange : Cond) ∈ wsA := inA (k := 614) (by decide +kernel) rfl
theorem q615 : (.instanceMethod yX4_mayChange : Cond) ∈ wsA := inA (k := 615) (by decide +kernel) rfl
theorem q616 : (.selects RX4 yX4_mayChange yX4_mayChange : Cond) ∈ wsA := inA (k := 616) (by decide +kernel) rfl
theorem q617 : (.code yX4_mayChange cX4_mayChange 4 (some .boolean) : Cond) ∈ wsA := inA (k := 617) (by decide +kernel) rfl
theorem q618 : (.methodLink RL 150 yL_keep : Cond) ∈ wsA := inA (k := 618) (by decide +kernel) rfl
theorem q619 : (.static yL_keep : Cond) ∈ wsA := inA (k := 619) (by decide +kernel) rfl
theorem q620 : (.codeWith yL_keep cL_keep 4 (some .int) [(0, 9, 12, 13), (0, 9, 15, 56)] : Cond) ∈ wsA := inA (k := 620) (by decide +kernel) rfl
theorem q621 : (.methodLink RL 71 yX4_keep : Cond) ∈ wsA := inA (k := 621) (by decide +kernel) rfl
theorem q622 : (.instanceMethod yX4_keep : Cond) ∈ wsA := inA (k := 622) (by decide +kernel) rfl
theorem q623 : (.selects RX4 yX4_keep yX4_keep : Cond) ∈ wsA := inA (k := 623) (by decide +kernel) rfl
theorem q624 : (.code yX4_keep cX4_keep 3 (some .int) : Cond) ∈ wsA := inA (k := 624) (by decide +kernel) rfl
theorem q629 : (.instanceMethod yX2_addVersion : Cond) ∈ wsA := inA (k := 629) (by decide +kernel) rfl
theorem q630 : (.code yX2_addVersion cX2_addVersion 1 (some .int) : Cond) ∈ wsA := inA (k := 630) (by decide +kernel) rfl
theorem q631 : (.methodLink RL 153 yL_restore : Cond) ∈ wsA := inA (k := 631) (by decide +kernel) rfl
theorem q632 : (.static yL_restore : Cond) ∈ wsA := inA (k := 632) (by decide +kernel) rfl
theorem q633 : (.codeWith yL_restore cL_restore 7 (some .int) [(0, 14, 17, 13)] : Cond) ∈ wsA := inA (k := 633) (by decide +kernel) rfl
theorem q634 : (.methodLink RL 74 yX4_restore : Cond) ∈ wsA := inA (k := 634) (by decide +kernel) rfl
theorem q635 : (.instanceMethod yX4_restore : Cond) ∈ wsA := inA (k := 635) (by decide +kernel) rfl
theorem q636 : (.selects RX4 yX4_restore yX4_restore : Cond) ∈ wsA := inA (k := 636) (by decide +kernel) rfl
theorem q637 : (.code yX4_restore cX4_restore 6 (some .int) : Cond) ∈ wsA := inA (k := 637) (by decide +kernel) rfl
theorem q640 : (.instanceMethod yX2_hasVersion : Cond) ∈ wsA := inA (k := 640) (by decide +kernel) rfl
theorem q641 : (.code yX2_hasVersion cX2_hasVersion 2 (some .boolean) : Cond) ∈ wsA := inA (k := 641) (by decide +kernel) rfl
theorem q644 : (.instanceMethod yX2_takeVersion : Cond) ∈ wsA := inA (k := 644) (by decide +kernel) rfl
theorem q645 : (.code yX2_takeVersion cX2_takeVersion 2 (none : Option Jvm.ClassFile.FieldType) : Cond) ∈ wsA := inA (k := 645) (by decide +kernel) rfl
theorem q646 : (.methodLink RX2 32 yX2_hasVersion : Cond) ∈ wsA := inA (k := 646) (by decide +kernel) rfl
theorem q647 : (.classLink RL 78 RX5 : Cond) ∈ wsA := inA (k := 647) (by decide +kernel) rfl
theorem q648 : (.instantiable RX5 20 : Cond) ∈ wsA := inA (k := 648) (by decide +kernel) rfl
theorem q649 : (.methodLink RL 80 yX5_init : Cond) ∈ wsA := inA (k := 649) (by decide +kernel) rfl
theorem q650 : (.instanceMethod yX5_init : Cond) ∈ wsA := inA (k := 650) (by decide +kernel) rfl
theorem q651 : (.code yX5_init cX5_init 1 (none : Option Jvm.ClassFile.FieldType) : Cond) ∈ wsA := inA (k := 651) (by decide +kernel) rfl
theorem q652 : (.methodLink RX5 1 objectInit : Cond) ∈ wsA := inA (k := 652) (by decide +kernel) rfl
theorem q653 : (.fieldLink RX5 7 "ShelfServerModel" "used" "[Z" : Cond) ∈ wsA := inA (k := 653) (by decide +kernel) rfl
theorem q654 : (.fieldLink RX5 13 "ShelfServerModel" "path" "[I" : Cond) ∈ wsA := inA (k := 654) (by decide +kernel) rfl
theorem q655 : (.fieldLink RX5 17 "ShelfServerModel" "kind" "[I" : Cond) ∈ wsA := inA (k := 655) (by decide +kernel) rfl
theorem q656 : (.fieldLink RX5 20 "ShelfServerModel" "content" "[I" : Cond) ∈ wsA := inA (k := 656) (by decide +kernel) rfl
theorem q657 : (.fieldLink RX5 23 "ShelfServerModel" "rank" "[I" : Cond) ∈ wsA := inA (k := 657) (by decide +kernel) rfl
theorem q658 : (.fieldLink RX5 82 "ShelfServerModel" "ranks" "I" : Cond) ∈ wsA := inA (k := 658) (by decide +kernel) rfl
theorem q659 : (.fieldLink RX5 26 "ShelfServerModel" "versions" "[I" : Cond) ∈ wsA := inA (k := 659) (by decide +kernel) rfl
theorem q660 : (.fieldLink RX5 29 "ShelfServerModel" "kept" "[I" : Cond) ∈ wsA := inA (k := 660) (by decide +kernel) rfl
theorem q661 : (.fieldLink RX5 88 "ShelfServerModel" "time" "I" : Cond) ∈ wsA := inA (k := 661) (by decide +kernel) rfl
theorem q662 : (.fieldLink RX5 85 "ShelfServerModel" "locks" "I" : Cond) ∈ wsA := inA (k := 662) (by decide +kernel) rfl
theorem q663 : (.fieldLink RX5 32 "ShelfServerModel" "owner" "[I" : Cond) ∈ wsA := inA (k := 663) (by decide +kernel) rfl
theorem q664 : (.fieldLink RX5 35 "ShelfServerModel" "spot" "[I" : Cond) ∈ wsA := inA (k := 664) (by decide +kernel) rfl
theorem q665 : (.fieldLink RX5 38 "ShelfServerModel" "shared" "[Z" : Cond) ∈ wsA := inA (k := 665) (by decide +kernel) rfl
theorem q666 : (.fieldLink RX5 41 "ShelfServerModel" "deep" "[Z" : Cond) ∈ wsA := inA (k := 666) (by decide +kernel) rfl
theorem q667 : (.fieldLink RX5 44 "ShelfServerModel" "end" "[I" : Cond) ∈ wsA := inA (k := 667) (by decide +kernel) rfl
theorem q668 : (.fieldLink RX5 127 "ShelfServerModel" "failures" "I" : Cond) ∈ wsA := inA (k := 668) (by decide +kernel) rfl
theorem q669 : (.fieldLink RX5 47 "ShelfServerModel" "failed" "[I" : Cond) ∈ wsA := inA (k := 669) (by decide +kernel) rfl
theorem q670 : (.fieldLink RX5 50 "ShelfServerModel" "marked" "[Z" : Cond) ∈ wsA := inA (k := 670) (by decide +kernel) rfl
theorem q671 : (.fieldLink RX5 53 "ShelfServerModel" "fixed" "[Z" : Cond) ∈ wsA := inA (k := 671) (by decide +kernel) rfl
theorem q672 : (.fieldLink RX5 56 "ShelfServerModel" "thrown" "I" : Cond) ∈ wsA := inA (k := 672) (by decide +kernel) rfl
theorem q714 : (.arrayClass .boolean : Cond) ∈ wsA := inA (k := 714) (by decide +kernel) rfl
theorem q715 : (.methodLink RL 87 yX5_thrown : Cond) ∈ wsA := inA (k := 715) (by decide +kernel) rfl
theorem q716 : (.instanceMethod yX5_thrown : Cond) ∈ wsA := inA (k := 716) (by decide +kernel) rfl
theorem q717 : (.selects RX5 yX5_thrown yX5_thrown : Cond) ∈ wsA := inA (k := 717) (by decide +kernel) rfl
theorem q718 : (.code yX5_thrown cX5_thrown 1 (some .int) : Cond) ∈ wsA := inA (k := 718) (by decide +kernel) rfl
theorem q719 : (.methodLink RL 86 yX5_makeCollection : Cond) ∈ wsA := inA (k := 719) (by decide +kernel) rfl
theorem q720 : (.instanceMethod yX5_makeCollection : Cond) ∈ wsA := inA (k := 720) (by decide +kernel) rfl
theorem q721 : (.selects RX5 yX5_makeCollection yX5_makeCollection : Cond) ∈ wsA := inA (k := 721) (by decide +kernel) rfl
theorem q722 : (.code yX5_makeCollection cX5_makeCollection 5 (some .int) : Cond) ∈ wsA := inA (k := 722) (by decide +kernel) rfl
theorem q723 : (.methodLink RX5 106 yX5_isRight : Cond) ∈ wsA := inA (k := 723) (by decide +kernel) rfl
theorem q725 : (.instanceMethod yX5_isRight : Cond) ∈ wsA := inA (k := 725) (by decide +kernel) rfl
theorem q726 : (.code yX5_isRight cX5_isRight 4 (some .boolean) : Cond) ∈ wsA := inA (k := 726) (by decide +kernel) rfl
theorem q727 : (.methodLink RX5 68 yX5_isClient : Cond) ∈ wsA := inA (k := 727) (by decide +kernel) rfl
theorem q728 : (.static yX5_isClient : Cond) ∈ wsA := inA (k := 728) (by decide +kernel) rfl
theorem q729 : (.code yX5_isClient cX5_isClient 1 (some .boolean) : Cond) ∈ wsA := inA (k := 729) (by decide +kernel) rfl
theorem q730 : (.methodLink RX5 60 yX5_isIn : Cond) ∈ wsA := inA (k := 730) (by decide +kernel) rfl
theorem q731 : (.static yX5_isIn : Cond) ∈ wsA := inA (k := 731) (by decide +kernel) rfl
theorem q732 : (.code yX5_isIn cX5_isIn 3 (some .boolean) : Cond) ∈ wsA := inA (k := 732) (by decide +kernel) rfl
theorem q733 : (.methodLink RX5 71 yX5_isName : Cond) ∈ wsA := inA (k := 733) (by decide +kernel) rfl
theorem q734 : (.static yX5_isName : Cond) ∈ wsA := inA (k := 734) (by decide +kernel) rfl
theorem q735 : (.code yX5_isName cX5_isName 1 (some .boolean) : Cond) ∈ wsA := inA (k := 735) (by decide +kernel) rfl
theorem q736 : (.methodLink RX5 64 yX5_isPath : Cond) ∈ wsA := inA (k := 736) (by decide +kernel) rfl
theorem q737 : (.static yX5_isPath : Cond) ∈ wsA := inA (k := 737) (by decide +kernel) rfl
theorem q738 : (.code yX5_isPath cX5_isPath 3 (some .boolean) : Cond) ∈ wsA := inA (k := 738) (by decide +kernel) rfl
theorem q739 : (.methodLink RX5 109 yX5_kinds : Cond) ∈ wsA := inA (k := 739) (by decide +kernel) rfl
theorem q741 : (.instanceMethod yX5_kinds : Cond) ∈ wsA := inA (k := 741) (by decide +kernel) rfl
theorem q742 : (.code yX5_kinds cX5_kinds 3 (some .int) : Cond) ∈ wsA := inA (k := 742) (by decide +kernel) rfl
theorem q743 : (.methodLink RX5 74 yX5_place : Cond) ∈ wsA := inA (k := 743) (by decide +kernel) rfl
theorem q745 : (.instanceMethod yX5_place : Cond) ∈ wsA := inA (k := 745) (by decide +kernel) rfl
theorem q746 : (.code yX5_place cX5_place 4 (some .int) : Cond) ∈ wsA := inA (k := 746) (by decide +kernel) rfl
theorem q747 : (.methodLink RX5 112 yX5_mayMake : Cond) ∈ wsA := inA (k := 747) (by decide +kernel) rfl
theorem q749 : (.instanceMethod yX5_mayMake : Cond) ∈ wsA := inA (k := 749) (by decide +kernel) rfl
theorem q750 : (.code yX5_mayMake cX5_mayMake 4 (some .boolean) : Cond) ∈ wsA := inA (k := 750) (by decide +kernel) rfl
theorem q751 : (.methodLink RX5 103 yX5_may : Cond) ∈ wsA := inA (k := 751) (by decide +kernel) rfl
theorem q753 : (.instanceMethod yX5_may : Cond) ∈ wsA := inA (k := 753) (by decide +kernel) rfl
theorem q754 : (.code yX5_may cX5_may 7 (some .boolean) : Cond) ∈ wsA := inA (k := 754) (by decide +kernel) rfl
theorem q755 : (.methodLink RX5 97 yX5_set : Cond) ∈ wsA := inA (k := 755) (by decide +kernel) rfl
theorem q757 : (.instanceMethod yX5_set : Cond) ∈ wsA := inA (k := 757) (by decide +kernel) rfl
theorem q758 : (.code yX5_set cX5_set 4 (some .int) : Cond) ∈ wsA := inA (k := 758) (by decide +kernel) rfl
theorem q759 : (.methodLink RX5 94 yX5_covers : Cond) ∈ wsA := inA (k := 759) (by decide +kernel) rfl
theorem q761 : (.instanceMethod yX5_covers : Cond) ∈ wsA := inA (k := 761) (by decide +kernel) rfl
theorem q762 : (.code yX5_covers cX5_covers 3 (some .boolean) : Cond) ∈ wsA := inA (k := 762) (by decide +kernel) rfl
theorem q763 : (.methodLink RX5 91 yX5_isOn : Cond) ∈ wsA := inA (k := 763) (by decide +kernel) rfl
theorem q765 : (.instanceMethod yX5_isOn : Cond) ∈ wsA := inA (k := 765) (by decide +kernel) rfl
theorem q766 : (.code yX5_isOn cX5_isOn 2 (some .boolean) : Cond) ∈ wsA := inA (k := 766) (by decide +kernel) rfl
theorem q767 : (.methodLink RX5 78 yX5_isAbove : Cond) ∈ wsA := inA (k := 767) (by decide +kernel) rfl
theorem q768 : (.static yX5_isAbove : Cond) ∈ wsA := inA (k := 768) (by decide +kernel) rfl
theorem q769 : (.code yX5_isAbove cX5_isAbove 3 (some .boolean) : Cond) ∈ wsA := inA (k := 769) (by decide +kernel) rfl
theorem q770 : (.methodLink RX5 115 yX5_count : Cond) ∈ wsA := inA (k := 770) (by decide +kernel) rfl
theorem q772 : (.instanceMethod yX5_count : Cond) ∈ wsA := inA (k := 772) (by decide +kernel) rfl
theorem q773 : (.code yX5_count cX5_count 3 (some .int) : Cond) ∈ wsA := inA (k := 773) (by decide +kernel) rfl
theorem q774 : (.methodLink RX5 119 yX5_makes : Cond) ∈ wsA := inA (k := 774) (by decide +kernel) rfl
theorem q776 : (.instanceMethod yX5_makes : Cond) ∈ wsA := inA (k := 776) (by decide +kernel) rfl
theorem q777 : (.code yX5_makes cX5_makes 5 (some .int) : Cond) ∈ wsA := inA (k := 777) (by decide +kernel) rfl
theorem q778 : (.methodLink RL 94 yX5_put : Cond) ∈ wsA := inA (k := 778) (by decide +kernel) rfl
theorem q779 : (.instanceMethod yX5_put : Cond) ∈ wsA := inA (k := 779) (by decide +kernel) rfl
theorem q780 : (.selects RX5 yX5_put yX5_put : Cond) ∈ wsA := inA (k := 780) (by decide +kernel) rfl
theorem q781 : (.code yX5_put cX5_put 9 (some .int) : Cond) ∈ wsA := inA (k := 781) (by decide +kernel) rfl
theorem q782 : (.methodLink RX5 123 yX5_puts : Cond) ∈ wsA := inA (k := 782) (by decide +kernel) rfl
theorem q784 : (.instanceMethod yX5_puts : Cond) ∈ wsA := inA (k := 784) (by decide +kernel) rfl
theorem q785 : (.code yX5_puts cX5_puts 8 (some .int) : Cond) ∈ wsA := inA (k := 785) (by decide +kernel) rfl
theorem q786 : (.methodLink RL 97 yX5_delete : Cond) ∈ wsA := inA (k := 786) (by decide +kernel) rfl
theorem q787 : (.instanceMethod yX5_delete : Cond) ∈ wsA := inA (k := 787) (by decide +kernel) rfl
theorem q788 : (.selects RX5 yX5_delete yX5_delete : Cond) ∈ wsA := inA (k := 788) (by decide +kernel) rfl
theorem q789 : (.code yX5_delete cX5_delete 7 (some .int) : Cond) ∈ wsA := inA (k := 789) (by decide +kernel) rfl
theorem q790 : (.methodLink RX5 100 yX5_isOf : Cond) ∈ wsA := inA (k := 790) (by decide +kernel) rfl
theorem q792 : (.instanceMethod yX5_isOf : Cond) ∈ wsA := inA (k := 792) (by decide +kernel) rfl
theorem q793 : (.code yX5_isOf cX5_isOf 3 (some .boolean) : Cond) ∈ wsA := inA (k := 793) (by decide +kernel) rfl
theorem q794 : (.methodLink RX5 130 yX5_goes : Cond) ∈ wsA := inA (k := 794) (by decide +kernel) rfl
theorem q796 : (.instanceMethod yX5_goes : Cond) ∈ wsA := inA (k := 796) (by decide +kernel) rfl
theorem q797 : (.code yX5_goes cX5_goes 3 (none : Option Jvm.ClassFile.FieldType) : Cond) ∈ wsA := inA (k := 797) (by decide +kernel) rfl
theorem q798 : (.methodLink RL 101 yX5_failures : Cond) ∈ wsA := inA (k := 798) (by decide +kernel) rfl
theorem q799 : (.instanceMethod yX5_failures : Cond) ∈ wsA := inA (k := 799) (by decide +kernel) rfl
theorem q800 : (.selects RX5 yX5_failures yX5_failures : Cond) ∈ wsA := inA (k := 800) (by decide +kernel) rfl
theorem q801 : (.code yX5_failures cX5_failures 1 (some .int) : Cond) ∈ wsA := inA (k := 801) (by decide +kernel) rfl
theorem q802 : (.methodLink RL 105 yX5_failureAt : Cond) ∈ wsA := inA (k := 802) (by decide +kernel) rfl
theorem q803 : (.instanceMethod yX5_failureAt : Cond) ∈ wsA := inA (k := 803) (by decide +kernel) rfl
theorem q804 : (.selects RX5 yX5_failureAt yX5_failureAt : Cond) ∈ wsA := inA (k := 804) (by decide +kernel) rfl
theorem q805 : (.code yX5_failureAt cX5_failureAt 6 (some .int) : Cond) ∈ wsA := inA (k := 805) (by decide +kernel) rfl
theorem q806 : (.methodLink RL 109 yX5_copy : Cond) ∈ wsA := inA (k := 806) (by decide +kernel) rfl
theorem q807 : (.instanceMethod yX5_copy : Cond) ∈ wsA := inA (k := 807) (by decide +kernel) rfl
theorem q808 : (.selects RX5 yX5_copy yX5_copy : Cond) ∈ wsA := inA (k := 808) (by decide +kernel) rfl
theorem q809 : (.code yX5_copy cX5_copy 6 (some .int) : Cond) ∈ wsA := inA (k := 809) (by decide +kernel) rfl
theorem q810 : (.methodLink RX5 151 yX5_brings : Cond) ∈ wsA := inA (k := 810) (by decide +kernel) rfl
theorem q812 : (.instanceMethod yX5_brings : Cond) ∈ wsA := inA (k := 812) (by decide +kernel) rfl
theorem q813 : (.code yX5_brings cX5_brings 13 (some .int) : Cond) ∈ wsA := inA (k := 813) (by decide +kernel) rfl
theorem q814 : (.methodLink RX5 134 yX5_digits : Cond) ∈ wsA := inA (k := 814) (by decide +kernel) rfl
theorem q815 : (.static yX5_digits : Cond) ∈ wsA := inA (k := 815) (by decide +kernel) rfl
theorem q816 : (.code yX5_digits cX5_digits 1 (some .int) : Cond) ∈ wsA := inA (k := 816) (by decide +kernel) rfl
theorem q817 : (.methodLink RX5 137 yX5_mayAll : Cond) ∈ wsA := inA (k := 817) (by decide +kernel) rfl
theorem q819 : (.instanceMethod yX5_mayAll : Cond) ∈ wsA := inA (k := 819) (by decide +kernel) rfl
theorem q820 : (.code yX5_mayAll cX5_mayAll 6 (some .boolean) : Cond) ∈ wsA := inA (k := 820) (by decide +kernel) rfl
theorem q821 : (.methodLink RX5 140 yX5_carries : Cond) ∈ wsA := inA (k := 821) (by decide +kernel) rfl
theorem q823 : (.instanceMethod yX5_carries : Cond) ∈ wsA := inA (k := 823) (by decide +kernel) rfl
theorem q824 : (.code yX5_carries cX5_carries 7 (none : Option Jvm.ClassFile.FieldType) : Cond) ∈ wsA := inA (k := 824) (by decide +kernel) rfl
theorem q825 : (.methodLink RX5 144 yX5_lowest : Cond) ∈ wsA := inA (k := 825) (by decide +kernel) rfl
theorem q827 : (.instanceMethod yX5_lowest : Cond) ∈ wsA := inA (k := 827) (by decide +kernel) rfl
theorem q828 : (.code yX5_lowest cX5_lowest 3 (some .int) : Cond) ∈ wsA := inA (k := 828) (by decide +kernel) rfl
theorem q829 : (.methodLink RX5 147 yX5_power : Cond) ∈ wsA := inA (k := 829) (by decide +kernel) rfl
theorem q830 : (.static yX5_power : Cond) ∈ wsA := inA (k := 830) (by decide +kernel) rfl
theorem q831 : (.code yX5_power cX5_power 4 (some .int) : Cond) ∈ wsA := inA (k := 831) (by decide +kernel) rfl
theorem q832 : (.methodLink RL 112 yX5_move : Cond) ∈ wsA := inA (k := 832) (by decide +kernel) rfl
theorem q833 : (.instanceMethod yX5_move : Cond) ∈ wsA := inA (k := 833) (by decide +kernel) rfl
theorem q834 : (.selects RX5 yX5_move yX5_move : Cond) ∈ wsA := inA (k := 834) (by decide +kernel) rfl
theorem q835 : (.code yX5_move cX5_move 6 (some .int) : Cond) ∈ wsA := inA (k := 835) (by decide +kernel) rfl
theorem q836 : (.methodLink RL 115 yX5_kindOf : Cond) ∈ wsA := inA (k := 836) (by decide +kernel) rfl
theorem q837 : (.instanceMethod yX5_kindOf : Cond) ∈ wsA := inA (k := 837) (by decide +kernel) rfl
theorem q838 : (.selects RX5 yX5_kindOf yX5_kindOf : Cond) ∈ wsA := inA (k := 838) (by decide +kernel) rfl
theorem q839 : (.code yX5_kindOf cX5_kindOf 2 (some .int) : Cond) ∈ wsA := inA (k := 839) (by decide +kernel) rfl
theorem q840 : (.methodLink RX5 155 yX5_asks : Cond) ∈ wsA := inA (k := 840) (by decide +kernel) rfl
theorem q842 : (.instanceMethod yX5_asks : Cond) ∈ wsA := inA (k := 842) (by decide +kernel) rfl
theorem q843 : (.code yX5_asks cX5_asks 2 (some .boolean) : Cond) ∈ wsA := inA (k := 843) (by decide +kernel) rfl
theorem q844 : (.methodLink RL 118 yX5_content : Cond) ∈ wsA := inA (k := 844) (by decide +kernel) rfl
theorem q845 : (.instanceMethod yX5_content : Cond) ∈ wsA := inA (k := 845) (by decide +kernel) rfl
theorem q846 : (.selects RX5 yX5_content yX5_content : Cond) ∈ wsA := inA (k := 846) (by decide +kernel) rfl
theorem q847 : (.code yX5_content cX5_content 2 (some .int) : Cond) ∈ wsA := inA (k := 847) (by decide +kernel) rfl
theorem q848 : (.methodLink RL 122 yX5_resources : Cond) ∈ wsA := inA (k := 848) (by decide +kernel) rfl
theorem q849 : (.instanceMethod yX5_resources : Cond) ∈ wsA := inA (k := 849) (by decide +kernel) rfl
theorem q850 : (.selects RX5 yX5_resources yX5_resources : Cond) ∈ wsA := inA (k := 850) (by decide +kernel) rfl
theorem q851 : (.code yX5_resources cX5_resources 1 (some .int) : Cond) ∈ wsA := inA (k := 851) (by decide +kernel) rfl
theorem q852 : (.methodLink RL 125 yX5_members : Cond) ∈ wsA := inA (k := 852) (by decide +kernel) rfl
theorem q853 : (.instanceMethod yX5_members : Cond) ∈ wsA := inA (k := 853) (by decide +kernel) rfl
theorem q854 : (.selects RX5 yX5_members yX5_members : Cond) ∈ wsA := inA (k := 854) (by decide +kernel) rfl
theorem q855 : (.code yX5_members cX5_members 2 (some .int) : Cond) ∈ wsA := inA (k := 855) (by decide +kernel) rfl
theorem q856 : (.methodLink RX5 161 yX5_membersOf : Cond) ∈ wsA := inA (k := 856) (by decide +kernel) rfl
theorem q858 : (.instanceMethod yX5_membersOf : Cond) ∈ wsA := inA (k := 858) (by decide +kernel) rfl
theorem q859 : (.code yX5_membersOf cX5_membersOf 4 (some .int) : Cond) ∈ wsA := inA (k := 859) (by decide +kernel) rfl
theorem q860 : (.methodLink RX5 158 yX5_isMember : Cond) ∈ wsA := inA (k := 860) (by decide +kernel) rfl
theorem q862 : (.instanceMethod yX5_isMember : Cond) ∈ wsA := inA (k := 862) (by decide +kernel) rfl
theorem q863 : (.code yX5_isMember cX5_isMember 3 (some .boolean) : Cond) ∈ wsA := inA (k := 863) (by decide +kernel) rfl
theorem q864 : (.methodLink RL 129 yX5_memberAt : Cond) ∈ wsA := inA (k := 864) (by decide +kernel) rfl
theorem q865 : (.instanceMethod yX5_memberAt : Cond) ∈ wsA := inA (k := 865) (by decide +kernel) rfl
theorem q866 : (.selects RX5 yX5_memberAt yX5_memberAt : Cond) ∈ wsA := inA (k := 866) (by decide +kernel) rfl
theorem q867 : (.code yX5_memberAt cX5_memberAt 4 (some .int) : Cond) ∈ wsA := inA (k := 867) (by decide +kernel) rfl
theorem q868 : (.methodLink RX5 164 yX5_memberOf : Cond) ∈ wsA := inA (k := 868) (by decide +kernel) rfl
theorem q870 : (.instanceMethod yX5_memberOf : Cond) ∈ wsA := inA (k := 870) (by decide +kernel) rfl
theorem q871 : (.code yX5_memberOf cX5_memberOf 7 (some .int) : Cond) ∈ wsA := inA (k := 871) (by decide +kernel) rfl
theorem q872 : (.methodLink RL 133 yX5_order : Cond) ∈ wsA := inA (k := 872) (by decide +kernel) rfl
theorem q873 : (.instanceMethod yX5_order : Cond) ∈ wsA := inA (k := 873) (by decide +kernel) rfl
theorem q874 : (.selects RX5 yX5_order yX5_order : Cond) ∈ wsA := inA (k := 874) (by decide +kernel) rfl
theorem q875 : (.code yX5_order cX5_order 11 (some .int) : Cond) ∈ wsA := inA (k := 875) (by decide +kernel) rfl
theorem q876 : (.methodLink RL 137 yX5_lock : Cond) ∈ wsA := inA (k := 876) (by decide +kernel) rfl
theorem q877 : (.instanceMethod yX5_lock : Cond) ∈ wsA := inA (k := 877) (by decide +kernel) rfl
theorem q878 : (.selects RX5 yX5_lock yX5_lock : Cond) ∈ wsA := inA (k := 878) (by decide +kernel) rfl
theorem q879 : (.code yX5_lock cX5_lock 9 (some .int) : Cond) ∈ wsA := inA (k := 879) (by decide +kernel) rfl
theorem q880 : (.methodLink RX5 167 yX5_clashes : Cond) ∈ wsA := inA (k := 880) (by decide +kernel) rfl
theorem q882 : (.instanceMethod yX5_clashes : Cond) ∈ wsA := inA (k := 882) (by decide +kernel) rfl
theorem q883 : (.code yX5_clashes cX5_clashes 7 (some .boolean) : Cond) ∈ wsA := inA (k := 883) (by decide +kernel) rfl
theorem q884 : (.methodLink RL 140 yX5_refresh : Cond) ∈ wsA := inA (k := 884) (by decide +kernel) rfl
theorem q885 : (.instanceMethod yX5_refresh : Cond) ∈ wsA := inA (k := 885) (by decide +kernel) rfl
theorem q886 : (.selects RX5 yX5_refresh yX5_refresh : Cond) ∈ wsA := inA (k := 886) (by decide +kernel) rfl
theorem q887 : (.code yX5_refresh cX5_refresh 5 (some .int) : Cond) ∈ wsA := inA (k := 887) (by decide +kernel) rfl
theorem q888 : (.methodLink RL 143 yX5_pass : Cond) ∈ wsA := inA (k := 888) (by decide +kernel) rfl
theorem q889 : (.instanceMethod yX5_pass : Cond) ∈ wsA := inA (k := 889) (by decide +kernel) rfl
theorem q890 : (.selects RX5 yX5_pass yX5_pass : Cond) ∈ wsA := inA (k := 890) (by decide +kernel) rfl
theorem q891 : (.code yX5_pass cX5_pass 4 (some .int) : Cond) ∈ wsA := inA (k := 891) (by decide +kernel) rfl
theorem q892 : (.constant RX5 171 (1000000 : Int32) : Cond) ∈ wsA := inA (k := 892) (by decide +kernel) rfl
theorem q893 : (.methodLink RL 146 yX5_covering : Cond) ∈ wsA := inA (k := 893) (by decide +kernel) rfl
theorem q894 : (.instanceMethod yX5_covering : Cond) ∈ wsA := inA (k := 894) (by decide +kernel) rfl
theorem q895 : (.selects RX5 yX5_covering yX5_covering : Cond) ∈ wsA := inA (k := 895) (by decide +kernel) rfl
theorem q896 : (.code yX5_covering cX5_covering 2 (some .int) : Cond) ∈ wsA := inA (k := 896) (by decide +kernel) rfl
theorem q897 : (.methodLink RL 149 yX5_mayChange : Cond) ∈ wsA := inA (k := 897) (by decide +kernel) rfl
theorem q898 : (.instanceMethod yX5_mayChange : Cond) ∈ wsA := inA (k := 898) (by decide +kernel) rfl
theorem q899 : (.selects RX5 yX5_mayChange yX5_mayChange : Cond) ∈ wsA := inA (k := 899) (by decide +kernel) rfl
theorem q900 : (.code yX5_mayChange cX5_mayChange 4 (some .boolean) : Cond) ∈ wsA := inA (k := 900) (by decide +kernel) rfl
theorem q901 : (.methodLink RL 152 yX5_keep : Cond) ∈ wsA := inA (k := 901) (by decide +kernel) rfl
theorem q902 : (.instanceMethod yX5_keep : Cond) ∈ wsA := inA (k := 902) (by decide +kernel) rfl
theorem q903 : (.selects RX5 yX5_keep yX5_keep : Cond) ∈ wsA := inA (k := 903) (by decide +kernel) rfl
theorem q904 : (.code yX5_keep cX5_keep 4 (some .int) : Cond) ∈ wsA := inA (k := 904) (by decide +kernel) rfl
theorem q905 : (.methodLink RL 155 yX5_restore : Cond) ∈ wsA := inA (k := 905) (by decide +kernel) rfl
theorem q906 : (.instanceMethod yX5_restore : Cond) ∈ wsA := inA (k := 906) (by decide +kernel) rfl
theorem q907 : (.selects RX5 yX5_restore yX5_restore : Cond) ∈ wsA := inA (k := 907) (by decide +kernel) rfl
theorem q908 : (.code yX5_restore cX5_restore 8 (some .int) : Cond) ∈ wsA := inA (k := 908) (by decide +kernel) rfl
theorem q909 : (.arrayClass .long : Cond) ∈ wsA := inA (k := 909) (by decide +kernel) rfl
end
section
/-! ===== the memory: what the cells hold, by tags: 0 failedCount, 1 failed, 2 shelf.count, 3 shelf.row (numbers of resources), 4 path, 5 kind, 6 content, 7 isGoing, 8 versionCount of resource i, 100 + r the versions of resource r, 10 locks.count, 11 now, 12 client, 13 path, 14 isShared, 15 isDeep, 16 end of lock i; 20 .. 39 the reference's fields; 40 the law's row ===== -/
abbrev Mem : Type := Nat → Nat → Int32
def mu (M : Mem) (t i : Nat) (v : Int32) : Mem := fun a => if a = t then (fun j => if j = i then v else M t j) else M a
theorem mu_ne (M : Mem) {t a : Nat} (i : Nat) (v : Int32) (h : a ≠ t) : mu M t i v a = M a := if_neg h
theorem mu_eq (M : Mem) (t i : Nat) (v : Int32) (j : Nat) : mu M t i v t j = if j = i then v else M t j := by unfold mu; rw [if_pos rfl]
theorem mu_fn (M : Mem) (t i : Nat) (v : Int32) : mu M t i v t = fun j => if j = i then v else M t j := by unfold mu; rw [if_pos rfl]
theorem mu_self (M : Mem) (t i : Nat) (v : Int32) : mu M t i v t i = v := by rw [mu_eq, if_pos rfl]
theorem mu_of (M : Mem) {t i t' i' : Nat} (v : Int32) (h : ¬ (t' = t ∧ i' = i)) : mu M t i v t' i' = M t' i' := by
  by_cases ht : t' = t
  · subst ht
    rw [mu_eq, if_neg (fun q => h ⟨rfl, q⟩)]
  · rw [mu_ne M i v ht]
abbrev Zt : Type := va_G × (Nat → ClassId)
def tysZ (Z : Zt) : List (ClassId × FieldType) := [(Z.2 0, .int), (Z.2 1, .boolean), (Z.2 2, .long), (Z.2 3, .object RX0), (Z.2 4, .object RX2)]
def rk (M : Mem) (j : Nat) : Nat := (M 3 j).toNatClampNeg
def resE (b : Nat) (M : Mem) (r : Nat) : va_E := .inr (2, [.int (M 4 r), .int (M 5 r), .int (M 6 r), .int (M 7 r), .ref (b + (4 + 2 * r)), .int (M 8 r)])
def verE (Z : Zt) (M : Mem) (r : Nat) : va_E := .inl (Z.2 0, 10, .inl (M (100 + r)))
def lokE (M : Mem) (r : Nat) : va_E := .inr (0, [.int (M 12 r), .int (M 13 r), .int (M 14 r), .int (M 15 r), .int (M 16 r)])
def enLo (Z : Zt) (b : Nat) (M : Mem) (k : Nat) : va_E := if k = 0 then .inr (4, [.ref (b + 1), .ref (b + 123), .ref (b + 155), .int (M 0 0)]) else if k = 1 then .inr (3, [.ref (b + 2), .int (M 2 0)]) else .inl (Z.2 4, 60, .inr (.inr (.inr (.inr (fun j => some (b + (3 + 2 * rk M j)))))))
def enHi (Z : Zt) (b : Nat) (M : Mem) (k : Nat) : va_E := if k = 123 then .inr (1, [.ref (b + 124), .int (M 10 0), .int (M 11 0)]) else if k = 124 then .inl (Z.2 3, 30, .inr (.inr (.inr (.inr (fun j => some (b + (125 + j))))))) else if k = 155 then .inl (Z.2 0, 60, .inl (M 1)) else if k = 156 then .inr (5, [.ref (b + 157), .ref (b + 158), .ref (b + 159), .ref (b + 160), .ref (b + 161), .int (M 25 0), .ref (b + 162), .ref (b + 163), .int (M 28 0), .int (M 29 0), .ref (b + 164), .ref (b + 165), .ref (b + 166), .ref (b + 167), .ref (b + 168), .int (M 35 0), .ref (b + 169), .ref (b + 170), .ref (b + 171), .int (M 39 0)]) else if k = 157 then .inl (Z.2 1, 60, .inl (M 20)) else if k = 158 then .inl (Z.2 0, 60, .inl (M 21)) else if k = 159 then .inl (Z.2 0, 60, .inl (M 22)) else if k = 160 then .inl (Z.2 0, 60, .inl (M 23)) else if k = 161 then .inl (Z.2 0, 60, .inl (M 24)) else if k = 162 then .inl (Z.2 0, 60, .inl (M 26)) else if k = 163 then .inl (Z.2 0, 600, .inl (M 27)) else if k = 164 then .inl (Z.2 0, 30, .inl (M 30)) else if k = 165 then .inl (Z.2 0, 30, .inl (M 31)) else if k = 166 then .inl (Z.2 1, 30, .inl (M 32)) else if k = 167 then .inl (Z.2 1, 30, .inl (M 33)) else if k = 168 then .inl (Z.2 0, 30, .inl (M 34)) else if k = 169 then .inl (Z.2 0, 60, .inl (M 36)) else if k = 170 then .inl (Z.2 1, 60, .inl (M 37)) else if k = 171 then .inl (Z.2 1, 60, .inl (M 38)) else .inl (Z.2 2, 1, .inr (.inl (fun j => (M 40 j).toInt64)))
def en (Z : Zt) (b : Nat) (M : Mem) (k : Nat) : va_E :=
  if k < 3 then enLo Z b M k else if k < 123 then (if (k - 3) % 2 = 0 then resE b M ((k - 3) / 2) else verE Z M ((k - 3) / 2)) else if 125 ≤ k ∧ k < 155 then lokE M (k - 125) else enHi Z b M k
def wl (Z : Zt) (b : Nat) (M : Mem) : va_W := (List.range 173).map (fun k => (b + k, en Z b M k))
def Wd (Z : Zt) (b : Nat) (M : Mem) (H : Heap) : Prop := va_P Z.1 vwCl (wl Z b M) H
theorem wl_get {Z : Zt} {b : Nat} {M : Mem} {k : Nat} (h : k < 173) : (wl Z b M)[k]? = some (b + k, en Z b M k) := by
  simp [wl, List.getElem?_map, List.getElem?_range h]
theorem wl_len (Z : Zt) (b : Nat) (M : Mem) : (wl Z b M).length = 173 := by simp [wl]
theorem wl_none {Z : Zt} {b : Nat} {M : Mem} {k : Nat} (h : ¬ k < 173) : (wl Z b M)[k]? = none := List.getElem?_eq_none (by rw [wl_len]; omega)
def A0 (b : Nat) : Nat → Prop := fun q => b ≤ q
theorem wl_D (Z : Zt) (b : Nat) (M : Mem) : va_D (A0 b) (wl Z b M) := by
  have at' : ∀ (k : Nat) (q : Nat × va_E), (wl Z b M)[k]? = some q → k < 173 ∧ q.1 = b + k := by
    intro k q h
    by_cases hk : k < 173
    · rw [wl_get hk] at h
      cases h
      exact ⟨hk, rfl⟩
    · rw [wl_none hk] at h
      cases h
  refine ⟨fun i j x y hi hj h => ?_, fun k q h => ?_⟩
  · have h1 := (at' i x hi).2
    have h2 := (at' j y hj).2
    omega
  · show b ≤ q.1
    have h1 := (at' k q h).2
    omega
theorem en_R (Z : Zt) (b : Nat) (M : Mem) {r : Nat} (h : r < 60) : en Z b M (3 + 2 * r) = resE b M r := by
  unfold en
  rw [if_neg (by omega), if_pos (by omega), if_pos (by omega), show (3 + 2 * r - 3) / 2 = r by omega]
theorem en_V (Z : Zt) (b : Nat) (M : Mem) {r : Nat} (h : r < 60) : en Z b M (4 + 2 * r) = verE Z M r := by
  unfold en
  rw [if_neg (by omega), if_pos (by omega), if_neg (by omega), show (4 + 2 * r - 3) / 2 = r by omega]
theorem en_L (Z : Zt) (b : Nat) (M : Mem) {r : Nat} (h : r < 30) : en Z b M (125 + r) = lokE M r := by
  unfold en
  rw [if_neg (by omega), if_neg (by omega), if_pos (by omega), show 125 + r - 125 = r by omega]
theorem en_0 (Z : Zt) (b : Nat) (M : Mem) : en Z b M 0 = .inr (4, [.ref (b + 1), .ref (b + 123), .ref (b + 155), .int (M 0 0)]) := by unfold en; rw [if_pos (by omega)]; rfl
theorem en_1 (Z : Zt) (b : Nat) (M : Mem) : en Z b M 1 = .inr (3, [.ref (b + 2), .int (M 2 0)]) := by unfold en; rw [if_pos (by omega)]; rfl
theorem en_2 (Z : Zt) (b : Nat) (M : Mem) : en Z b M 2 = .inl (Z.2 4, 60, .inr (.inr (.inr (.inr (fun j => some (b + (3 + 2 * rk M j))))))) := by unfold en; rw [if_pos (by omega)]; rfl
theorem en_123 (Z : Zt) (b : Nat) (M : Mem) : en Z b M 123 = .inr (1, [.ref (b + 124), .int (M 10 0), .int (M 11 0)]) := by unfold en; rw [if_neg (by omega), if_neg (by omega), if_neg (by omega)]; rfl
theorem en_124 (Z : Zt) (b : Nat) (M : Mem) : en Z b M 124 = .inl (Z.2 3, 30, .inr (.inr (.inr (.inr (fun j => some (b + (125 + j))))))) := by unfold en; rw [if_neg (by omega), if_neg (by omega), if_neg (by omega)]; rfl
theorem en_155 (Z : Zt) (b : Nat) (M : Mem) : en Z b M 155 = .inl (Z.2 0, 60, .inl (M 1)) := by unfold en; rw [if_neg (by omega), if_neg (by omega), if_neg (by omega)]; rfl
theorem en_156 (Z : Zt) (b : Nat) (M : Mem) : en Z b M 156 = .inr (5, [.ref (b + 157), .ref (b + 158), .ref (b + 159), .ref (b + 160), .ref (b + 161), .int (M 25 0), .ref (b + 162), .ref (b + 163), .int (M 28 0), .int (M 29 0), .ref (b + 164), .ref (b + 165), .ref (b + 166), .ref (b + 167), .ref (b + 168), .int (M 35 0), .ref (b + 169), .ref (b + 170), .ref (b + 171), .int (M 39 0)]) := by unfold en; rw [if_neg (by omega), if_neg (by omega), if_neg (by omega)]; rfl
theorem en_157 (Z : Zt) (b : Nat) (M : Mem) : en Z b M 157 = .inl (Z.2 1, 60, .inl (M 20)) := by unfold en; rw [if_neg (by omega), if_neg (by omega), if_neg (by omega)]; rfl
theorem en_158 (Z : Zt) (b : Nat) (M : Mem) : en Z b M 158 = .inl (Z.2 0, 60, .inl (M 21)) := by unfold en; rw [if_neg (by omega), if_neg (by omega), if_neg (by omega)]; rfl
theorem en_159 (Z : Zt) (b : Nat) (M : Mem) : en Z b M 159 = .inl (Z.2 0, 60, .inl (M 22)) := by unfold en; rw [if_neg (by omega), if_neg (by omega), if_neg (by omega)]; rfl
theorem en_160 (Z : Zt) (b : Nat) (M : Mem) : en Z b M 160 = .inl (Z.2 0, 60, .inl (M 23)) := by unfold en; rw [if_neg (by omega), if_neg (by omega), if_neg (by omega)]; rfl
theorem en_161 (Z : Zt) (b : Nat) (M : Mem) : en Z b M 161 = .inl (Z.2 0, 60, .inl (M 24)) := by unfold en; rw [if_neg (by omega), if_neg (by omega), if_neg (by omega)]; rfl
theorem en_162 (Z : Zt) (b : Nat) (M : Mem) : en Z b M 162 = .inl (Z.2 0, 60, .inl (M 26)) := by unfold en; rw [if_neg (by omega), if_neg (by omega), if_neg (by omega)]; rfl
theorem en_163 (Z : Zt) (b : Nat) (M : Mem) : en Z b M 163 = .inl (Z.2 0, 600, .inl (M 27)) := by unfold en; rw [if_neg (by omega), if_neg (by omega), if_neg (by omega)]; rfl
theorem en_164 (Z : Zt) (b : Nat) (M : Mem) : en Z b M 164 = .inl (Z.2 0, 30, .inl (M 30)) := by unfold en; rw [if_neg (by omega), if_neg (by omega), if_neg (by omega)]; rfl
theorem en_165 (Z : Zt) (b : Nat) (M : Mem) : en Z b M 165 = .inl (Z.2 0, 30, .inl (M 31)) := by unfold en; rw [if_neg (by omega), if_neg (by omega), if_neg (by omega)]; rfl
theorem en_166 (Z : Zt) (b : Nat) (M : Mem) : en Z b M 166 = .inl (Z.2 1, 30, .inl (M 32)) := by unfold en; rw [if_neg (by omega), if_neg (by omega), if_neg (by omega)]; rfl
theorem en_167 (Z : Zt) (b : Nat) (M : Mem) : en Z b M 167 = .inl (Z.2 1, 30, .inl (M 33)) := by unfold en; rw [if_neg (by omega), if_neg (by omega), if_neg (by omega)]; rfl
theorem en_168 (Z : Zt) (b : Nat) (M : Mem) : en Z b M 168 = .inl (Z.2 0, 30, .inl (M 34)) := by unfold en; rw [if_neg (by omega), if_neg (by omega), if_neg (by omega)]; rfl
theorem en_169 (Z : Zt) (b : Nat) (M : Mem) : en Z b M 169 = .inl (Z.2 0, 60, .inl (M 36)) := by unfold en; rw [if_neg (by omega), if_neg (by omega), if_neg (by omega)]; rfl
theorem en_170 (Z : Zt) (b : Nat) (M : Mem) : en Z b M 170 = .inl (Z.2 1, 60, .inl (M 37)) := by unfold en; rw [if_neg (by omega), if_neg (by omega), if_neg (by omega)]; rfl
theorem en_171 (Z : Zt) (b : Nat) (M : Mem) : en Z b M 171 = .inl (Z.2 1, 60, .inl (M 38)) := by unfold en; rw [if_neg (by omega), if_neg (by omega), if_neg (by omega)]; rfl
theorem en_172 (Z : Zt) (b : Nat) (M : Mem) : en Z b M 172 = .inl (Z.2 2, 1, .inr (.inl (fun j => (M 40 j).toInt64))) := by unfold en; rw [if_neg (by omega), if_neg (by omega), if_neg (by omega)]; rfl
def ow (t i : Nat) : Nat := if t = 0 then 0 else if t = 1 then 155 else if t = 2 then 1 else if t = 3 then 2 else if t < 9 then 3 + 2 * i else if 100 ≤ t then 4 + 2 * (t - 100) else if t < 12 then 123 else if t < 17 then 125 + i else if t = 20 then 157 else if t = 21 then 158 else if t = 22 then 159 else if t = 23 then 160 else if t = 24 then 161 else if t = 26 then 162 else if t = 27 then 163 else if t = 30 then 164 else if t = 31 then 165 else if t = 32 then 166 else if t = 33 then 167 else if t = 34 then 168 else if t = 36 then 169 else if t = 37 then 170 else if t = 38 then 171 else if t = 40 then 172 else 156
theorem en_cong {Z : Zt} {b : Nat} {M M' : Mem} {k : Nat} (hk : k < 173) (h : ∀ t i, ow t i = k → M t i = M' t i) : en Z b M k = en Z b M' k := by
  by_cases h3 : k < 3
  · rcases (show k = 0 ∨ k = 1 ∨ k = 2 by omega) with rfl | rfl | rfl
    · rw [en_0, en_0, h 0 0 rfl]
    · rw [en_1, en_1, h 2 0 rfl]
    · rw [en_2, en_2]
      unfold rk
      rw [show M 3 = M' 3 from funext fun j => h 3 j rfl]
  by_cases h4 : k < 123
  · by_cases h5 : (k - 3) % 2 = 0
    · obtain ⟨r, hr, rfl⟩ : ∃ r, r < 60 ∧ k = 3 + 2 * r := ⟨(k - 3) / 2, by omega, by omega⟩
      rw [en_R Z b M hr, en_R Z b M' hr]
      unfold resE
      rw [h 4 r rfl, h 5 r rfl, h 6 r rfl, h 7 r rfl, h 8 r rfl]
    · obtain ⟨r, hr, rfl⟩ : ∃ r, r < 60 ∧ k = 4 + 2 * r := ⟨(k - 3) / 2, by omega, by omega⟩
      rw [en_V Z b M hr, en_V Z b M' hr]
      unfold verE
      rw [show M (100 + r) = M' (100 + r) from funext fun j => h (100 + r) j (by unfold ow; rw [if_neg (by omega), if_neg (by omega), if_neg (by omega), if_neg (by omega), if_neg (by omega), if_pos (by omega), show 100 + r - 100 = r by omega])]
  by_cases h6 : 125 ≤ k ∧ k < 155
  · obtain ⟨r, hr, rfl⟩ : ∃ r, r < 30 ∧ k = 125 + r := ⟨k - 125, by omega, by omega⟩
    rw [en_L Z b M hr, en_L Z b M' hr]
    unfold lokE
    rw [h 12 r rfl, h 13 r rfl, h 14 r rfl, h 15 r rfl, h 16 r rfl]
  rcases (show k = 123 ∨ k = 124 ∨ k = 155 ∨ k = 156 ∨ k = 157 ∨ k = 158 ∨ k = 159 ∨ k = 160 ∨ k = 161 ∨ k = 162 ∨ k = 163 ∨ k = 164 ∨ k = 165 ∨ k = 166 ∨ k = 167 ∨ k = 168 ∨ k = 169 ∨ k = 170 ∨ k = 171 ∨ k = 172 by omega) with rfl | rfl | rfl | rfl | rfl | rfl | rfl | rfl | rfl | rfl | rfl | rfl | rfl | rfl | rfl | rfl | rfl | rfl | rfl | rfl
  · rw [en_123, en_123, h 10 0 rfl, h 11 0 rfl]
  · rw [en_124, en_124]
  · rw [en_155, en_155, show M 1 = M' 1 from funext fun j => h 1 j rfl]
  · rw [en_156, en_156, h 25 0 rfl, h 28 0 rfl, h 29 0 rfl, h 35 0 rfl, h 39 0 rfl]
  · rw [en_157, en_157, show M 20 = M' 20 from funext fun j => h 20 j rfl]
  · rw [en_158, en_158, show M 21 = M' 21 from funext fun j => h 21 j rfl]
  · rw [en_159, en_159, show M 22 = M' 22 from funext fun j => h 22 j rfl]
  · rw [en_160, en_160, show M 23 = M' 23 from funext fun j => h 23 j rfl]
  · rw [en_161, en_161, show M 24 = M' 24 from funext fun j => h 24 j rfl]
  · rw [en_162, en_162, show M 26 = M' 26 from funext fun j => h 26 j rfl]
  · rw [en_163, en_163, show M 27 = M' 27 from funext fun j => h 27 j rfl]
  · rw [en_164, en_164, show M 30 = M' 30 from funext fun j => h 30 j rfl]
  · rw [en_165, en_165, show M 31 = M' 31 from funext fun j => h 31 j rfl]
  · rw [en_166, en_166, show M 32 = M' 32 from funext fun j => h 32 j rfl]
  · rw [en_167, en_167, show M 33 = M' 33 from funext fun j => h 33 j rfl]
  · rw [en_168, en_168, show M 34 = M' 34 from funext fun j => h 34 j rfl]
  · rw [en_169, en_169, show M 36 = M' 36 from funext fun j => h 36 j rfl]
  · rw [en_170, en_170, show M 37 = M' 37 from funext fun j => h 37 j rfl]
  · rw [en_171, en_171, show M 38 = M' 38 from funext fun j => h 38 j rfl]
  · rw [en_172, en_172, show M 40 = M' 40 from funext fun j => h 40 j rfl]
theorem wl_set {Z : Zt} {b : Nat} (M : Mem) {t i k : Nat} (v : Int32) (hk : k < 173) (ho : ow t i = k) : (wl Z b M).set k (b + k, en Z b (mu M t i v) k) = wl Z b (mu M t i v) := by
  apply List.ext_getElem?
  intro j
  by_cases hj : j < 173
  · by_cases e : j = k
    · subst e
      rw [List.getElem?_set_self (by rw [wl_len]; exact hj), wl_get hj]
    · rw [List.getElem?_set_ne (Ne.symm e), wl_get hj, wl_get hj, en_cong (M := M) (M' := mu M t i v) hj (fun t' i' q => (mu_of M v (fun z => e (by rw [← q, ← ho, z.1, z.2]))).symm)]
  · rw [wl_none hj, List.getElem?_eq_none (by rw [List.length_set, wl_len]; omega)]
theorem wd_set {Z : Zt} {b : Nat} {M : Mem} {t i k : Nat} {v : Int32} {E : va_E} {H1 : Heap} (hk : k < 173) (ho : ow t i = k) (hE : en Z b (mu M t i v) k = E) (h : va_P Z.1 vwCl ((wl Z b M).set k (b + k, E)) H1) : Wd Z b (mu M t i v) H1 := by
  rw [← hE, wl_set M v hk ho] at h
  exact h
/-! ===== the context ===== -/
def nestW : List Cond := [.methodLinkNest RX4 9 yX3_init RX4, .methodLinkNest RX3 17 yX2_init RX4, .fieldLinkNest RX3 22 "ShelfServer$Resource" "path" "I" RX4, .fieldLinkNest RX4 150 "ShelfServer$Resource" "path" "I" RX4, .fieldLinkNest RX3 33 "ShelfServer$Resource" "kind" "I" RX4, .fieldLinkNest RX4 132 "ShelfServer$Resource" "content" "I" RX4, .fieldLinkNest RX3 51 "ShelfServer$Resource" "content" "I" RX4, .fieldLinkNest RX3 61 "ShelfServer$Resource" "isGoing" "Z" RX4, .fieldLinkNest RX4 250 "ShelfServer$Resource" "isGoing" "Z" RX4, .fieldLinkNest RX4 203 "ShelfServer$Resource" "versionCount" "I" RX4, .fieldLinkNest RX4 146 "ShelfServer$Shelf" "row" "[LShelfServer$Resource;" RX4, .fieldLinkNest RX4 57 "ShelfServer$Shelf" "count" "I" RX4, .methodLinkNest RX4 18 yX1_init RX4, .methodLinkNest RX1 17 yX0_init RX4, .fieldLinkNest RX1 40 "ShelfServer$Lock" "client" "I" RX4, .fieldLinkNest RX4 179 "ShelfServer$Lock" "client" "I" RX4, .fieldLinkNest RX1 47 "ShelfServer$Lock" "path" "I" RX4, .fieldLinkNest RX1 43 "ShelfServer$Lock" "isShared" "Z" RX4, .fieldLinkNest RX1 54 "ShelfServer$Lock" "isDeep" "Z" RX4, .fieldLinkNest RX1 25 "ShelfServer$Lock" "end" "I" RX4, .fieldLinkNest RX4 186 "ShelfServer$Lock" "end" "I" RX4, .fieldLinkNest RX4 156 "ShelfServer$Locks" "count" "I" RX4, .fieldLinkNest RX4 189 "ShelfServer$Locks" "now" "I" RX4, .methodLinkNest RX4 45 yX3_isCollection RX4, .methodLinkNest RX4 49 yX3_find RX4, .methodLinkNest RX4 111 yX1_allows RX4, .methodLinkNest RX1 32 yX0_covers RX4, .methodLinkNest RX0 17 yX4_isAbove RX4, .methodLinkNest RX4 60 yX3_append RX4, .methodLinkNest RX3 39 yX2_begin RX4, .methodLinkNest RX4 129 yX3_findFile RX4, .methodLinkNest RX4 78 yX3_markTree RX4, .methodLinkNest RX3 43 yX4_isIn RX4, .methodLinkNest RX4 247 yX3_spareUpFrom RX4, .methodLinkNest RX4 254 yX1_dropAt RX4, .methodLinkNest RX4 257 yX3_removeMarked RX4, .methodLinkNest RX4 241 yX3_fits RX4, .methodLinkNest RX3 47 yX4_moved RX4, .methodLinkNest RX4 102 yX3_treeSize RX4, .methodLinkNest RX4 108 yX3_appendCopyOfTree RX4, .methodLinkNest RX4 120 yX3_renameTree RX4, .methodLinkNest RX3 65 yX4_parentOf RX4, .methodLinkNest RX4 126 yX3_kindAt RX4, .methodLinkNest RX4 137 yX3_memberCount RX4, .methodLinkNest RX4 140 yX3_memberIndex RX4, .methodLinkNest RX4 153 yX3_placeMember RX4, .methodLinkNest RX4 162 yX1_bar RX4, .methodLinkNest RX1 50 yX4_isAbove RX4, .methodLinkNest RX4 170 yX1_add RX4, .methodLinkNest RX4 174 yX1_find RX4, .methodLinkNest RX4 195 yX1_advance RX4, .methodLinkNest RX4 198 yX1_tokensOver RX4, .methodLinkNest RX4 208 yX2_addVersion RX4, .methodLinkNest RX4 212 yX2_hasVersion RX4, .methodLinkNest RX4 215 yX2_takeVersion RX4]
def excW : List Cond := (vx_atS RX4 222 "java/lang/IllegalArgumentException" ["java/lang/RuntimeException", "java/lang/Exception"]).filter (fun w => !goodWord w) ++ (vx_atS RX4 91 "java/lang/IndexOutOfBoundsException" ["java/lang/RuntimeException", "java/lang/Exception"]).filter (fun w => !goodWord w) ++ (vx_atS RX4 161 "java/lang/IllegalStateException" ["java/lang/RuntimeException", "java/lang/Exception"]).filter (fun w => !goodWord w) ++ [.castable "java/lang/IllegalArgumentException" "java/lang/IllegalArgumentException", .castable "java/lang/IndexOutOfBoundsException" "java/lang/IndexOutOfBoundsException", .castable "java/lang/IllegalStateException" "java/lang/IllegalStateException"]
def extW : List Cond := nestW ++ excW
def stW : Cond → Bool
  | .castable _ _ => true
  | .fieldLinkNest _ _ _ _ _ _ => true
  | .methodLinkNest _ _ _ _ => true
  | .declares _ => true
  | _ => false
theorem extW_st : ∀ w ∈ extW, stW w = true := by decide +kernel
theorem st_warm {w : Cond} {s U : State} (hW : s.WarmedH U.vm) (h : stW w = true) (hZ : va_Nw w s) : va_Nw w U := by
  cases w <;> first | exact va_Nw.warmC hW hZ | exact va_Nw.warmF hW hZ | exact va_Nw.warmM hW hZ | exact va_Nw.warmD hW hZ | (simp [stW] at h)
theorem st_on {w : Cond} (h : stW w = true) : w.onTables = true := by
  cases w <;> first | rfl | (simp [stW] at h)
def strW : List (Nat × String) := [(220, "an argument is out of its range"), (228, "no path"), (230, "the top can't be asked for here"), (223, "an argument is below 0"), (89, "no such failure"), (236, "one path is the other, or above it"), (144, "no such member"), (159, "there have been too many locks"), (166, "another lock is in the way"), (168, "no file can be made there"), (177, "no such lock"), (184, "the lock is of another client"), (193, "the time would be too late"), (201, "there is no file"), (206, "the file has too many versions")]
def ncW : List (String × String) := [("java/lang/IllegalArgumentException", "java/lang/IndexOutOfBoundsException"), ("java/lang/IllegalArgumentException", "java/lang/IllegalStateException"), ("java/lang/IndexOutOfBoundsException", "java/lang/IllegalArgumentException"), ("java/lang/IndexOutOfBoundsException", "java/lang/IllegalStateException"), ("java/lang/IllegalStateException", "java/lang/IllegalArgumentException"), ("java/lang/IllegalStateException", "java/lang/IndexOutOfBoundsException")]
/-- what stands at every call: the classes, the words that aren't good, the texts, Throwable's statics -/
def Ev (Z : Zt) (b : Nat) (s : State) : Prop :=
  va_K Z.1 vwCl (tysZ Z) s ∧ (∀ w ∈ extW, va_Nw w s) ∧ (∀ q ∈ strW, ∃ sa, vk_R RX4 q.1 q.2 sa s) ∧ vx_Zq Bundle.tN "UNASSIGNED_STACK" Bundle.steD (A0 b) s s.heap ∧ vx_Zq Bundle.tN "SUPPRESSED_SENTINEL" Bundle.listD (A0 b) s s.heap ∧ ∀ q ∈ ncW, va_Nc q.1 q.2 s
theorem Ev.call {Z : Zt} {b : Nat} {s U : State} {H : Heap} {locs : List Loc} (h : Ev Z b s) (hS : va_S (A0 b) s.heap H locs) (hU : U.heap = H) (hW : s.WarmedH U.vm) : Ev Z b U := by
  obtain ⟨h1, h2, h3, h4, h5, h6⟩ := h
  refine ⟨va_K.moved hW.alike h1, fun w q => st_warm hW (extW_st w q) (h2 w q), fun q z => ?_, ?_, ?_, fun q z => va_Nc.moved hW.alike (h6 q z)⟩
  · obtain ⟨sa, r⟩ := h3 q z
    exact ⟨sa, vk_R.warm hW r⟩
  · rw [hU]; exact vx_Zq.moved hW.alike (h4.kept hS.2.1)
  · rw [hU]; exact vx_Zq.moved hW.alike (h5.kept hS.2.1)
theorem Ev.calling {Z : Zt} {b : Nat} {U : State} (g : JFrame) (mk : MethodId) (a : Array Value) (h : Ev Z b U) : Ev Z b (U.calling g mk a) := by
  obtain ⟨h1, h2, h3, h4, h5, h6⟩ := h
  refine ⟨va_K.moved (u := U) (U := U.calling g mk a) (Vm.Alike.refl U.vm) h1, fun w q => va_Nw.same (u := U) (U := U.calling g mk a) (st_on (extW_st w q)) rfl (h2 w q), fun q z => ?_, vx_Zq.moved (u := U) (U := U.calling g mk a) (Vm.Alike.refl U.vm) h4, vx_Zq.moved (u := U) (U := U.calling g mk a) (Vm.Alike.refl U.vm) h5, fun q z => va_Nc.moved (u := U) (U := U.calling g mk a) (Vm.Alike.refl U.vm) (h6 q z)⟩
  obtain ⟨sa, r⟩ := h3 q z
  exact ⟨sa, vk_R.same (u := U) (U := U.calling g mk a) rfl r⟩
def Pre (Z : Zt) (b : Nat) (M : Mem) (U : State) : Prop := Ev Z b U ∧ Wd Z b M U.heap
theorem Pre.blind (av : List Value) (Z : Zt) (b : Nat) (M : Mem) : FrameBlind (va_Pc av (Pre Z b M)) := fun _ _ g mk q => ⟨q.1, q.2.1.calling g mk _, q.2.2⟩
def Qn (Z : Zt) (b : Nat) (v : Option Value) (M' : Mem) : Array Value → State → Outcome → State → Prop := fun _ st oc t => (oc = .returned v ∧ Wd Z b M' t.heap) ∧ va_F (A0 b) st t
/-- a method that returns v and leaves the memory M' -/
abbrev Ct (l : Launch) (y : MethodName) (bytes : ByteArray) (maxL : Nat) (ret : Option FieldType) (rm : Room) (Z : Zt) (b : Nat) (av : List Value) (M : Mem) (v : Option Value) (M' : Mem) : Prop :=
  Met l y (Cond.code y bytes maxL ret :: wsA) rm (va_Pc av (Pre Z b M)) (Qn Z b v M') 0 0 (A0 b)
def Qx (Z : Zt) (b : Nat) (o : String ⊕ Option Value) (M' : Mem) : Array Value → State → Outcome → State → Prop := fun _ st oc t => (∃ v, o = .inr v ∧ oc = .returned v ∧ Wd Z b M' t.heap) ∧ va_F (A0 b) st t
def XCx (Z : Zt) (b : Nat) (o : String ⊕ Option Value) (M' : Mem) : String → State → State → Prop := fun E st t => o = .inl E ∧ Wd Z b M' t.heap ∧ va_F (A0 b) st t
/-- a method that returns or throws, as o says -/
abbrev Cx' (l : Launch) (y : MethodName) (bytes : ByteArray) (maxL : Nat) (ret : Option FieldType) (rm : Room) (mc ms : Nat) (Z : Zt) (b : Nat) (av : List Value) (M : Mem) (o : String ⊕ Option Value) (M' : Mem) : Prop :=
  vx_Met l y (Cond.code y bytes maxL ret :: wsA) rm (va_Pc av (Pre Z b M)) (Qx Z b o M') (XCx Z b o M') mc ms (A0 b)
def Cx (p : Program) (s : State) (m : MethodId) (args : Array Value) (c : Code) (cc : ByteArray) (own : String) (Z : Zt) (b : Nat) : Prop :=
  p.tables.exec = Jvm.exec ∧ c.code = cc ∧ s.vm.findClass own = some m.cls ∧ (∀ w ∈ wsA, w.before args s = true) ∧ Ev Z b s
theorem and1 (v : Int32) : v &&& 1 = 0 ∨ v &&& 1 = 1 := by
  obtain ⟨j, hj, e⟩ := pk_andE v (m := 1) 1 (by rfl)
  rcases (show j = 0 ∨ j = 1 by omega) with rfl | rfl
  · exact Or.inl e
  · exact Or.inr e
theorem fits_z (v : Int32) : fits .boolean (.int (v &&& 1)) = true := by
  rcases and1 v with h | h <;> rw [h] <;> rfl
section ROWS
variable {own : String} {p : Program} {l : Launch} {e : Env} {R : Room} {s : State} {m : MethodId} {args : Array Value} {below : List Frame} {meth : Method} {c : Code} {H : Heap} {locs : List Loc} {cells slots : Nat} {Q : State → Prop} {cc : ByteArray} {pc : Nat} {ls : Array Slot} {rest : List Value} {Z : Zt} {b : Nat} {M : Mem}
theorem cl_go {st0 : List Value} {v : Option Value} {M' : Mem} {a : Array Value} (hr : va_Run p l e R s m args below meth c H locs cells slots 0 0 (F0 m pc ls st0) rest (Qn Z b v M' a) (A0 b)) (hS : va_S (A0 b) s.heap H locs)
    (kk : ∀ (H1 : Heap) (locs1 : List Loc), Wd Z b M' H1 → va_S (A0 b) s.heap H1 locs1 → W p l e R s m args below meth c H1 locs1 cells slots Q (F0 m (pc + 3) ls (v.toList ++ rest))) : W p l e R s m args below meth c H locs cells slots Q (F0 m pc ls st0) := by
  intro T hT X
  obtain ⟨v', st₀, t, T', L, h0, X', hL, e1, e2, ⟨⟨hv, hw⟩, hz, hk⟩, st⟩ := hr T hT X
  cases hv
  rw [h0] at hz hk
  obtain ⟨t2, a1, b1⟩ := kk T'.heap (locs ++ L) (by rw [e1]; exact hw) ⟨Nat.le_trans hS.1 (by rw [e1]; exact hz), fun q h1 h2 => by rw [e1, hk q (Nat.lt_of_lt_of_le h1 hS.1) h2]; exact hS.2.1 q h1 h2, fun q hq => by
      rcases List.mem_append.mp hq with h | h
      · exact hS.2.2 q h
      · exact hL q h⟩ T' rfl X'
  exact ⟨t2, st t2 a1, b1⟩
theorem ret_i {v : Int32} {own0 : String} (C : Cx p s m args c cc own0 Z b) (hr : meth.sig.returnType = some .int) (hlk : meth.locks = false) (hS : va_S (A0 b) s.heap H locs) (hW : Wd Z b M H) (hdg : decode cc pc = .ok (.ireturn, 1)) : W p l e R s m args below meth c H locs cells slots (MQ below (Qn Z b (some (.int v)) M) args s cells slots (A0 b)) (F0 m pc ls [.int v]) :=
  W.iret C.1 C.2.1 hr (fun t ht _ => ⟨⟨rfl, by rw [ht]; exact hW⟩, hS.F ht⟩) hS.2.2 hdg hlk
theorem ret_z {v : Int32} {own0 : String} (C : Cx p s m args c cc own0 Z b) (hr : meth.sig.returnType = some .boolean) (hlk : meth.locks = false) (hn : v &&& 1 = v) (hS : va_S (A0 b) s.heap H locs) (hW : Wd Z b M H) (hdg : decode cc pc = .ok (.ireturn, 1)) : W p l e R s m args below meth c H locs cells slots (MQ below (Qn Z b (some (.int v)) M) args s cells slots (A0 b)) (F0 m pc ls [.int v]) :=
  W.zret C.1 C.2.1 hr (by rw [show narrow .boolean (.int v) = .int (v &&& 1) from rfl, hn]) (fun t ht _ => ⟨⟨rfl, by rw [ht]; exact hW⟩, hS.F ht⟩) hS.2.2 hdg hlk
theorem ret_v {own0 : String} (C : Cx p s m args c cc own0 Z b) (hr : meth.sig.returnType = none) (hlk : meth.locks = false) (hS : va_S (A0 b) s.heap H locs) (hW : Wd Z b M H) (hdg : decode cc pc = .ok (.return_, 1)) : W p l e R s m args below meth c H locs cells slots (MQ below (Qn Z b none M) args s cells slots (A0 b)) (F0 m pc ls []) :=
  W.vret C.1 C.2.1 hr (fun t ht _ => ⟨⟨rfl, by rw [ht]; exact hW⟩, hS.F ht⟩) hS.2.2 hdg hlk
theorem ret_q {v : Value} {n own0 : String} (C : Cx p s m args c cc own0 Z b) (hr : meth.sig.returnType = some (.object n)) (hlk : meth.locks = false) (hv : v = .null ∨ ∃ a, v = .ref a) (hS : va_S (A0 b) s.heap H locs) (hW : Wd Z b M H) (hdg : decode cc pc = .ok (.areturn, 1)) : W p l e R s m args below meth c H locs cells slots (MQ below (Qn Z b (some v) M) args s cells slots (A0 b)) (F0 m pc ls [v]) :=
  W.aret C.1 C.2.1 hr (Or.inl ⟨_, rfl⟩) hv (fun t ht _ => ⟨⟨rfl, by rw [ht]; exact hW⟩, hS.F ht⟩) hS.2.2 hdg hlk
theorem gX0_7 {r : Nat} (hr : r < 30) (C : Cx p s m args c cc RX0 Z b) (hW : Wd Z b M H) (hdg : decode cc pc = .ok (.getfield 7, 3)) (kk : W p l e R s m args below meth c H locs cells slots Q (F0 m (pc + 3) ls (.int (M 13 r) :: rest))) : W p l e R s m args below meth c H locs cells slots Q (F0 m pc ls (.ref (b + (125 + r)) :: rest)) :=
  va_get (D := Z.1) (ci := 0) (fs := [.int (M 12 r), .int (M 13 r), .int (M 14 r), .int (M 15 r), .int (M 16 r)]) (v := .int (M 13 r)) (C := RX0) (T := TX0) (N := 5) C.1 C.2.1 C.2.2.2.1 inaX0 C.2.2.1 C.2.2.2.2.1 hW (125 + r) ((wl_get (Z := Z) (b := b) (M := M) (k := (125 + r)) (by omega)).trans (congrArg (fun E => some (b + (125 + r), E)) (en_L Z b M hr))) rfl 1 (by decide) (C.2.2.2.1 _ q149) (fun _ h9 => h9) rfl hdg kk
theorem gX0_13 {r : Nat} (hr : r < 30) (C : Cx p s m args c cc RX0 Z b) (hW : Wd Z b M H) (hdg : decode cc pc = .ok (.getfield 13, 3)) (kk : W p l e R s m args below meth c H locs cells slots Q (F0 m (pc + 3) ls (.int (M 15 r) :: rest))) : W p l e R s m args below meth c H locs cells slots Q (F0 m pc ls (.ref (b + (125 + r)) :: rest)) :=
  va_get (D := Z.1) (ci := 0) (fs := [.int (M 12 r), .int (M 13 r), .int (M 14 r), .int (M 15 r), .int (M 16 r)]) (v := .int (M 15 r)) (C := RX0) (T := TX0) (N := 5) C.1 C.2.1 C.2.2.2.1 inaX0 C.2.2.1 C.2.2.2.2.1 hW (125 + r) ((wl_get (Z := Z) (b := b) (M := M) (k := (125 + r)) (by omega)).trans (congrArg (fun E => some (b + (125 + r), E)) (en_L Z b M hr))) rfl 3 (by decide) (C.2.2.2.1 _ q152) (fun _ h9 => h9) rfl hdg kk
theorem gX1_11 (C : Cx p s m args c cc RX1 Z b) (hW : Wd Z b M H) (hdg : decode cc pc = .ok (.getfield 11, 3)) (kk : W p l e R s m args below meth c H locs cells slots Q (F0 m (pc + 3) ls (.ref (b + 124) :: rest))) : W p l e R s m args below meth c H locs cells slots Q (F0 m pc ls (.ref (b + 123) :: rest)) :=
  va_get (D := Z.1) (ci := 1) (fs := [.ref (b + 124), .int (M 10 0), .int (M 11 0)]) (v := .ref (b + 124)) (C := RX1) (T := TX1) (N := 3) C.1 C.2.1 C.2.2.2.1 inaX1 C.2.2.1 C.2.2.2.2.1 hW 123 ((wl_get (Z := Z) (b := b) (M := M) (k := 123) (by decide)).trans (congrArg (fun E => some (b + 123, E)) (en_123 Z b M))) rfl 0 (by decide) (C.2.2.2.1 _ q167) (fun _ h9 => h9) rfl hdg kk
theorem gX1_18 (C : Cx p s m args c cc RX1 Z b) (hW : Wd Z b M H) (hdg : decode cc pc = .ok (.getfield 18, 3)) (kk : W p l e R s m args below meth c H locs cells slots Q (F0 m (pc + 3) ls (.int (M 10 0) :: rest))) : W p l e R s m args below meth c H locs cells slots Q (F0 m pc ls (.ref (b + 123) :: rest)) :=
  va_get (D := Z.1) (ci := 1) (fs := [.ref (b + 124), .int (M 10 0), .int (M 11 0)]) (v := .int (M 10 0)) (C := RX1) (T := TX1) (N := 3) C.1 C.2.1 C.2.2.2.1 inaX1 C.2.2.1 C.2.2.2.2.1 hW 123 ((wl_get (Z := Z) (b := b) (M := M) (k := 123) (by decide)).trans (congrArg (fun E => some (b + 123, E)) (en_123 Z b M))) rfl 1 (by decide) (C.2.2.2.1 _ q168) (fun _ h9 => h9) rfl hdg kk
theorem pX1_18 {v : Int32} (C : Cx p s m args c cc RX1 Z b) (hS : va_S (A0 b) s.heap H locs) (hW : Wd Z b M H) (hdg : decode cc pc = .ok (.putfield 18, 3)) (kk : ∀ (H1 : Heap) (locs1 : List Loc), Wd Z b (mu M 10 0 v) H1 → va_S (A0 b) s.heap H1 locs1 → W p l e R s m args below meth c H1 locs1 cells slots Q (F0 m (pc + 3) ls rest)) : W p l e R s m args below meth c H locs cells slots Q (F0 m pc ls (.int v :: .ref (b + 123) :: rest)) :=
  va_put (D := Z.1) (ci := 1) (fs := [.ref (b + 124), .int (M 10 0), .int (M 11 0)]) (v := .int v) (ty := .int) (C := RX1) (T := TX1) (N := 3) C.1 C.2.1 C.2.2.2.1 inaX1 tyX1 tyX1_ok nmX1 C.2.2.1 C.2.2.2.2.1 hW (wl_D Z b M) hS 123 ((wl_get (Z := Z) (b := b) (M := M) (k := 123) (by decide)).trans (congrArg (fun E => some (b + 123, E)) (en_123 Z b M))) rfl 1 (by decide) (C.2.2.2.1 _ q168) (fun _ h9 => h9) rfl (by decide +kernel) (by rfl) (by rfl) (Nat.le_of_ble_eq_true rfl) hdg (fun H1 locs1 hP _ hS1 => kk H1 locs1 (wd_set (k := 123) (E := .inr (1, [.ref (b + 124), .int v, .int (M 11 0)])) (by decide) rfl (by rw [en_123 Z b (mu M 10 0 v)]; rw [mu_self, mu_ne M 0 v (show (11 : Nat) ≠ 10 by decide)]) hP) hS1)
theorem gX1_22 (C : Cx p s m args c cc RX1 Z b) (hW : Wd Z b M H) (hdg : decode cc pc = .ok (.getfield 22, 3)) (kk : W p l e R s m args below meth c H locs cells slots Q (F0 m (pc + 3) ls (.int (M 11 0) :: rest))) : W p l e R s m args below meth c H locs cells slots Q (F0 m pc ls (.ref (b + 123) :: rest)) :=
  va_get (D := Z.1) (ci := 1) (fs := [.ref (b + 124), .int (M 10 0), .int (M 11 0)]) (v := .int (M 11 0)) (C := RX1) (T := TX1) (N := 3) C.1 C.2.1 C.2.2.2.1 inaX1 C.2.2.1 C.2.2.2.2.1 hW 123 ((wl_get (Z := Z) (b := b) (M := M) (k := 123) (by decide)).trans (congrArg (fun E => some (b + 123, E)) (en_123 Z b M))) rfl 2 (by decide) (C.2.2.2.1 _ q170) (fun _ h9 => h9) rfl hdg kk
theorem pX1_22 {v : Int32} (C : Cx p s m args c cc RX1 Z b) (hS : va_S (A0 b) s.heap H locs) (hW : Wd Z b M H) (hdg : decode cc pc = .ok (.putfield 22, 3)) (kk : ∀ (H1 : Heap) (locs1 : List Loc), Wd Z b (mu M 11 0 v) H1 → va_S (A0 b) s.heap H1 locs1 → W p l e R s m args below meth c H1 locs1 cells slots Q (F0 m (pc + 3) ls rest)) : W p l e R s m args below meth c H locs cells slots Q (F0 m pc ls (.int v :: .ref (b + 123) :: rest)) :=
  va_put (D := Z.1) (ci := 1) (fs := [.ref (b + 124), .int (M 10 0), .int (M 11 0)]) (v := .int v) (ty := .int) (C := RX1) (T := TX1) (N := 3) C.1 C.2.1 C.2.2.2.1 inaX1 tyX1 tyX1_ok nmX1 C.2.2.1 C.2.2.2.2.1 hW (wl_D Z b M) hS 123 ((wl_get (Z := Z) (b := b) (M := M) (k := 123) (by decide)).trans (congrArg (fun E => some (b + 123, E)) (en_123 Z b M))) rfl 2 (by decide) (C.2.2.2.1 _ q170) (fun _ h9 => h9) rfl (by decide +kernel) (by rfl) (by rfl) (Nat.le_of_ble_eq_true rfl) hdg (fun H1 locs1 hP _ hS1 => kk H1 locs1 (wd_set (k := 123) (E := .inr (1, [.ref (b + 124), .int (M 10 0), .int v])) (by decide) rfl (by rw [en_123 Z b (mu M 11 0 v)]; rw [mu_self, mu_ne M 0 v (show (10 : Nat) ≠ 11 by decide)]) hP) hS1)
theorem gX1_25 {r : Nat} (hr : r < 30) (C : Cx p s m args c cc RX1 Z b) (hW : Wd Z b M H) (hdg : decode cc pc = .ok (.getfield 25, 3)) (kk : W p l e R s m args below meth c H locs cells slots Q (F0 m (pc + 3) ls (.int (M 16 r) :: rest))) : W p l e R s m args below meth c H locs cells slots Q (F0 m pc ls (.ref (b + (125 + r)) :: rest)) :=
  va_getN (D := Z.1) (ci := 0) (fs := [.int (M 12 r), .int (M 13 r), .int (M 14 r), .int (M 15 r), .int (M 16 r)]) (v := .int (M 16 r)) (C := RX0) (T := TX0) (N := 5) C.1 C.2.1 C.2.2.2.1 inaX0 C.2.2.1 C.2.2.2.2.1 hW (125 + r) ((wl_get (Z := Z) (b := b) (M := M) (k := (125 + r)) (by omega)).trans (congrArg (fun E => some (b + (125 + r), E)) (en_L Z b M hr))) rfl 4 (by decide) (va_Nw.use rfl (C.2.2.2.2.2.1 _ (List.mem_append_left _ (List.mem_of_getElem? (i := 19) rfl)))) (fun _ h9 => h9) rfl hdg kk
theorem pX1_25 {r : Nat} (hr : r < 30) {v : Int32} (C : Cx p s m args c cc RX1 Z b) (hS : va_S (A0 b) s.heap H locs) (hW : Wd Z b M H) (hdg : decode cc pc = .ok (.putfield 25, 3)) (kk : ∀ (H1 : Heap) (locs1 : List Loc), Wd Z b (mu M 16 r v) H1 → va_S (A0 b) s.heap H1 locs1 → W p l e R s m args below meth c H1 locs1 cells slots Q (F0 m (pc + 3) ls rest)) : W p l e R s m args below meth c H locs cells slots Q (F0 m pc ls (.int v :: .ref (b + (125 + r)) :: rest)) :=
  va_putN (D := Z.1) (ci := 0) (fs := [.int (M 12 r), .int (M 13 r), .int (M 14 r), .int (M 15 r), .int (M 16 r)]) (v := .int v) (ty := .int) (C := RX0) (T := TX0) (N := 5) C.1 C.2.1 C.2.2.2.1 inaX0 tyX0 tyX0_ok nmX0 C.2.2.1 C.2.2.2.2.1 hW (wl_D Z b M) hS (125 + r) ((wl_get (Z := Z) (b := b) (M := M) (k := (125 + r)) (by omega)).trans (congrArg (fun E => some (b + (125 + r), E)) (en_L Z b M hr))) rfl 4 (by decide) (va_Nw.use rfl (C.2.2.2.2.2.1 _ (List.mem_append_left _ (List.mem_of_getElem? (i := 19) rfl)))) (fun _ h9 => h9) rfl (by decide +kernel) (by rfl) (by rfl) (Nat.le_of_ble_eq_true rfl) hdg (fun H1 locs1 hP _ hS1 => kk H1 locs1 (wd_set (k := (125 + r)) (E := .inr (0, [.int (M 12 r), .int (M 13 r), .int (M 14 r), .int (M 15 r), .int v])) (by omega) rfl (by rw [en_L Z b (mu M 16 r v) hr]; unfold lokE; rw [mu_self, mu_ne M r v (show (12 : Nat) ≠ 16 by decide), mu_ne M r v (show (13 : Nat) ≠ 16 by decide), mu_ne M r v (show (14 : Nat) ≠ 16 by decide), mu_ne M r v (show (15 : Nat) ≠ 16 by decide)]) hP) hS1)
theorem gX1_40 {r : Nat} (hr : r < 30) (C : Cx p s m args c cc RX1 Z b) (hW : Wd Z b M H) (hdg : decode cc pc = .ok (.getfield 40, 3)) (kk : W p l e R s m args below meth c H locs cells slots Q (F0 m (pc + 3) ls (.int (M 12 r) :: rest))) : W p l e R s m args below meth c H locs cells slots Q (F0 m pc ls (.ref (b + (125 + r)) :: rest)) :=
  va_getN (D := Z.1) (ci := 0) (fs := [.int (M 12 r), .int (M 13 r), .int (M 14 r), .int (M 15 r), .int (M 16 r)]) (v := .int (M 12 r)) (C := RX0) (T := TX0) (N := 5) C.1 C.2.1 C.2.2.2.1 inaX0 C.2.2.1 C.2.2.2.2.1 hW (125 + r) ((wl_get (Z := Z) (b := b) (M := M) (k := (125 + r)) (by omega)).trans (congrArg (fun E => some (b + (125 + r), E)) (en_L Z b M hr))) rfl 0 (by decide) (va_Nw.use rfl (C.2.2.2.2.2.1 _ (List.mem_append_left _ (List.mem_of_getElem? (i := 14) rfl)))) (fun _ h9 => h9) rfl hdg kk
theorem pX1_40 {r : Nat} (hr : r < 30) {v : Int32} (C : Cx p s m args c cc RX1 Z b) (hS : va_S (A0 b) s.heap H locs) (hW : Wd Z b M H) (hdg : decode cc pc = .ok (.putfield 40, 3)) (kk : ∀ (H1 : Heap) (locs1 : List Loc), Wd Z b (mu M 12 r v) H1 → va_S (A0 b) s.heap H1 locs1 → W p l e R s m args below meth c H1 locs1 cells slots Q (F0 m (pc + 3) ls rest)) : W p l e R s m args below meth c H locs cells slots Q (F0 m pc ls (.int v :: .ref (b + (125 + r)) :: rest)) :=
  va_putN (D := Z.1) (ci := 0) (fs := [.int (M 12 r), .int (M 13 r), .int (M 14 r), .int (M 15 r), .int (M 16 r)]) (v := .int v) (ty := .int) (C := RX0) (T := TX0) (N := 5) C.1 C.2.1 C.2.2.2.1 inaX0 tyX0 tyX0_ok nmX0 C.2.2.1 C.2.2.2.2.1 hW (wl_D Z b M) hS (125 + r) ((wl_get (Z := Z) (b := b) (M := M) (k := (125 + r)) (by omega)).trans (congrArg (fun E => some (b + (125 + r), E)) (en_L Z b M hr))) rfl 0 (by decide) (va_Nw.use rfl (C.2.2.2.2.2.1 _ (List.mem_append_left _ (List.mem_of_getElem? (i := 14) rfl)))) (fun _ h9 => h9) rfl (by decide +kernel) (by rfl) (by rfl) (Nat.le_of_ble_eq_true rfl) hdg (fun H1 locs1 hP _ hS1 => kk H1 locs1 (wd_set (k := (125 + r)) (E := .inr (0, [.int v, .int (M 13 r), .int (M 14 r), .int (M 15 r), .int (M 16 r)])) (by omega) rfl (by rw [en_L Z b (mu M 12 r v) hr]; unfold lokE; rw [mu_self, mu_ne M r v (show (13 : Nat) ≠ 12 by decide), mu_ne M r v (show (14 : Nat) ≠ 12 by decide), mu_ne M r v (show (15 : Nat) ≠ 12 by decide), mu_ne M r v (show (16 : Nat) ≠ 12 by decide)]) hP) hS1)
theorem gX1_43 {r : Nat} (hr : r < 30) (C : Cx p s m args c cc RX1 Z b) (hW : Wd Z b M H) (hdg : decode cc pc = .ok (.getfield 43, 3)) (kk : W p l e R s m args below meth c H locs cells slots Q (F0 m (pc + 3) ls (.int (M 14 r) :: rest))) : W p l e R s m args below meth c H locs cells slots Q (F0 m pc ls (.ref (b + (125 + r)) :: rest)) :=
  va_getN (D := Z.1) (ci := 0) (fs := [.int (M 12 r), .int (M 13 r), .int (M 14 r), .int (M 15 r), .int (M 16 r)]) (v := .int (M 14 r)) (C := RX0) (T := TX0) (N := 5) C.1 C.2.1 C.2.2.2.1 inaX0 C.2.2.1 C.2.2.2.2.1 hW (125 + r) ((wl_get (Z := Z) (b := b) (M := M) (k := (125 + r)) (by omega)).trans (congrArg (fun E => some (b + (125 + r), E)) (en_L Z b M hr))) rfl 2 (by decide) (va_Nw.use rfl (C.2.2.2.2.2.1 _ (List.mem_append_left _ (List.mem_of_getElem? (i := 17) rfl)))) (fun _ h9 => h9) rfl hdg kk
theorem pX1_43 {r : Nat} (hr : r < 30) {v : Int32} (hv : v &&& 1 = v) (C : Cx p s m args c cc RX1 Z b) (hS : va_S (A0 b) s.heap H locs) (hW : Wd Z b M H) (hdg : decode cc pc = .ok (.putfield 43, 3)) (kk : ∀ (H1 : Heap) (locs1 : List Loc), Wd Z b (mu M 14 r v) H1 → va_S (A0 b) s.heap H1 locs1 → W p l e R s m args below meth c H1 locs1 cells slots Q (F0 m (pc + 3) ls rest)) : W p l e R s m args below meth c H locs cells slots Q (F0 m pc ls (.int v :: .ref (b + (125 + r)) :: rest)) :=
  va_putN (D := Z.1) (ci := 0) (fs := [.int (M 12 r), .int (M 13 r), .int (M 14 r), .int (M 15 r), .int (M 16 r)]) (v := .int v) (ty := .boolean) (C := RX0) (T := TX0) (N := 5) C.1 C.2.1 C.2.2.2.1 inaX0 tyX0 tyX0_ok nmX0 C.2.2.1 C.2.2.2.2.1 hW (wl_D Z b M) hS (125 + r) ((wl_get (Z := Z) (b := b) (M := M) (k := (125 + r)) (by omega)).trans (congrArg (fun E => some (b + (125 + r), E)) (en_L Z b M hr))) rfl 2 (by decide) (va_Nw.use rfl (C.2.2.2.2.2.1 _ (List.mem_append_left _ (List.mem_of_getElem? (i := 17) rfl)))) (fun _ h9 => h9) rfl (by decide +kernel) (by rw [show narrow .boolean (.int v) = .int (v &&& 1) from rfl, hv]) (by rw [← hv]; exact fits_z v) (Nat.le_of_ble_eq_true rfl) hdg (fun H1 locs1 hP _ hS1 => kk H1 locs1 (wd_set (k := (125 + r)) (E := .inr (0, [.int (M 12 r), .int (M 13 r), .int v, .int (M 15 r), .int (M 16 r)])) (by omega) rfl (by rw [en_L Z b (mu M 14 r v) hr]; unfold lokE; rw [mu_self, mu_ne M r v (show (12 : Nat) ≠ 14 by decide), mu_ne M r v (show (13 : Nat) ≠ 14 by decide), mu_ne M r v (show (15 : Nat) ≠ 14 by decide), mu_ne M r v (show (16 : Nat) ≠ 14 by decide)]) hP) hS1)
theorem gX1_47 {r : Nat} (hr : r < 30) (C : Cx p s m args c cc RX1 Z b) (hW : Wd Z b M H) (hdg : decode cc pc = .ok (.getfield 47, 3)) (kk : W p l e R s m args below meth c H locs cells slots Q (F0 m (pc + 3) ls (.int (M 13 r) :: rest))) : W p l e R s m args below meth c H locs cells slots Q (F0 m pc ls (.ref (b + (125 + r)) :: rest)) :=
  va_getN (D := Z.1) (ci := 0) (fs := [.int (M 12 r), .int (M 13 r), .int (M 14 r), .int (M 15 r), .int (M 16 r)]) (v := .int (M 13 r)) (C := RX0) (T := TX0) (N := 5) C.1 C.2.1 C.2.2.2.1 inaX0 C.2.2.1 C.2.2.2.2.1 hW (125 + r) ((wl_get (Z := Z) (b := b) (M := M) (k := (125 + r)) (by omega)).trans (congrArg (fun E => some (b + (125 + r), E)) (en_L Z b M hr))) rfl 1 (by decide) (va_Nw.use rfl (C.2.2.2.2.2.1 _ (List.mem_append_left _ (List.mem_of_getElem? (i := 16) rfl)))) (fun _ h9 => h9) rfl hdg kk
theorem pX1_47 {r : Nat} (hr : r < 30) {v : Int32} (C : Cx p s m args c cc RX1 Z b) (hS : va_S (A0 b) s.heap H locs) (hW : Wd Z b M H) (hdg : decode cc pc = .ok (.putfield 47, 3)) (kk : ∀ (H1 : Heap) (locs1 : List Loc), Wd Z b (mu M 13 r v) H1 → va_S (A0 b) s.heap H1 locs1 → W p l e R s m args below meth c H1 locs1 cells slots Q (F0 m (pc + 3) ls rest)) : W p l e R s m args below meth c H locs cells slots Q (F0 m pc ls (.int v :: .ref (b + (125 + r)) :: rest)) :=
  va_putN (D := Z.1) (ci := 0) (fs := [.int (M 12 r), .int (M 13 r), .int (M 14 r), .int (M 15 r), .int (M 16 r)]) (v := .int v) (ty := .int) (C := RX0) (T := TX0) (N := 5) C.1 C.2.1 C.2.2.2.1 inaX0 tyX0 tyX0_ok nmX0 C.2.2.1 C.2.2.2.2.1 hW (wl_D Z b M) hS (125 + r) ((wl_get (Z := Z) (b := b) (M := M) (k := (125 + r)) (by omega)).trans (congrArg (fun E => some (b + (125 + r), E)) (en_L Z b M hr))) rfl 1 (by decide) (va_Nw.use rfl (C.2.2.2.2.2.1 _ (List.mem_append_left _ (List.mem_of_getElem? (i := 16) rfl)))) (fun _ h9 => h9) rfl (by decide +kernel) (by rfl) (by rfl) (Nat.le_of_ble_eq_true rfl) hdg (fun H1 locs1 hP _ hS1 => kk H1 locs1 (wd_set (k := (125 + r)) (E := .inr (0, [.int (M 12 r), .int v, .int (M 14 r), .int (M 15 r), .int (M 16 r)])) (by omega) rfl (by rw [en_L Z b (mu M 13 r v) hr]; unfold lokE; rw [mu_self, mu_ne M r v (show (12 : Nat) ≠ 13 by decide), mu_ne M r v (show (14 : Nat) ≠ 13 by decide), mu_ne M r v (show (15 : Nat) ≠ 13 by decide), mu_ne M r v (show (16 : Nat) ≠ 13 by decide)]) hP) hS1)
theorem pX1_54 {r : Nat} (hr : r < 30) {v : Int32} (hv : v &&& 1 = v) (C : Cx p s m args c cc RX1 Z b) (hS : va_S (A0 b) s.heap H locs) (hW : Wd Z b M H) (hdg : decode cc pc = .ok (.putfield 54, 3)) (kk : ∀ (H1 : Heap) (locs1 : List Loc), Wd Z b (mu M 15 r v) H1 → va_S (A0 b) s.heap H1 locs1 → W p l e R s m args below meth c H1 locs1 cells slots Q (F0 m (pc + 3) ls rest)) : W p l e R s m args below meth c H locs cells slots Q (F0 m pc ls (.int v :: .ref (b + (125 + r)) :: rest)) :=
  va_putN (D := Z.1) (ci := 0) (fs := [.int (M 12 r), .int (M 13 r), .int (M 14 r), .int (M 15 r), .int (M 16 r)]) (v := .int v) (ty := .boolean) (C := RX0) (T := TX0) (N := 5) C.1 C.2.1 C.2.2.2.1 inaX0 tyX0 tyX0_ok nmX0 C.2.2.1 C.2.2.2.2.1 hW (wl_D Z b M) hS (125 + r) ((wl_get (Z := Z) (b := b) (M := M) (k := (125 + r)) (by omega)).trans (congrArg (fun E => some (b + (125 + r), E)) (en_L Z b M hr))) rfl 3 (by decide) (va_Nw.use rfl (C.2.2.2.2.2.1 _ (List.mem_append_left _ (List.mem_of_getElem? (i := 18) rfl)))) (fun _ h9 => h9) rfl (by decide +kernel) (by rw [show narrow .boolean (.int v) = .int (v &&& 1) from rfl, hv]) (by rw [← hv]; exact fits_z v) (Nat.le_of_ble_eq_true rfl) hdg (fun H1 locs1 hP _ hS1 => kk H1 locs1 (wd_set (k := (125 + r)) (E := .inr (0, [.int (M 12 r), .int (M 13 r), .int (M 14 r), .int v, .int (M 16 r)])) (by omega) rfl (by rw [en_L Z b (mu M 15 r v) hr]; unfold lokE; rw [mu_self, mu_ne M r v (show (12 : Nat) ≠ 15 by decide), mu_ne M r v (show (13 : Nat) ≠ 15 by decide), mu_ne M r v (show (14 : Nat) ≠ 15 by decide), mu_ne M r v (show (16 : Nat) ≠ 15 by decide)]) hP) hS1)
theorem gX2_9 {r : Nat} (hr : r < 60) (C : Cx p s m args c cc RX2 Z b) (hW : Wd Z b M H) (hdg : decode cc pc = .ok (.getfield 9, 3)) (kk : W p l e R s m args below meth c H locs cells slots Q (F0 m (pc + 3) ls (.ref (b + (4 + 2 * r)) :: rest))) : W p l e R s m args below meth c H locs cells slots Q (F0 m pc ls (.ref (b + (3 + 2 * r)) :: rest)) :=
  va_get (D := Z.1) (ci := 2) (fs := [.int (M 4 r), .int (M 5 r), .int (M 6 r), .int (M 7 r), .ref (b + (4 + 2 * r)), .int (M 8 r)]) (v := .ref (b + (4 + 2 * r))) (C := RX2) (T := TX2) (N := 6) C.1 C.2.1 C.2.2.2.1 inaX2 C.2.2.1 C.2.2.2.2.1 hW (3 + 2 * r) ((wl_get (Z := Z) (b := b) (M := M) (k := (3 + 2 * r)) (by omega)).trans (congrArg (fun E => some (b + (3 + 2 * r), E)) (en_R Z b M hr))) rfl 4 (by decide) (C.2.2.2.1 _ q108) (fun _ h9 => h9) rfl hdg kk
theorem pX2_15 {r : Nat} (hr : r < 60) {v : Int32} (C : Cx p s m args c cc RX2 Z b) (hS : va_S (A0 b) s.heap H locs) (hW : Wd Z b M H) (hdg : decode cc pc = .ok (.putfield 15, 3)) (kk : ∀ (H1 : Heap) (locs1 : List Loc), Wd Z b (mu M 4 r v) H1 → va_S (A0 b) s.heap H1 locs1 → W p l e R s m args below meth c H1 locs1 cells slots Q (F0 m (pc + 3) ls rest)) : W p l e R s m args below meth c H locs cells slots Q (F0 m pc ls (.int v :: .ref (b + (3 + 2 * r)) :: rest)) :=
  va_put (D := Z.1) (ci := 2) (fs := [.int (M 4 r), .int (M 5 r), .int (M 6 r), .int (M 7 r), .ref (b + (4 + 2 * r)), .int (M 8 r)]) (v := .int v) (ty := .int) (C := RX2) (T := TX2) (N := 6) C.1 C.2.1 C.2.2.2.1 inaX2 tyX2 tyX2_ok nmX2 C.2.2.1 C.2.2.2.2.1 hW (wl_D Z b M) hS (3 + 2 * r) ((wl_get (Z := Z) (b := b) (M := M) (k := (3 + 2 * r)) (by omega)).trans (congrArg (fun E => some (b + (3 + 2 * r), E)) (en_R Z b M hr))) rfl 0 (by decide) (C.2.2.2.1 _ q97) (fun _ h9 => h9) rfl (by decide +kernel) (by rfl) (by rfl) (Nat.le_of_ble_eq_true rfl) hdg (fun H1 locs1 hP _ hS1 => kk H1 locs1 (wd_set (k := (3 + 2 * r)) (E := .inr (2, [.int v, .int (M 5 r), .int (M 6 r), .int (M 7 r), .ref (b + (4 + 2 * r)), .int (M 8 r)])) (by omega) rfl (by rw [en_R Z b (mu M 4 r v) hr]; unfold resE; rw [mu_self, mu_ne M r v (show (5 : Nat) ≠ 4 by decide), mu_ne M r v (show (6 : Nat) ≠ 4 by decide), mu_ne M r v (show (7 : Nat) ≠ 4 by decide), mu_ne M r v (show (8 : Nat) ≠ 4 by decide)]) hP) hS1)
theorem pX2_19 {r : Nat} (hr : r < 60) {v : Int32} (C : Cx p s m args c cc RX2 Z b) (hS : va_S (A0 b) s.heap H locs) (hW : Wd Z b M H) (hdg : decode cc pc = .ok (.putfield 19, 3)) (kk : ∀ (H1 : Heap) (locs1 : List Loc), Wd Z b (mu M 5 r v) H1 → va_S (A0 b) s.heap H1 locs1 → W p l e R s m args below meth c H1 locs1 cells slots Q (F0 m (pc + 3) ls rest)) : W p l e R s m args below meth c H locs cells slots Q (F0 m pc ls (.int v :: .ref (b + (3 + 2 * r)) :: rest)) :=
  va_put (D := Z.1) (ci := 2) (fs := [.int (M 4 r), .int (M 5 r), .int (M 6 r), .int (M 7 r), .ref (b + (4 + 2 * r)), .int (M 8 r)]) (v := .int v) (ty := .int) (C := RX2) (T := TX2) (N := 6) C.1 C.2.1 C.2.2.2.1 inaX2 tyX2 tyX2_ok nmX2 C.2.2.1 C.2.2.2.2.1 hW (wl_D Z b M) hS (3 + 2 * r) ((wl_get (Z := Z) (b := b) (M := M) (k := (3 + 2 * r)) (by omega)).trans (congrArg (fun E => some (b + (3 + 2 * r), E)) (en_R Z b M hr))) rfl 1 (by decide) (C.2.2.2.1 _ q100) (fun _ h9 => h9) rfl (by decide +kernel) (by rfl) (by rfl) (Nat.le_of_ble_eq_true rfl) hdg (fun H1 locs1 hP _ hS1 => kk H1 locs1 (wd_set (k := (3 + 2 * r)) (E := .inr (2, [.int (M 4 r), .int v, .int (M 6 r), .int (M 7 r), .ref (b + (4 + 2 * r)), .int (M 8 r)])) (by omega) rfl (by rw [en_R Z b (mu M 5 r v) hr]; unfold resE; rw [mu_self, mu_ne M r v (show (4 : Nat) ≠ 5 by decide), mu_ne M r v (show (6 : Nat) ≠ 5 by decide), mu_ne M r v (show (7 : Nat) ≠ 5 by decide), mu_ne M r v (show (8 : Nat) ≠ 5 by decide)]) hP) hS1)
theorem gX2_22 {r : Nat} (hr : r < 60) (C : Cx p s m args c cc RX2 Z b) (hW : Wd Z b M H) (hdg : decode cc pc = .ok (.getfield 22, 3)) (kk : W p l e R s m args below meth c H locs cells slots Q (F0 m (pc + 3) ls (.int (M 6 r) :: rest))) : W p l e R s m args below meth c H locs cells slots Q (F0 m pc ls (.ref (b + (3 + 2 * r)) :: rest)) :=
  va_get (D := Z.1) (ci := 2) (fs := [.int (M 4 r), .int (M 5 r), .int (M 6 r), .int (M 7 r), .ref (b + (4 + 2 * r)), .int (M 8 r)]) (v := .int (M 6 r)) (C := RX2) (T := TX2) (N := 6) C.1 C.2.1 C.2.2.2.1 inaX2 C.2.2.1 C.2.2.2.2.1 hW (3 + 2 * r) ((wl_get (Z := Z) (b := b) (M := M) (k := (3 + 2 * r)) (by omega)).trans (congrArg (fun E => some (b + (3 + 2 * r), E)) (en_R Z b M hr))) rfl 2 (by decide) (C.2.2.2.1 _ q102) (fun _ h9 => h9) rfl hdg kk
theorem pX2_22 {r : Nat} (hr : r < 60) {v : Int32} (C : Cx p s m args c cc RX2 Z b) (hS : va_S (A0 b) s.heap H locs) (hW : Wd Z b M H) (hdg : decode cc pc = .ok (.putfield 22, 3)) (kk : ∀ (H1 : Heap) (locs1 : List Loc), Wd Z b (mu M 6 r v) H1 → va_S (A0 b) s.heap H1 locs1 → W p l e R s m args below meth c H1 locs1 cells slots Q (F0 m (pc + 3) ls rest)) : W p l e R s m args below meth c H locs cells slots Q (F0 m pc ls (.int v :: .ref (b + (3 + 2 * r)) :: rest)) :=
  va_put (D := Z.1) (ci := 2) (fs := [.int (M 4 r), .int (M 5 r), .int (M 6 r), .int (M 7 r), .ref (b + (4 + 2 * r)), .int (M 8 r)]) (v := .int v) (ty := .int) (C := RX2) (T := TX2) (N := 6) C.1 C.2.1 C.2.2.2.1 inaX2 tyX2 tyX2_ok nmX2 C.2.2.1 C.2.2.2.2.1 hW (wl_D Z b M) hS (3 + 2 * r) ((wl_get (Z := Z) (b := b) (M := M) (k := (3 + 2 * r)) (by omega)).trans (congrArg (fun E => some (b + (3 + 2 * r), E)) (en_R Z b M hr))) rfl 2 (by decide) (C.2.2.2.1 _ q102) (fun _ h9 => h9) rfl (by decide +kernel) (by rfl) (by rfl) (Nat.le_of_ble_eq_true rfl) hdg (fun H1 locs1 hP _ hS1 => kk H1 locs1 (wd_set (k := (3 + 2 * r)) (E := .inr (2, [.int (M 4 r), .int (M 5 r), .int v, .int (M 7 r), .ref (b + (4 + 2 * r)), .int (M 8 r)])) (by omega) rfl (by rw [en_R Z b (mu M 6 r v) hr]; unfold resE; rw [mu_self, mu_ne M r v (show (4 : Nat) ≠ 6 by decide), mu_ne M r v (show (5 : Nat) ≠ 6 by decide), mu_ne M r v (show (7 : Nat) ≠ 6 by decide), mu_ne M r v (show (8 : Nat) ≠ 6 by decide)]) hP) hS1)
theorem pX2_25 {r : Nat} (hr : r < 60) {v : Int32} (hv : v &&& 1 = v) (C : Cx p s m args c cc RX2 Z b) (hS : va_S (A0 b) s.heap H locs) (hW : Wd Z b M H) (hdg : decode cc pc = .ok (.putfield 25, 3)) (kk : ∀ (H1 : Heap) (locs1 : List Loc), Wd Z b (mu M 7 r v) H1 → va_S (A0 b) s.heap H1 locs1 → W p l e R s m args below meth c H1 locs1 cells slots Q (F0 m (pc + 3) ls rest)) : W p l e R s m args below meth c H locs cells slots Q (F0 m pc ls (.int v :: .ref (b + (3 + 2 * r)) :: rest)) :=
  va_put (D := Z.1) (ci := 2) (fs := [.int (M 4 r), .int (M 5 r), .int (M 6 r), .int (M 7 r), .ref (b + (4 + 2 * r)), .int (M 8 r)]) (v := .int v) (ty := .boolean) (C := RX2) (T := TX2) (N := 6) C.1 C.2.1 C.2.2.2.1 inaX2 tyX2 tyX2_ok nmX2 C.2.2.1 C.2.2.2.2.1 hW (wl_D Z b M) hS (3 + 2 * r) ((wl_get (Z := Z) (b := b) (M := M) (k := (3 + 2 * r)) (by omega)).trans (congrArg (fun E => some (b + (3 + 2 * r), E)) (en_R Z b M hr))) rfl 3 (by decide) (C.2.2.2.1 _ q105) (fun _ h9 => h9) rfl (by decide +kernel) (by rw [show narrow .boolean (.int v) = .int (v &&& 1) from rfl, hv]) (by rw [← hv]; exact fits_z v) (Nat.le_of_ble_eq_true rfl) hdg (fun H1 locs1 hP _ hS1 => kk H1 locs1 (wd_set (k := (3 + 2 * r)) (E := .inr (2, [.int (M 4 r), .int (M 5 r), .int (M 6 r), .int v, .ref (b + (4 + 2 * r)), .int (M 8 r)])) (by omega) rfl (by rw [en_R Z b (mu M 7 r v) hr]; unfold resE; rw [mu_self, mu_ne M r v (show (4 : Nat) ≠ 7 by decide), mu_ne M r v (show (5 : Nat) ≠ 7 by decide), mu_ne M r v (show (6 : Nat) ≠ 7 by decide), mu_ne M r v (show (8 : Nat) ≠ 7 by decide)]) hP) hS1)
theorem gX2_29 {r : Nat} (hr : r < 60) (C : Cx p s m args c cc RX2 Z b) (hW : Wd Z b M H) (hdg : decode cc pc = .ok (.getfield 29, 3)) (kk : W p l e R s m args below meth c H locs cells slots Q (F0 m (pc + 3) ls (.int (M 8 r) :: rest))) : W p l e R s m args below meth c H locs cells slots Q (F0 m pc ls (.ref (b + (3 + 2 * r)) :: rest)) :=
  va_get (D := Z.1) (ci := 2) (fs := [.int (M 4 r), .int (M 5 r), .int (M 6 r), .int (M 7 r), .ref (b + (4 + 2 * r)), .int (M 8 r)]) (v := .int (M 8 r)) (C := RX2) (T := TX2) (N := 6) C.1 C.2.1 C.2.2.2.1 inaX2 C.2.2.1 C.2.2.2.2.1 hW (3 + 2 * r) ((wl_get (Z := Z) (b := b) (M := M) (k := (3 + 2 * r)) (by omega)).trans (congrArg (fun E => some (b + (3 + 2 * r), E)) (en_R Z b M hr))) rfl 5 (by decide) (C.2.2.2.1 _ q109) (fun _ h9 => h9) rfl hdg kk
theorem pX2_29 {r : Nat} (hr : r < 60) {v : Int32} (C : Cx p s m args c cc RX2 Z b) (hS : va_S (A0 b) s.heap H locs) (hW : Wd Z b M H) (hdg : decode cc pc = .ok (.putfield 29, 3)) (kk : ∀ (H1 : Heap) (locs1 : List Loc), Wd Z b (mu M 8 r v) H1 → va_S (A0 b) s.heap H1 locs1 → W p l e R s m args below meth c H1 locs1 cells slots Q (F0 m (pc + 3) ls rest)) : W p l e R s m args below meth c H locs cells slots Q (F0 m pc ls (.int v :: .ref (b + (3 + 2 * r)) :: rest)) :=
  va_put (D := Z.1) (ci := 2) (fs := [.int (M 4 r), .int (M 5 r), .int (M 6 r), .int (M 7 r), .ref (b + (4 + 2 * r)), .int (M 8 r)]) (v := .int v) (ty := .int) (C := RX2) (T := TX2) (N := 6) C.1 C.2.1 C.2.2.2.1 inaX2 tyX2 tyX2_ok nmX2 C.2.2.1 C.2.2.2.2.1 hW (wl_D Z b M) hS (3 + 2 * r) ((wl_get (Z := Z) (b := b) (M := M) (k := (3 + 2 * r)) (by omega)).trans (congrArg (fun E => some (b + (3 + 2 * r), E)) (en_R Z b M hr))) rfl 5 (by decide) (C.2.2.2.1 _ q109) (fun _ h9 => h9) rfl (by decide +kernel) (by rfl) (by rfl) (Nat.le_of_ble_eq_true rfl) hdg (fun H1 locs1 hP _ hS1 => kk H1 locs1 (wd_set (k := (3 + 2 * r)) (E := .inr (2, [.int (M 4 r), .int (M 5 r), .int (M 6 r), .int (M 7 r), .ref (b + (4 + 2 * r)), .int v])) (by omega) rfl (by rw [en_R Z b (mu M 8 r v) hr]; unfold resE; rw [mu_self, mu_ne M r v (show (4 : Nat) ≠ 8 by decide), mu_ne M r v (show (5 : Nat) ≠ 8 by decide), mu_ne M r v (show (6 : Nat) ≠ 8 by decide), mu_ne M r v (show (7 : Nat) ≠ 8 by decide)]) hP) hS1)
theorem gX3_11 (C : Cx p s m args c cc RX3 Z b) (hW : Wd Z b M H) (hdg : decode cc pc = .ok (.getfield 11, 3)) (kk : W p l e R s m args below meth c H locs cells slots Q (F0 m (pc + 3) ls (.ref (b + 2) :: rest))) : W p l e R s m args below meth c H locs cells slots Q (F0 m pc ls (.ref (b + 1) :: rest)) :=
  va_get (D := Z.1) (ci := 3) (fs := [.ref (b + 2), .int (M 2 0)]) (v := .ref (b + 2)) (C := RX3) (T := TX3) (N := 2) C.1 C.2.1 C.2.2.2.1 inaX3 C.2.2.1 C.2.2.2.2.1 hW 1 ((wl_get (Z := Z) (b := b) (M := M) (k := 1) (by decide)).trans (congrArg (fun E => some (b + 1, E)) (en_1 Z b M))) rfl 0 (by decide) (C.2.2.2.1 _ q125) (fun _ h9 => h9) rfl hdg kk
theorem gX3_18 (C : Cx p s m args c cc RX3 Z b) (hW : Wd Z b M H) (hdg : decode cc pc = .ok (.getfield 18, 3)) (kk : W p l e R s m args below meth c H locs cells slots Q (F0 m (pc + 3) ls (.int (M 2 0) :: rest))) : W p l e R s m args below meth c H locs cells slots Q (F0 m pc ls (.ref (b + 1) :: rest)) :=
  va_get (D := Z.1) (ci := 3) (fs := [.ref (b + 2), .int (M 2 0)]) (v := .int (M 2 0)) (C := RX3) (T := TX3) (N := 2) C.1 C.2.1 C.2.2.2.1 inaX3 C.2.2.1 C.2.2.2.2.1 hW 1 ((wl_get (Z := Z) (b := b) (M := M) (k := 1) (by decide)).trans (congrArg (fun E => some (b + 1, E)) (en_1 Z b M))) rfl 1 (by decide) (C.2.2.2.1 _ q127) (fun _ h9 => h9) rfl hdg kk
theorem pX3_18 {v : Int32} (C : Cx p s m args c cc RX3 Z b) (hS : va_S (A0 b) s.heap H locs) (hW : Wd Z b M H) (hdg : decode cc pc = .ok (.putfield 18, 3)) (kk : ∀ (H1 : Heap) (locs1 : List Loc), Wd Z b (mu M 2 0 v) H1 → va_S (A0 b) s.heap H1 locs1 → W p l e R s m args below meth c H1 locs1 cells slots Q (F0 m (pc + 3) ls rest)) : W p l e R s m args below meth c H locs cells slots Q (F0 m pc ls (.int v :: .ref (b + 1) :: rest)) :=
  va_put (D := Z.1) (ci := 3) (fs := [.ref (b + 2), .int (M 2 0)]) (v := .int v) (ty := .int) (C := RX3) (T := TX3) (N := 2) C.1 C.2.1 C.2.2.2.1 inaX3 tyX3 tyX3_ok nmX3 C.2.2.1 C.2.2.2.2.1 hW (wl_D Z b M) hS 1 ((wl_get (Z := Z) (b := b) (M := M) (k := 1) (by decide)).trans (congrArg (fun E => some (b + 1, E)) (en_1 Z b M))) rfl 1 (by decide) (C.2.2.2.1 _ q127) (fun _ h9 => h9) rfl (by decide +kernel) (by rfl) (by rfl) (Nat.le_of_ble_eq_true rfl) hdg (fun H1 locs1 hP _ hS1 => kk H1 locs1 (wd_set (k := 1) (E := .inr (3, [.ref (b + 2), .int v])) (by decide) rfl (by rw [en_1 Z b (mu M 2 0 v)]; rw [mu_self]) hP) hS1)
theorem gX3_22 {r : Nat} (hr : r < 60) (C : Cx p s m args c cc RX3 Z b) (hW : Wd Z b M H) (hdg : decode cc pc = .ok (.getfield 22, 3)) (kk : W p l e R s m args below meth c H locs cells slots Q (F0 m (pc + 3) ls (.int (M 4 r) :: rest))) : W p l e R s m args below meth c H locs cells slots Q (F0 m pc ls (.ref (b + (3 + 2 * r)) :: rest)) :=
  va_getN (D := Z.1) (ci := 2) (fs := [.int (M 4 r), .int (M 5 r), .int (M 6 r), .int (M 7 r), .ref (b + (4 + 2 * r)), .int (M 8 r)]) (v := .int (M 4 r)) (C := RX2) (T := TX2) (N := 6) C.1 C.2.1 C.2.2.2.1 inaX2 C.2.2.1 C.2.2.2.2.1 hW (3 + 2 * r) ((wl_get (Z := Z) (b := b) (M := M) (k := (3 + 2 * r)) (by omega)).trans (congrArg (fun E => some (b + (3 + 2 * r), E)) (en_R Z b M hr))) rfl 0 (by decide) (va_Nw.use rfl (C.2.2.2.2.2.1 _ (List.mem_append_left _ (List.mem_of_getElem? (i := 2) rfl)))) (fun _ h9 => h9) rfl hdg kk
theorem pX3_22 {r : Nat} (hr : r < 60) {v : Int32} (C : Cx p s m args c cc RX3 Z b) (hS : va_S (A0 b) s.heap H locs) (hW : Wd Z b M H) (hdg : decode cc pc = .ok (.putfield 22, 3)) (kk : ∀ (H1 : Heap) (locs1 : List Loc), Wd Z b (mu M 4 r v) H1 → va_S (A0 b) s.heap H1 locs1 → W p l e R s m args below meth c H1 locs1 cells slots Q (F0 m (pc + 3) ls rest)) : W p l e R s m args below meth c H locs cells slots Q (F0 m pc ls (.int v :: .ref (b + (3 + 2 * r)) :: rest)) :=
  va_putN (D := Z.1) (ci := 2) (fs := [.int (M 4 r), .int (M 5 r), .int (M 6 r), .int (M 7 r), .ref (b + (4 + 2 * r)), .int (M 8 r)]) (v := .int v) (ty := .int) (C := RX2) (T := TX2) (N := 6) C.1 C.2.1 C.2.2.2.1 inaX2 tyX2 tyX2_ok nmX2 C.2.2.1 C.2.2.2.2.1 hW (wl_D Z b M) hS (3 + 2 * r) ((wl_get (Z := Z) (b := b) (M := M) (k := (3 + 2 * r)) (by omega)).trans (congrArg (fun E => some (b + (3 + 2 * r), E)) (en_R Z b M hr))) rfl 0 (by decide) (va_Nw.use rfl (C.2.2.2.2.2.1 _ (List.mem_append_left _ (List.mem_of_getElem? (i := 2) rfl)))) (fun _ h9 => h9) rfl (by decide +kernel) (by rfl) (by rfl) (Nat.le_of_ble_eq_true rfl) hdg (fun H1 locs1 hP _ hS1 => kk H1 locs1 (wd_set (k := (3 + 2 * r)) (E := .inr (2, [.int v, .int (M 5 r), .int (M 6 r), .int (M 7 r), .ref (b + (4 + 2 * r)), .int (M 8 r)])) (by omega) rfl (by rw [en_R Z b (mu M 4 r v) hr]; unfold resE; rw [mu_self, mu_ne M r v (show (5 : Nat) ≠ 4 by decide), mu_ne M r v (show (6 : Nat) ≠ 4 by decide), mu_ne M r v (show (7 : Nat) ≠ 4 by decide), mu_ne M r v (show (8 : Nat) ≠ 4 by decide)]) hP) hS1)
theorem gX3_33 {r : Nat} (hr : r < 60) (C : Cx p s m args c cc RX3 Z b) (hW : Wd Z b M H) (hdg : decode cc pc = .ok (.getfield 33, 3)) (kk : W p l e R s m args below meth c H locs cells slots Q (F0 m (pc + 3) ls (.int (M 5 r) :: rest))) : W p l e R s m args below meth c H locs cells slots Q (F0 m pc ls (.ref (b + (3 + 2 * r)) :: rest)) :=
  va_getN (D := Z.1) (ci := 2) (fs := [.int (M 4 r), .int (M 5 r), .int (M 6 r), .int (M 7 r), .ref (b + (4 + 2 * r)), .int (M 8 r)]) (v := .int (M 5 r)) (C := RX2) (T := TX2) (N := 6) C.1 C.2.1 C.2.2.2.1 inaX2 C.2.2.1 C.2.2.2.2.1 hW (3 + 2 * r) ((wl_get (Z := Z) (b := b) (M := M) (k := (3 + 2 * r)) (by omega)).trans (congrArg (fun E => some (b + (3 + 2 * r), E)) (en_R Z b M hr))) rfl 1 (by decide) (va_Nw.use rfl (C.2.2.2.2.2.1 _ (List.mem_append_left _ (List.mem_of_getElem? (i := 4) rfl)))) (fun _ h9 => h9) rfl hdg kk
theorem gX3_51 {r : Nat} (hr : r < 60) (C : Cx p s m args c cc RX3 Z b) (hW : Wd Z b M H) (hdg : decode cc pc = .ok (.getfield 51, 3)) (kk : W p l e R s m args below meth c H locs cells slots Q (F0 m (pc + 3) ls (.int (M 6 r) :: rest))) : W p l e R s m args below meth c H locs cells slots Q (F0 m pc ls (.ref (b + (3 + 2 * r)) :: rest)) :=
  va_getN (D := Z.1) (ci := 2) (fs := [.int (M 4 r), .int (M 5 r), .int (M 6 r), .int (M 7 r), .ref (b + (4 + 2 * r)), .int (M 8 r)]) (v := .int (M 6 r)) (C := RX2) (T := TX2) (N := 6) C.1 C.2.1 C.2.2.2.1 inaX2 C.2.2.1 C.2.2.2.2.1 hW (3 + 2 * r) ((wl_get (Z := Z) (b := b) (M := M) (k := (3 + 2 * r)) (by omega)).trans (congrArg (fun E => some (b + (3 + 2 * r), E)) (en_R Z b M hr))) rfl 2 (by decide) (va_Nw.use rfl (C.2.2.2.2.2.1 _ (List.mem_append_left _ (List.mem_of_getElem? (i := 6) rfl)))) (fun _ h9 => h9) rfl hdg kk
theorem gX3_61 {r : Nat} (hr : r < 60) (C : Cx p s m args c cc RX3 Z b) (hW : Wd Z b M H) (hdg : decode cc pc = .ok (.getfield 61, 3)) (kk : W p l e R s m args below meth c H locs cells slots Q (F0 m (pc + 3) ls (.int (M 7 r) :: rest))) : W p l e R s m args below meth c H locs cells slots Q (F0 m pc ls (.ref (b + (3 + 2 * r)) :: rest)) :=
  va_getN (D := Z.1) (ci := 2) (fs := [.int (M 4 r), .int (M 5 r), .int (M 6 r), .int (M 7 r), .ref (b + (4 + 2 * r)), .int (M 8 r)]) (v := .int (M 7 r)) (C := RX2) (T := TX2) (N := 6) C.1 C.2.1 C.2.2.2.1 inaX2 C.2.2.1 C.2.2.2.2.1 hW (3 + 2 * r) ((wl_get (Z := Z) (b := b) (M := M) (k := (3 + 2 * r)) (by omega)).trans (congrArg (fun E => some (b + (3 + 2 * r), E)) (en_R Z b M hr))) rfl 3 (by decide) (va_Nw.use rfl (C.2.2.2.2.2.1 _ (List.mem_append_left _ (List.mem_of_getElem? (i := 7) rfl)))) (fun _ h9 => h9) rfl hdg kk
theorem pX3_61 {r : Nat} (hr : r < 60) {v : Int32} (hv : v &&& 1 = v) (C : Cx p s m args c cc RX3 Z b) (hS : va_S (A0 b) s.heap H locs) (hW : Wd Z b M H) (hdg : decode cc pc = .ok (.putfield 61, 3)) (kk : ∀ (H1 : Heap) (locs1 : List Loc), Wd Z b (mu M 7 r v) H1 → va_S (A0 b) s.heap H1 locs1 → W p l e R s m args below meth c H1 locs1 cells slots Q (F0 m (pc + 3) ls rest)) : W p l e R s m args below meth c H locs cells slots Q (F0 m pc ls (.int v :: .ref (b + (3 + 2 * r)) :: rest)) :=
  va_putN (D := Z.1) (ci := 2) (fs := [.int (M 4 r), .int (M 5 r), .int (M 6 r), .int (M 7 r), .ref (b + (4 + 2 * r)), .int (M 8 r)]) (v := .int v) (ty := .boolean) (C := RX2) (T := TX2) (N := 6) C.1 C.2.1 C.2.2.2.1 inaX2 tyX2 tyX2_ok nmX2 C.2.2.1 C.2.2.2.2.1 hW (wl_D Z b M) hS (3 + 2 * r) ((wl_get (Z := Z) (b := b) (M := M) (k := (3 + 2 * r)) (by omega)).trans (congrArg (fun E => some (b + (3 + 2 * r), E)) (en_R Z b M hr))) rfl 3 (by decide) (va_Nw.use rfl (C.2.2.2.2.2.1 _ (List.mem_append_left _ (List.mem_of_getElem? (i := 7) rfl)))) (fun _ h9 => h9) rfl (by decide +kernel) (by rw [show narrow .boolean (.int v) = .int (v &&& 1) from rfl, hv]) (by rw [← hv]; exact fits_z v) (Nat.le_of_ble_eq_true rfl) hdg (fun H1 locs1 hP _ hS1 => kk H1 locs1 (wd_set (k := (3 + 2 * r)) (E := .inr (2, [.int (M 4 r), .int (M 5 r), .int (M 6 r), .int v, .ref (b + (4 + 2 * r)), .int (M 8 r)])) (by omega) rfl (by rw [en_R Z b (mu M 7 r v) hr]; unfold resE; rw [mu_self, mu_ne M r v (show (4 : Nat) ≠ 7 by decide), mu_ne M r v (show (5 : Nat) ≠ 7 by decide), mu_ne M r v (show (6 : Nat) ≠ 7 by decide), mu_ne M r v (show (8 : Nat) ≠ 7 by decide)]) hP) hS1)
theorem gX4_10 (C : Cx p s m args c cc RX4 Z b) (hW : Wd Z b M H) (hdg : decode cc pc = .ok (.getfield 10, 3)) (kk : W p l e R s m args below meth c H locs cells slots Q (F0 m (pc + 3) ls (.ref (b + 1) :: rest))) : W p l e R s m args below meth c H locs cells slots Q (F0 m pc ls (.ref (b + 0) :: rest)) :=
  va_get (D := Z.1) (ci := 4) (fs := [.ref (b + 1), .ref (b + 123), .ref (b + 155), .int (M 0 0)]) (v := .ref (b + 1)) (C := RX4) (T := TX4) (N := 4) C.1 C.2.1 C.2.2.2.1 inaX4 C.2.2.1 C.2.2.2.2.1 hW 0 ((wl_get (Z := Z) (b := b) (M := M) (k := 0) (by decide)).trans (congrArg (fun E => some (b + 0, E)) (en_0 Z b M))) rfl 0 (by decide) (C.2.2.2.1 _ q179) (fun _ h9 => h9) rfl hdg kk
theorem gX4_19 (C : Cx p s m args c cc RX4 Z b) (hW : Wd Z b M H) (hdg : decode cc pc = .ok (.getfield 19, 3)) (kk : W p l e R s m args below meth c H locs cells slots Q (F0 m (pc + 3) ls (.ref (b + 123) :: rest))) : W p l e R s m args below meth c H locs cells slots Q (F0 m pc ls (.ref (b + 0) :: rest)) :=
  va_get (D := Z.1) (ci := 4) (fs := [.ref (b + 1), .ref (b + 123), .ref (b + 155), .int (M 0 0)]) (v := .ref (b + 123)) (C := RX4) (T := TX4) (N := 4) C.1 C.2.1 C.2.2.2.1 inaX4 C.2.2.1 C.2.2.2.2.1 hW 0 ((wl_get (Z := Z) (b := b) (M := M) (k := 0) (by decide)).trans (congrArg (fun E => some (b + 0, E)) (en_0 Z b M))) rfl 1 (by decide) (C.2.2.2.1 _ q180) (fun _ h9 => h9) rfl hdg kk
theorem gX4_23 (C : Cx p s m args c cc RX4 Z b) (hW : Wd Z b M H) (hdg : decode cc pc = .ok (.getfield 23, 3)) (kk : W p l e R s m args below meth c H locs cells slots Q (F0 m (pc + 3) ls (.ref (b + 155) :: rest))) : W p l e R s m args below meth c H locs cells slots Q (F0 m pc ls (.ref (b + 0) :: rest)) :=
  va_get (D := Z.1) (ci := 4) (fs := [.ref (b + 1), .ref (b + 123), .ref (b + 155), .int (M 0 0)]) (v := .ref (b + 155)) (C := RX4) (T := TX4) (N := 4) C.1 C.2.1 C.2.2.2.1 inaX4 C.2.2.1 C.2.2.2.2.1 hW 0 ((wl_get (Z := Z) (b := b) (M := M) (k := 0) (by decide)).trans (congrArg (fun E => some (b + 0, E)) (en_0 Z b M))) rfl 2 (by decide) (C.2.2.2.1 _ q181) (fun _ h9 => h9) rfl hdg kk
theorem gX4_27 (C : Cx p s m args c cc RX4 Z b) (hW : Wd Z b M H) (hdg : decode cc pc = .ok (.getfield 27, 3)) (kk : W p l e R s m args below meth c H locs cells slots Q (F0 m (pc + 3) ls (.int (M 0 0) :: rest))) : W p l e R s m args below meth c H locs cells slots Q (F0 m pc ls (.ref (b + 0) :: rest)) :=
  va_get (D := Z.1) (ci := 4) (fs := [.ref (b + 1), .ref (b + 123), .ref (b + 155), .int (M 0 0)]) (v := .int (M 0 0)) (C := RX4) (T := TX4) (N := 4) C.1 C.2.1 C.2.2.2.1 inaX4 C.2.2.1 C.2.2.2.2.1 hW 0 ((wl_get (Z := Z) (b := b) (M := M) (k := 0) (by decide)).trans (congrArg (fun E => some (b + 0, E)) (en_0 Z b M))) rfl 3 (by decide) (C.2.2.2.1 _ q182) (fun _ h9 => h9) rfl hdg kk
theorem pX4_27 {v : Int32} (C : Cx p s m args c cc RX4 Z b) (hS : va_S (A0 b) s.heap H locs) (hW : Wd Z b M H) (hdg : decode cc pc = .ok (.putfield 27, 3)) (kk : ∀ (H1 : Heap) (locs1 : List Loc), Wd Z b (mu M 0 0 v) H1 → va_S (A0 b) s.heap H1 locs1 → W p l e R s m args below meth c H1 locs1 cells slots Q (F0 m (pc + 3) ls rest)) : W p l e R s m args below meth c H locs cells slots Q (F0 m pc ls (.int v :: .ref (b + 0) :: rest)) :=
  va_put (D := Z.1) (ci := 4) (fs := [.ref (b + 1), .ref (b + 123), .ref (b + 155), .int (M 0 0)]) (v := .int v) (ty := .int) (C := RX4) (T := TX4) (N := 4) C.1 C.2.1 C.2.2.2.1 inaX4 tyX4 tyX4_ok nmX4 C.2.2.1 C.2.2.2.2.1 hW (wl_D Z b M) hS 0 ((wl_get (Z := Z) (b := b) (M := M) (k := 0) (by decide)).trans (congrArg (fun E => some (b + 0, E)) (en_0 Z b M))) rfl 3 (by decide) (C.2.2.2.1 _ q182) (fun _ h9 => h9) rfl (by decide +kernel) (by rfl) (by rfl) (Nat.le_of_ble_eq_true rfl) hdg (fun H1 locs1 hP _ hS1 => kk H1 locs1 (wd_set (k := 0) (E := .inr (4, [.ref (b + 1), .ref (b + 123), .ref (b + 155), .int v])) (by decide) rfl (by rw [en_0 Z b (mu M 0 0 v)]; rw [mu_self]) hP) hS1)
theorem gX4_57 (C : Cx p s m args c cc RX4 Z b) (hW : Wd Z b M H) (hdg : decode cc pc = .ok (.getfield 57, 3)) (kk : W p l e R s m args below meth c H locs cells slots Q (F0 m (pc + 3) ls (.int (M 2 0) :: rest))) : W p l e R s m args below meth c H locs cells slots Q (F0 m pc ls (.ref (b + 1) :: rest)) :=
  va_getN (D := Z.1) (ci := 3) (fs := [.ref (b + 2), .int (M 2 0)]) (v := .int (M 2 0)) (C := RX3) (T := TX3) (N := 2) C.1 C.2.1 C.2.2.2.1 inaX3 C.2.2.1 C.2.2.2.2.1 hW 1 ((wl_get (Z := Z) (b := b) (M := M) (k := 1) (by decide)).trans (congrArg (fun E => some (b + 1, E)) (en_1 Z b M))) rfl 1 (by decide) (va_Nw.use rfl (C.2.2.2.2.2.1 _ (List.mem_append_left _ (List.mem_of_getElem? (i := 11) rfl)))) (fun _ h9 => h9) rfl hdg kk
theorem gX4_132 {r : Nat} (hr : r < 60) (C : Cx p s m args c cc RX4 Z b) (hW : Wd Z b M H) (hdg : decode cc pc = .ok (.getfield 132, 3)) (kk : W p l e R s m args below meth c H locs cells slots Q (F0 m (pc + 3) ls (.int (M 6 r) :: rest))) : W p l e R s m args below meth c H locs cells slots Q (F0 m pc ls (.ref (b + (3 + 2 * r)) :: rest)) :=
  va_getN (D := Z.1) (ci := 2) (fs := [.int (M 4 r), .int (M 5 r), .int (M 6 r), .int (M 7 r), .ref (b + (4 + 2 * r)), .int (M 8 r)]) (v := .int (M 6 r)) (C := RX2) (T := TX2) (N := 6) C.1 C.2.1 C.2.2.2.1 inaX2 C.2.2.1 C.2.2.2.2.1 hW (3 + 2 * r) ((wl_get (Z := Z) (b := b) (M := M) (k := (3 + 2 * r)) (by omega)).trans (congrArg (fun E => some (b + (3 + 2 * r), E)) (en_R Z b M hr))) rfl 2 (by decide) (va_Nw.use rfl (C.2.2.2.2.2.1 _ (List.mem_append_left _ (List.mem_of_getElem? (i := 5) rfl)))) (fun _ h9 => h9) rfl hdg kk
theorem pX4_132 {r : Nat} (hr : r < 60) {v : Int32} (C : Cx p s m args c cc RX4 Z b) (hS : va_S (A0 b) s.heap H locs) (hW : Wd Z b M H) (hdg : decode cc pc = .ok (.putfield 132, 3)) (kk : ∀ (H1 : Heap) (locs1 : List Loc), Wd Z b (mu M 6 r v) H1 → va_S (A0 b) s.heap H1 locs1 → W p l e R s m args below meth c H1 locs1 cells slots Q (F0 m (pc + 3) ls rest)) : W p l e R s m args below meth c H locs cells slots Q (F0 m pc ls (.int v :: .ref (b + (3 + 2 * r)) :: rest)) :=
  va_putN (D := Z.1) (ci := 2) (fs := [.int (M 4 r), .int (M 5 r), .int (M 6 r), .int (M 7 r), .ref (b + (4 + 2 * r)), .int (M 8 r)]) (v := .int v) (ty := .int) (C := RX2) (T := TX2) (N := 6) C.1 C.2.1 C.2.2.2.1 inaX2 tyX2 tyX2_ok nmX2 C.2.2.1 C.2.2.2.2.1 hW (wl_D Z b M) hS (3 + 2 * r) ((wl_get (Z := Z) (b := b) (M := M) (k := (3 + 2 * r)) (by omega)).trans (congrArg (fun E => some (b + (3 + 2 * r), E)) (en_R Z b M hr))) rfl 2 (by decide) (va_Nw.use rfl (C.2.2.2.2.2.1 _ (List.mem_append_left _ (List.mem_of_getElem? (i := 5) rfl)))) (fun _ h9 => h9) rfl (by decide +kernel) (by rfl) (by rfl) (Nat.le_of_ble_eq_true rfl) hdg (fun H1 locs1 hP _ hS1 => kk H1 locs1 (wd_set (k := (3 + 2 * r)) (E := .inr (2, [.int (M 4 r), .int (M 5 r), .int v, .int (M 7 r), .ref (b + (4 + 2 * r)), .int (M 8 r)])) (by omega) rfl (by rw [en_R Z b (mu M 6 r v) hr]; unfold resE; rw [mu_self, mu_ne M r v (show (4 : Nat) ≠ 6 by decide), mu_ne M r v (show (5 : Nat) ≠ 6 by decide), mu_ne M r v (show (7 : Nat) ≠ 6 by decide), mu_ne M r v (show (8 : Nat) ≠ 6 by decide)]) hP) hS1)
theorem gX4_146 (C : Cx p s m args c cc RX4 Z b) (hW : Wd Z b M H) (hdg : decode cc pc = .ok (.getfield 146, 3)) (kk : W p l e R s m args below meth c H locs cells slots Q (F0 m (pc + 3) ls (.ref (b + 2) :: rest))) : W p l e R s m args below meth c H locs cells slots Q (F0 m pc ls (.ref (b + 1) :: rest)) :=
  va_getN (D := Z.1) (ci := 3) (fs := [.ref (b + 2), .int (M 2 0)]) (v := .ref (b + 2)) (C := RX3) (T := TX3) (N := 2) C.1 C.2.1 C.2.2.2.1 inaX3 C.2.2.1 C.2.2.2.2.1 hW 1 ((wl_get (Z := Z) (b := b) (M := M) (k := 1) (by decide)).trans (congrArg (fun E => some (b + 1, E)) (en_1 Z b M))) rfl 0 (by decide) (va_Nw.use rfl (C.2.2.2.2.2.1 _ (List.mem_append_left _ (List.mem_of_getElem? (i := 10) rfl)))) (fun _ h9 => h9) rfl hdg kk
theorem gX4_150 {r : Nat} (hr : r < 60) (C : Cx p s m args c cc RX4 Z b) (hW : Wd Z b M H) (hdg : decode cc pc = .ok (.getfield 150, 3)) (kk : W p l e R s m args below meth c H locs cells slots Q (F0 m (pc + 3) ls (.int (M 4 r) :: rest))) : W p l e R s m args below meth c H locs cells slots Q (F0 m pc ls (.ref (b + (3 + 2 * r)) :: rest)) :=
  va_getN (D := Z.1) (ci := 2) (fs := [.int (M 4 r), .int (M 5 r), .int (M 6 r), .int (M 7 r), .ref (b + (4 + 2 * r)), .int (M 8 r)]) (v := .int (M 4 r)) (C := RX2) (T := TX2) (N := 6) C.1 C.2.1 C.2.2.2.1 inaX2 C.2.2.1 C.2.2.2.2.1 hW (3 + 2 * r) ((wl_get (Z := Z) (b := b) (M := M) (k := (3 + 2 * r)) (by omega)).trans (congrArg (fun E => some (b + (3 + 2 * r), E)) (en_R Z b M hr))) rfl 0 (by decide) (va_Nw.use rfl (C.2.2.2.2.2.1 _ (List.mem_append_left _ (List.mem_of_getElem? (i := 3) rfl)))) (fun _ h9 => h9) rfl hdg kk
theorem gX4_156 (C : Cx p s m args c cc RX4 Z b) (hW : Wd Z b M H) (hdg : decode cc pc = .ok (.getfield 156, 3)) (kk : W p l e R s m args below meth c H locs cells slots Q (F0 m (pc + 3) ls (.int (M 10 0) :: rest))) : W p l e R s m args below meth c H locs cells slots Q (F0 m pc ls (.ref (b + 123) :: rest)) :=
  va_getN (D := Z.1) (ci := 1) (fs := [.ref (b + 124), .int (M 10 0), .int (M 11 0)]) (v := .int (M 10 0)) (C := RX1) (T := TX1) (N := 3) C.1 C.2.1 C.2.2.2.1 inaX1 C.2.2.1 C.2.2.2.2.1 hW 123 ((wl_get (Z := Z) (b := b) (M := M) (k := 123) (by decide)).trans (congrArg (fun E => some (b + 123, E)) (en_123 Z b M))) rfl 1 (by decide) (va_Nw.use rfl (C.2.2.2.2.2.1 _ (List.mem_append_left _ (List.mem_of_getElem? (i := 21) rfl)))) (fun _ h9 => h9) rfl hdg kk
theorem gX4_179 {r : Nat} (hr : r < 30) (C : Cx p s m args c cc RX4 Z b) (hW : Wd Z b M H) (hdg : decode cc pc = .ok (.getfield 179, 3)) (kk : W p l e R s m args below meth c H locs cells slots Q (F0 m (pc + 3) ls (.int (M 12 r) :: rest))) : W p l e R s m args below meth c H locs cells slots Q (F0 m pc ls (.ref (b + (125 + r)) :: rest)) :=
  va_getN (D := Z.1) (ci := 0) (fs := [.int (M 12 r), .int (M 13 r), .int (M 14 r), .int (M 15 r), .int (M 16 r)]) (v := .int (M 12 r)) (C := RX0) (T := TX0) (N := 5) C.1 C.2.1 C.2.2.2.1 inaX0 C.2.2.1 C.2.2.2.2.1 hW (125 + r) ((wl_get (Z := Z) (b := b) (M := M) (k := (125 + r)) (by omega)).trans (congrArg (fun E => some (b + (125 + r), E)) (en_L Z b M hr))) rfl 0 (by decide) (va_Nw.use rfl (C.2.2.2.2.2.1 _ (List.mem_append_left _ (List.mem_of_getElem? (i := 15) rfl)))) (fun _ h9 => h9) rfl hdg kk
theorem gX4_186 {r : Nat} (hr : r < 30) (C : Cx p s m args c cc RX4 Z b) (hW : Wd Z b M H) (hdg : decode cc pc = .ok (.getfield 186, 3)) (kk : W p l e R s m args below meth c H locs cells slots Q (F0 m (pc + 3) ls (.int (M 16 r) :: rest))) : W p l e R s m args below meth c H locs cells slots Q (F0 m pc ls (.ref (b + (125 + r)) :: rest)) :=
  va_getN (D := Z.1) (ci := 0) (fs := [.int (M 12 r), .int (M 13 r), .int (M 14 r), .int (M 15 r), .int (M 16 r)]) (v := .int (M 16 r)) (C := RX0) (T := TX0) (N := 5) C.1 C.2.1 C.2.2.2.1 inaX0 C.2.2.1 C.2.2.2.2.1 hW (125 + r) ((wl_get (Z := Z) (b := b) (M := M) (k := (125 + r)) (by omega)).trans (congrArg (fun E => some (b + (125 + r), E)) (en_L Z b M hr))) rfl 4 (by decide) (va_Nw.use rfl (C.2.2.2.2.2.1 _ (List.mem_append_left _ (List.mem_of_getElem? (i := 20) rfl)))) (fun _ h9 => h9) rfl hdg kk
theorem pX4_186 {r : Nat} (hr : r < 30) {v : Int32} (C : Cx p s m args c cc RX4 Z b) (hS : va_S (A0 b) s.heap H locs) (hW : Wd Z b M H) (hdg : decode cc pc = .ok (.putfield 186, 3)) (kk : ∀ (H1 : Heap) (locs1 : List Loc), Wd Z b (mu M 16 r v) H1 → va_S (A0 b) s.heap H1 locs1 → W p l e R s m args below meth c H1 locs1 cells slots Q (F0 m (pc + 3) ls rest)) : W p l e R s m args below meth c H locs cells slots Q (F0 m pc ls (.int v :: .ref (b + (125 + r)) :: rest)) :=
  va_putN (D := Z.1) (ci := 0) (fs := [.int (M 12 r), .int (M 13 r), .int (M 14 r), .int (M 15 r), .int (M 16 r)]) (v := .int v) (ty := .int) (C := RX0) (T := TX0) (N := 5) C.1 C.2.1 C.2.2.2.1 inaX0 tyX0 tyX0_ok nmX0 C.2.2.1 C.2.2.2.2.1 hW (wl_D Z b M) hS (125 + r) ((wl_get (Z := Z) (b := b) (M := M) (k := (125 + r)) (by omega)).trans (congrArg (fun E => some (b + (125 + r), E)) (en_L Z b M hr))) rfl 4 (by decide) (va_Nw.use rfl (C.2.2.2.2.2.1 _ (List.mem_append_left _ (List.mem_of_getElem? (i := 20) rfl)))) (fun _ h9 => h9) rfl (by decide +kernel) (by rfl) (by rfl) (Nat.le_of_ble_eq_true rfl) hdg (fun H1 locs1 hP _ hS1 => kk H1 locs1 (wd_set (k := (125 + r)) (E := .inr (0, [.int (M 12 r), .int (M 13 r), .int (M 14 r), .int (M 15 r), .int v])) (by omega) rfl (by rw [en_L Z b (mu M 16 r v) hr]; unfold lokE; rw [mu_self, mu_ne M r v (show (12 : Nat) ≠ 16 by decide), mu_ne M r v (show (13 : Nat) ≠ 16 by decide), mu_ne M r v (show (14 : Nat) ≠ 16 by decide), mu_ne M r v (show (15 : Nat) ≠ 16 by decide)]) hP) hS1)
theorem gX4_189 (C : Cx p s m args c cc RX4 Z b) (hW : Wd Z b M H) (hdg : decode cc pc = .ok (.getfield 189, 3)) (kk : W p l e R s m args below meth c H locs cells slots Q (F0 m (pc + 3) ls (.int (M 11 0) :: rest))) : W p l e R s m args below meth c H locs cells slots Q (F0 m pc ls (.ref (b + 123) :: rest)) :=
  va_getN (D := Z.1) (ci := 1) (fs := [.ref (b + 124), .int (M 10 0), .int (M 11 0)]) (v := .int (M 11 0)) (C := RX1) (T := TX1) (N := 3) C.1 C.2.1 C.2.2.2.1 inaX1 C.2.2.1 C.2.2.2.2.1 hW 123 ((wl_get (Z := Z) (b := b) (M := M) (k := 123) (by decide)).trans (congrArg (fun E => some (b + 123, E)) (en_123 Z b M))) rfl 2 (by decide) (va_Nw.use rfl (C.2.2.2.2.2.1 _ (List.mem_append_left _ (List.mem_of_getElem? (i := 22) rfl)))) (fun _ h9 => h9) rfl hdg kk
theorem gX4_203 {r : Nat} (hr : r < 60) (C : Cx p s m args c cc RX4 Z b) (hW : Wd Z b M H) (hdg : decode cc pc = .ok (.getfield 203, 3)) (kk : W p l e R s m args below meth c H locs cells slots Q (F0 m (pc + 3) ls (.int (M 8 r) :: rest))) : W p l e R s m args below meth c H locs cells slots Q (F0 m pc ls (.ref (b + (3 + 2 * r)) :: rest)) :=
  va_getN (D := Z.1) (ci := 2) (fs := [.int (M 4 r), .int (M 5 r), .int (M 6 r), .int (M 7 r), .ref (b + (4 + 2 * r)), .int (M 8 r)]) (v := .int (M 8 r)) (C := RX2) (T := TX2) (N := 6) C.1 C.2.1 C.2.2.2.1 inaX2 C.2.2.1 C.2.2.2.2.1 hW (3 + 2 * r) ((wl_get (Z := Z) (b := b) (M := M) (k := (3 + 2 * r)) (by omega)).trans (congrArg (fun E => some (b + (3 + 2 * r), E)) (en_R Z b M hr))) rfl 5 (by decide) (va_Nw.use rfl (C.2.2.2.2.2.1 _ (List.mem_append_left _ (List.mem_of_getElem? (i := 9) rfl)))) (fun _ h9 => h9) rfl hdg kk
theorem gX4_250 {r : Nat} (hr : r < 60) (C : Cx p s m args c cc RX4 Z b) (hW : Wd Z b M H) (hdg : decode cc pc = .ok (.getfield 250, 3)) (kk : W p l e R s m args below meth c H locs cells slots Q (F0 m (pc + 3) ls (.int (M 7 r) :: rest))) : W p l e R s m args below meth c H locs cells slots Q (F0 m pc ls (.ref (b + (3 + 2 * r)) :: rest)) :=
  va_getN (D := Z.1) (ci := 2) (fs := [.int (M 4 r), .int (M 5 r), .int (M 6 r), .int (M 7 r), .ref (b + (4 + 2 * r)), .int (M 8 r)]) (v := .int (M 7 r)) (C := RX2) (T := TX2) (N := 6) C.1 C.2.1 C.2.2.2.1 inaX2 C.2.2.1 C.2.2.2.2.1 hW (3 + 2 * r) ((wl_get (Z := Z) (b := b) (M := M) (k := (3 + 2 * r)) (by omega)).trans (congrArg (fun E => some (b + (3 + 2 * r), E)) (en_R Z b M hr))) rfl 3 (by decide) (va_Nw.use rfl (C.2.2.2.2.2.1 _ (List.mem_append_left _ (List.mem_of_getElem? (i := 8) rfl)))) (fun _ h9 => h9) rfl hdg kk
theorem gX5_7 (C : Cx p s m args c cc RX5 Z b) (hW : Wd Z b M H) (hdg : decode cc pc = .ok (.getfield 7, 3)) (kk : W p l e R s m args below meth c H locs cells slots Q (F0 m (pc + 3) ls (.ref (b + 157) :: rest))) : W p l e R s m args below meth c H locs cells slots Q (F0 m pc ls (.ref (b + 156) :: rest)) :=
  va_get (D := Z.1) (ci := 5) (fs := [.ref (b + 157), .ref (b + 158), .ref (b + 159), .ref (b + 160), .ref (b + 161), .int (M 25 0), .ref (b + 162), .ref (b + 163), .int (M 28 0), .int (M 29 0), .ref (b + 164), .ref (b + 165), .ref (b + 166), .ref (b + 167), .ref (b + 168), .int (M 35 0), .ref (b + 169), .ref (b + 170), .ref (b + 171), .int (M 39 0)]) (v := .ref (b + 157)) (C := RX5) (T := TX5) (N := 20) C.1 C.2.1 C.2.2.2.1 inaX5 C.2.2.1 C.2.2.2.2.1 hW 156 ((wl_get (Z := Z) (b := b) (M := M) (k := 156) (by decide)).trans (congrArg (fun E => some (b + 156, E)) (en_156 Z b M))) rfl 0 (by decide) (C.2.2.2.1 _ q653) (fun _ h9 => h9) rfl hdg kk
theorem gX5_13 (C : Cx p s m args c cc RX5 Z b) (hW : Wd Z b M H) (hdg : decode cc pc = .ok (.getfield 13, 3)) (kk : W p l e R s m args below meth c H locs cells slots Q (F0 m (pc + 3) ls (.ref (b + 158) :: rest))) : W p l e R s m args below meth c H locs cells slots Q (F0 m pc ls (.ref (b + 156) :: rest)) :=
  va_get (D := Z.1) (ci := 5) (fs := [.ref (b + 157), .ref (b + 158), .ref (b + 159), .ref (b + 160), .ref (b + 161), .int (M 25 0), .ref (b + 162), .ref (b + 163), .int (M 28 0), .int (M 29 0), .ref (b + 164), .ref (b + 165), .ref (b + 166), .ref (b + 167), .ref (b + 168), .int (M 35 0), .ref (b + 169), .ref (b + 170), .ref (b + 171), .int (M 39 0)]) (v := .ref (b + 158)) (C := RX5) (T := TX5) (N := 20) C.1 C.2.1 C.2.2.2.1 inaX5 C.2.2.1 C.2.2.2.2.1 hW 156 ((wl_get (Z := Z) (b := b) (M := M) (k := 156) (by decide)).trans (congrArg (fun E => some (b + 156, E)) (en_156 Z b M))) rfl 1 (by decide) (C.2.2.2.1 _ q654) (fun _ h9 => h9) rfl hdg kk
theorem gX5_17 (C : Cx p s m args c cc RX5 Z b) (hW : Wd Z b M H) (hdg : decode cc pc = .ok (.getfield 17, 3)) (kk : W p l e R s m args below meth c H locs cells slots Q (F0 m (pc + 3) ls (.ref (b + 159) :: rest))) : W p l e R s m args below meth c H locs cells slots Q (F0 m pc ls (.ref (b + 156) :: rest)) :=
  va_get (D := Z.1) (ci := 5) (fs := [.ref (b + 157), .ref (b + 158), .ref (b + 159), .ref (b + 160), .ref (b + 161), .int (M 25 0), .ref (b + 162), .ref (b + 163), .int (M 28 0), .int (M 29 0), .ref (b + 164), .ref (b + 165), .ref (b + 166), .ref (b + 167), .ref (b + 168), .int (M 35 0), .ref (b + 169), .ref (b + 170), .ref (b + 171), .int (M 39 0)]) (v := .ref (b + 159)) (C := RX5) (T := TX5) (N := 20) C.1 C.2.1 C.2.2.2.1 inaX5 C.2.2.1 C.2.2.2.2.1 hW 156 ((wl_get (Z := Z) (b := b) (M := M) (k := 156) (by decide)).trans (congrArg (fun E => some (b + 156, E)) (en_156 Z b M))) rfl 2 (by decide) (C.2.2.2.1 _ q655) (fun _ h9 => h9) rfl hdg kk
theorem gX5_20 (C : Cx p s m args c cc RX5 Z b) (hW : Wd Z b M H) (hdg : decode cc pc = .ok (.getfield 20, 3)) (kk : W p l e R s m args below meth c H locs cells slots Q (F0 m (pc + 3) ls (.ref (b + 160) :: rest))) : W p l e R s m args below meth c H locs cells slots Q (F0 m pc ls (.ref (b + 156) :: rest)) :=
  va_get (D := Z.1) (ci := 5) (fs := [.ref (b + 157), .ref (b + 158), .ref (b + 159), .ref (b + 160), .ref (b + 161), .int (M 25 0), .ref (b + 162), .ref (b + 163), .int (M 28 0), .int (M 29 0), .ref (b + 164), .ref (b + 165), .ref (b + 166), .ref (b + 167), .ref (b + 168), .int (M 35 0), .ref (b + 169), .ref (b + 170), .ref (b + 171), .int (M 39 0)]) (v := .ref (b + 160)) (C := RX5) (T := TX5) (N := 20) C.1 C.2.1 C.2.2.2.1 inaX5 C.2.2.1 C.2.2.2.2.1 hW 156 ((wl_get (Z := Z) (b := b) (M := M) (k := 156) (by decide)).trans (congrArg (fun E => some (b + 156, E)) (en_156 Z b M))) rfl 3 (by decide) (C.2.2.2.1 _ q656) (fun _ h9 => h9) rfl hdg kk
theorem gX5_23 (C : Cx p s m args c cc RX5 Z b) (hW : Wd Z b M H) (hdg : decode cc pc = .ok (.getfield 23, 3)) (kk : W p l e R s m args below meth c H locs cells slots Q (F0 m (pc + 3) ls (.ref (b + 161) :: rest))) : W p l e R s m args below meth c H locs cells slots Q (F0 m pc ls (.ref (b + 156) :: rest)) :=
  va_get (D := Z.1) (ci := 5) (fs := [.ref (b + 157), .ref (b + 158), .ref (b + 159), .ref (b + 160), .ref (b + 161), .int (M 25 0), .ref (b + 162), .ref (b + 163), .int (M 28 0), .int (M 29 0), .ref (b + 164), .ref (b + 165), .ref (b + 166), .ref (b + 167), .ref (b + 168), .int (M 35 0), .ref (b + 169), .ref (b + 170), .ref (b + 171), .int (M 39 0)]) (v := .ref (b + 161)) (C := RX5) (T := TX5) (N := 20) C.1 C.2.1 C.2.2.2.1 inaX5 C.2.2.1 C.2.2.2.2.1 hW 156 ((wl_get (Z := Z) (b := b) (M := M) (k := 156) (by decide)).trans (congrArg (fun E => some (b + 156, E)) (en_156 Z b M))) rfl 4 (by decide) (C.2.2.2.1 _ q657) (fun _ h9 => h9) rfl hdg kk
theorem gX5_26 (C : Cx p s m args c cc RX5 Z b) (hW : Wd Z b M H) (hdg : decode cc pc = .ok (.getfield 26, 3)) (kk : W p l e R s m args below meth c H locs cells slots Q (F0 m (pc + 3) ls (.ref (b + 162) :: rest))) : W p l e R s m args below meth c H locs cells slots Q (F0 m pc ls (.ref (b + 156) :: rest)) :=
  va_get (D := Z.1) (ci := 5) (fs := [.ref (b + 157), .ref (b + 158), .ref (b + 159), .ref (b + 160), .ref (b + 161), .int (M 25 0), .ref (b + 162), .ref (b + 163), .int (M 28 0), .int (M 29 0), .ref (b + 164), .ref (b + 165), .ref (b + 166), .ref (b + 167), .ref (b + 168), .int (M 35 0), .ref (b + 169), .ref (b + 170), .ref (b + 171), .int (M 39 0)]) (v := .ref (b + 162)) (C := RX5) (T := TX5) (N := 20) C.1 C.2.1 C.2.2.2.1 inaX5 C.2.2.1 C.2.2.2.2.1 hW 156 ((wl_get (Z := Z) (b := b) (M := M) (k := 156) (by decide)).trans (congrArg (fun E => some (b + 156, E)) (en_156 Z b M))) rfl 6 (by decide) (C.2.2.2.1 _ q659) (fun _ h9 => h9) rfl hdg kk
theorem gX5_29 (C : Cx p s m args c cc RX5 Z b) (hW : Wd Z b M H) (hdg : decode cc pc = .ok (.getfield 29, 3)) (kk : W p l e R s m args below meth c H locs cells slots Q (F0 m (pc + 3) ls (.ref (b + 163) :: rest))) : W p l e R s m args below meth c H locs cells slots Q (F0 m pc ls (.ref (b + 156) :: rest)) :=
  va_get (D := Z.1) (ci := 5) (fs := [.ref (b + 157), .ref (b + 158), .ref (b + 159), .ref (b + 160), .ref (b + 161), .int (M 25 0), .ref (b + 162), .ref (b + 163), .int (M 28 0), .int (M 29 0), .ref (b + 164), .ref (b + 165), .ref (b + 166), .ref (b + 167), .ref (b + 168), .int (M 35 0), .ref (b + 169), .ref (b + 170), .ref (b + 171), .int (M 39 0)]) (v := .ref (b + 163)) (C := RX5) (T := TX5) (N := 20) C.1 C.2.1 C.2.2.2.1 inaX5 C.2.2.1 C.2.2.2.2.1 hW 156 ((wl_get (Z := Z) (b := b) (M := M) (k := 156) (by decide)).trans (congrArg (fun E => some (b + 156, E)) (en_156 Z b M))) rfl 7 (by decide) (C.2.2.2.1 _ q660) (fun _ h9 => h9) rfl hdg kk
theorem gX5_32 (C : Cx p s m args c cc RX5 Z b) (hW : Wd Z b M H) (hdg : decode cc pc = .ok (.getfield 32, 3)) (kk : W p l e R s m args below meth c H locs cells slots Q (F0 m (pc + 3) ls (.ref (b + 164) :: rest))) : W p l e R s m args below meth c H locs cells slots Q (F0 m pc ls (.ref (b + 156) :: rest)) :=
  va_get (D := Z.1) (ci := 5) (fs := [.ref (b + 157), .ref (b + 158), .ref (b + 159), .ref (b + 160), .ref (b + 161), .int (M 25 0), .ref (b + 162), .ref (b + 163), .int (M 28 0), .int (M 29 0), .ref (b + 164), .ref (b + 165), .ref (b + 166), .ref (b + 167), .ref (b + 168), .int (M 35 0), .ref (b + 169), .ref (b + 170), .ref (b + 171), .int (M 39 0)]) (v := .ref (b + 164)) (C := RX5) (T := TX5) (N := 20) C.1 C.2.1 C.2.2.2.1 inaX5 C.2.2.1 C.2.2.2.2.1 hW 156 ((wl_get (Z := Z) (b := b) (M := M) (k := 156) (by decide)).trans (congrArg (fun E => some (b + 156, E)) (en_156 Z b M))) rfl 10 (by decide) (C.2.2.2.1 _ q663) (fun _ h9 => h9) rfl hdg kk
theorem gX5_35 (C : Cx p s m args c cc RX5 Z b) (hW : Wd Z b M H) (hdg : decode cc pc = .ok (.getfield 35, 3)) (kk : W p l e R s m args below meth c H locs cells slots Q (F0 m (pc + 3) ls (.ref (b + 165) :: rest))) : W p l e R s m args below meth c H locs cells slots Q (F0 m pc ls (.ref (b + 156) :: rest)) :=
  va_get (D := Z.1) (ci := 5) (fs := [.ref (b + 157), .ref (b + 158), .ref (b + 159), .ref (b + 160), .ref (b + 161), .int (M 25 0), .ref (b + 162), .ref (b + 163), .int (M 28 0), .int (M 29 0), .ref (b + 164), .ref (b + 165), .ref (b + 166), .ref (b + 167), .ref (b + 168), .int (M 35 0), .ref (b + 169), .ref (b + 170), .ref (b + 171), .int (M 39 0)]) (v := .ref (b + 165)) (C := RX5) (T := TX5) (N := 20) C.1 C.2.1 C.2.2.2.1 inaX5 C.2.2.1 C.2.2.2.2.1 hW 156 ((wl_get (Z := Z) (b := b) (M := M) (k := 156) (by decide)).trans (congrArg (fun E => some (b + 156, E)) (en_156 Z b M))) rfl 11 (by decide) (C.2.2.2.1 _ q664) (fun _ h9 => h9) rfl hdg kk
theorem gX5_38 (C : Cx p s m args c cc RX5 Z b) (hW : Wd Z b M H) (hdg : decode cc pc = .ok (.getfield 38, 3)) (kk : W p l e R s m args below meth c H locs cells slots Q (F0 m (pc + 3) ls (.ref (b + 166) :: rest))) : W p l e R s m args below meth c H locs cells slots Q (F0 m pc ls (.ref (b + 156) :: rest)) :=
  va_get (D := Z.1) (ci := 5) (fs := [.ref (b + 157), .ref (b + 158), .ref (b + 159), .ref (b + 160), .ref (b + 161), .int (M 25 0), .ref (b + 162), .ref (b + 163), .int (M 28 0), .int (M 29 0), .ref (b + 164), .ref (b + 165), .ref (b + 166), .ref (b + 167), .ref (b + 168), .int (M 35 0), .ref (b + 169), .ref (b + 170), .ref (b + 171), .int (M 39 0)]) (v := .ref (b + 166)) (C := RX5) (T := TX5) (N := 20) C.1 C.2.1 C.2.2.2.1 inaX5 C.2.2.1 C.2.2.2.2.1 hW 156 ((wl_get (Z := Z) (b := b) (M := M) (k := 156) (by decide)).trans (congrArg (fun E => some (b + 156, E)) (en_156 Z b M))) rfl 12 (by decide) (C.2.2.2.1 _ q665) (fun _ h9 => h9) rfl hdg kk
theorem gX5_41 (C : Cx p s m args c cc RX5 Z b) (hW : Wd Z b M H) (hdg : decode cc pc = .ok (.getfield 41, 3)) (kk : W p l e R s m args below meth c H locs cells slots Q (F0 m (pc + 3) ls (.ref (b + 167) :: rest))) : W p l e R s m args below meth c H locs cells slots Q (F0 m pc ls (.ref (b + 156) :: rest)) :=
  va_get (D := Z.1) (ci := 5) (fs := [.ref (b + 157), .ref (b + 158), .ref (b + 159), .ref (b + 160), .ref (b + 161), .int (M 25 0), .ref (b + 162), .ref (b + 163), .int (M 28 0), .int (M 29 0), .ref (b + 164), .ref (b + 165), .ref (b + 166), .ref (b + 167), .ref (b + 168), .int (M 35 0), .ref (b + 169), .ref (b + 170), .ref (b + 171), .int (M 39 0)]) (v := .ref (b + 167)) (C := RX5) (T := TX5) (N := 20) C.1 C.2.1 C.2.2.2.1 inaX5 C.2.2.1 C.2.2.2.2.1 hW 156 ((wl_get (Z := Z) (b := b) (M := M) (k := 156) (by decide)).trans (congrArg (fun E => some (b + 156, E)) (en_156 Z b M))) rfl 13 (by decide) (C.2.2.2.1 _ q666) (fun _ h9 => h9) rfl hdg kk
theorem gX5_44 (C : Cx p s m args c cc RX5 Z b) (hW : Wd Z b M H) (hdg : decode cc pc = .ok (.getfield 44, 3)) (kk : W p l e R s m args below meth c H locs cells slots Q (F0 m (pc + 3) ls (.ref (b + 168) :: rest))) : W p l e R s m args below meth c H locs cells slots Q (F0 m pc ls (.ref (b + 156) :: rest)) :=
  va_get (D := Z.1) (ci := 5) (fs := [.ref (b + 157), .ref (b + 158), .ref (b + 159), .ref (b + 160), .ref (b + 161), .int (M 25 0), .ref (b + 162), .ref (b + 163), .int (M 28 0), .int (M 29 0), .ref (b + 164), .ref (b + 165), .ref (b + 166), .ref (b + 167), .ref (b + 168), .int (M 35 0), .ref (b + 169), .ref (b + 170), .ref (b + 171), .int (M 39 0)]) (v := .ref (b + 168)) (C := RX5) (T := TX5) (N := 20) C.1 C.2.1 C.2.2.2.1 inaX5 C.2.2.1 C.2.2.2.2.1 hW 156 ((wl_get (Z := Z) (b := b) (M := M) (k := 156) (by decide)).trans (congrArg (fun E => some (b + 156, E)) (en_156 Z b M))) rfl 14 (by decide) (C.2.2.2.1 _ q667) (fun _ h9 => h9) rfl hdg kk
theorem gX5_47 (C : Cx p s m args c cc RX5 Z b) (hW : Wd Z b M H) (hdg : decode cc pc = .ok (.getfield 47, 3)) (kk : W p l e R s m args below meth c H locs cells slots Q (F0 m (pc + 3) ls (.ref (b + 169) :: rest))) : W p l e R s m args below meth c H locs cells slots Q (F0 m pc ls (.ref (b + 156) :: rest)) :=
  va_get (D := Z.1) (ci := 5) (fs := [.ref (b + 157), .ref (b + 158), .ref (b + 159), .ref (b + 160), .ref (b + 161), .int (M 25 0), .ref (b + 162), .ref (b + 163), .int (M 28 0), .int (M 29 0), .ref (b + 164), .ref (b + 165), .ref (b + 166), .ref (b + 167), .ref (b + 168), .int (M 35 0), .ref (b + 169), .ref (b + 170), .ref (b + 171), .int (M 39 0)]) (v := .ref (b + 169)) (C := RX5) (T := TX5) (N := 20) C.1 C.2.1 C.2.2.2.1 inaX5 C.2.2.1 C.2.2.2.2.1 hW 156 ((wl_get (Z := Z) (b := b) (M := M) (k := 156) (by decide)).trans (congrArg (fun E => some (b + 156, E)) (en_156 Z b M))) rfl 16 (by decide) (C.2.2.2.1 _ q669) (fun _ h9 => h9) rfl hdg kk
theorem gX5_50 (C : Cx p s m args c cc RX5 Z b) (hW : Wd Z b M H) (hdg : decode cc pc = .ok (.getfield 50, 3)) (kk : W p l e R s m args below meth c H locs cells slots Q (F0 m (pc + 3) ls (.ref (b + 170) :: rest))) : W p l e R s m args below meth c H locs cells slots Q (F0 m pc ls (.ref (b + 156) :: rest)) :=
  va_get (D := Z.1) (ci := 5) (fs := [.ref (b + 157), .ref (b + 158), .ref (b + 159), .ref (b + 160), .ref (b + 161), .int (M 25 0), .ref (b + 162), .ref (b + 163), .int (M 28 0), .int (M 29 0), .ref (b + 164), .ref (b + 165), .ref (b + 166), .ref (b + 167), .ref (b + 168), .int (M 35 0), .ref (b + 169), .ref (b + 170), .ref (b + 171), .int (M 39 0)]) (v := .ref (b + 170)) (C := RX5) (T := TX5) (N := 20) C.1 C.2.1 C.2.2.2.1 inaX5 C.2.2.1 C.2.2.2.2.1 hW 156 ((wl_get (Z := Z) (b := b) (M := M) (k := 156) (by decide)).trans (congrArg (fun E => some (b + 156, E)) (en_156 Z b M))) rfl 17 (by decide) (C.2.2.2.1 _ q670) (fun _ h9 => h9) rfl hdg kk
theorem gX5_53 (C : Cx p s m args c cc RX5 Z b) (hW : Wd Z b M H) (hdg : decode cc pc = .ok (.getfield 53, 3)) (kk : W p l e R s m args below meth c H locs cells slots Q (F0 m (pc + 3) ls (.ref (b + 171) :: rest))) : W p l e R s m args below meth c H locs cells slots Q (F0 m pc ls (.ref (b + 156) :: rest)) :=
  va_get (D := Z.1) (ci := 5) (fs := [.ref (b + 157), .ref (b + 158), .ref (b + 159), .ref (b + 160), .ref (b + 161), .int (M 25 0), .ref (b + 162), .ref (b + 163), .int (M 28 0), .int (M 29 0), .ref (b + 164), .ref (b + 165), .ref (b + 166), .ref (b + 167), .ref (b + 168), .int (M 35 0), .ref (b + 169), .ref (b + 170), .ref (b + 171), .int (M 39 0)]) (v := .ref (b + 171)) (C := RX5) (T := TX5) (N := 20) C.1 C.2.1 C.2.2.2.1 inaX5 C.2.2.1 C.2.2.2.2.1 hW 156 ((wl_get (Z := Z) (b := b) (M := M) (k := 156) (by decide)).trans (congrArg (fun E => some (b + 156, E)) (en_156 Z b M))) rfl 18 (by decide) (C.2.2.2.1 _ q671) (fun _ h9 => h9) rfl hdg kk
theorem gX5_56 (C : Cx p s m args c cc RX5 Z b) (hW : Wd Z b M H) (hdg : decode cc pc = .ok (.getfield 56, 3)) (kk : W p l e R s m args below meth c H locs cells slots Q (F0 m (pc + 3) ls (.int (M 39 0) :: rest))) : W p l e R s m args below meth c H locs cells slots Q (F0 m pc ls (.ref (b + 156) :: rest)) :=
  va_get (D := Z.1) (ci := 5) (fs := [.ref (b + 157), .ref (b + 158), .ref (b + 159), .ref (b + 160), .ref (b + 161), .int (M 25 0), .ref (b + 162), .ref (b + 163), .int (M 28 0), .int (M 29 0), .ref (b + 164), .ref (b + 165), .ref (b + 166), .ref (b + 167), .ref (b + 168), .int (M 35 0), .ref (b + 169), .ref (b + 170), .ref (b + 171), .int (M 39 0)]) (v := .int (M 39 0)) (C := RX5) (T := TX5) (N := 20) C.1 C.2.1 C.2.2.2.1 inaX5 C.2.2.1 C.2.2.2.2.1 hW 156 ((wl_get (Z := Z) (b := b) (M := M) (k := 156) (by decide)).trans (congrArg (fun E => some (b + 156, E)) (en_156 Z b M))) rfl 19 (by decide) (C.2.2.2.1 _ q672) (fun _ h9 => h9) rfl hdg kk
theorem pX5_56 {v : Int32} (C : Cx p s m args c cc RX5 Z b) (hS : va_S (A0 b) s.heap H locs) (hW : Wd Z b M H) (hdg : decode cc pc = .ok (.putfield 56, 3)) (kk : ∀ (H1 : Heap) (locs1 : List Loc), Wd Z b (mu M 39 0 v) H1 → va_S (A0 b) s.heap H1 locs1 → W p l e R s m args below meth c H1 locs1 cells slots Q (F0 m (pc + 3) ls rest)) : W p l e R s m args below meth c H locs cells slots Q (F0 m pc ls (.int v :: .ref (b + 156) :: rest)) :=
  va_put (D := Z.1) (ci := 5) (fs := [.ref (b + 157), .ref (b + 158), .ref (b + 159), .ref (b + 160), .ref (b + 161), .int (M 25 0), .ref (b + 162), .ref (b + 163), .int (M 28 0), .int (M 29 0), .ref (b + 164), .ref (b + 165), .ref (b + 166), .ref (b + 167), .ref (b + 168), .int (M 35 0), .ref (b + 169), .ref (b + 170), .ref (b + 171), .int (M 39 0)]) (v := .int v) (ty := .int) (C := RX5) (T := TX5) (N := 20) C.1 C.2.1 C.2.2.2.1 inaX5 tyX5 tyX5_ok nmX5 C.2.2.1 C.2.2.2.2.1 hW (wl_D Z b M) hS 156 ((wl_get (Z := Z) (b := b) (M := M) (k := 156) (by decide)).trans (congrArg (fun E => some (b + 156, E)) (en_156 Z b M))) rfl 19 (by decide) (C.2.2.2.1 _ q672) (fun _ h9 => h9) rfl (by decide +kernel) (by rfl) (by rfl) (Nat.le_of_ble_eq_true rfl) hdg (fun H1 locs1 hP _ hS1 => kk H1 locs1 (wd_set (k := 156) (E := .inr (5, [.ref (b + 157), .ref (b + 158), .ref (b + 159), .ref (b + 160), .ref (b + 161), .int (M 25 0), .ref (b + 162), .ref (b + 163), .int (M 28 0), .int (M 29 0), .ref (b + 164), .ref (b + 165), .ref (b + 166), .ref (b + 167), .ref (b + 168), .int (M 35 0), .ref (b + 169), .ref (b + 170), .ref (b + 171), .int v])) (by decide) rfl (by rw [en_156 Z b (mu M 39 0 v)]; rw [mu_self, mu_ne M 0 v (show (25 : Nat) ≠ 39 by decide), mu_ne M 0 v (show (28 : Nat) ≠ 39 by decide), mu_ne M 0 v (show (29 : Nat) ≠ 39 by decide), mu_ne M 0 v (show (35 : Nat) ≠ 39 by decide)]) hP) hS1)
theorem gX5_82 (C : Cx p s m args c cc RX5 Z b) (hW : Wd Z b M H) (hdg : decode cc pc = .ok (.getfield 82, 3)) (kk : W p l e R s m args below meth c H locs cells slots Q (F0 m (pc + 3) ls (.int (M 25 0) :: rest))) : W p l e R s m args below meth c H locs cells slots Q (F0 m pc ls (.ref (b + 156) :: rest)) :=
  va_get (D := Z.1) (ci := 5) (fs := [.ref (b + 157), .ref (b + 158), .ref (b + 159), .ref (b + 160), .ref (b + 161), .int (M 25 0), .ref (b + 162), .ref (b + 163), .int (M 28 0), .int (M 29 0), .ref (b + 164), .ref (b + 165), .ref (b + 166), .ref (b + 167), .ref (b + 168), .int (M 35 0), .ref (b + 169), .ref (b + 170), .ref (b + 171), .int (M 39 0)]) (v := .int (M 25 0)) (C := RX5) (T := TX5) (N := 20) C.1 C.2.1 C.2.2.2.1 inaX5 C.2.2.1 C.2.2.2.2.1 hW 156 ((wl_get (Z := Z) (b := b) (M := M) (k := 156) (by decide)).trans (congrArg (fun E => some (b + 156, E)) (en_156 Z b M))) rfl 5 (by decide) (C.2.2.2.1 _ q658) (fun _ h9 => h9) rfl hdg kk
theorem pX5_82 {v : Int32} (C : Cx p s m args c cc RX5 Z b) (hS : va_S (A0 b) s.heap H locs) (hW : Wd Z b M H) (hdg : decode cc pc = .ok (.putfield 82, 3)) (kk : ∀ (H1 : Heap) (locs1 : List Loc), Wd Z b (mu M 25 0 v) H1 → va_S (A0 b) s.heap H1 locs1 → W p l e R s m args below meth c H1 locs1 cells slots Q (F0 m (pc + 3) ls rest)) : W p l e R s m args below meth c H locs cells slots Q (F0 m pc ls (.int v :: .ref (b + 156) :: rest)) :=
  va_put (D := Z.1) (ci := 5) (fs := [.ref (b + 157), .ref (b + 158), .ref (b + 159), .ref (b + 160), .ref (b + 161), .int (M 25 0), .ref (b + 162), .ref (b + 163), .int (M 28 0), .int (M 29 0), .ref (b + 164), .ref (b + 165), .ref (b + 166), .ref (b + 167), .ref (b + 168), .int (M 35 0), .ref (b + 169), .ref (b + 170), .ref (b + 171), .int (M 39 0)]) (v := .int v) (ty := .int) (C := RX5) (T := TX5) (N := 20) C.1 C.2.1 C.2.2.2.1 inaX5 tyX5 tyX5_ok nmX5 C.2.2.1 C.2.2.2.2.1 hW (wl_D Z b M) hS 156 ((wl_get (Z := Z) (b := b) (M := M) (k := 156) (by decide)).trans (congrArg (fun E => some (b + 156, E)) (en_156 Z b M))) rfl 5 (by decide) (C.2.2.2.1 _ q658) (fun _ h9 => h9) rfl (by decide +kernel) (by rfl) (by rfl) (Nat.le_of_ble_eq_true rfl) hdg (fun H1 locs1 hP _ hS1 => kk H1 locs1 (wd_set (k := 156) (E := .inr (5, [.ref (b + 157), .ref (b + 158), .ref (b + 159), .ref (b + 160), .ref (b + 161), .int v, .ref (b + 162), .ref (b + 163), .int (M 28 0), .int (M 29 0), .ref (b + 164), .ref (b + 165), .ref (b + 166), .ref (b + 167), .ref (b + 168), .int (M 35 0), .ref (b + 169), .ref (b + 170), .ref (b + 171), .int (M 39 0)])) (by decide) rfl (by rw [en_156 Z b (mu M 25 0 v)]; rw [mu_self, mu_ne M 0 v (show (28 : Nat) ≠ 25 by decide), mu_ne M 0 v (show (29 : Nat) ≠ 25 by decide), mu_ne M 0 v (show (35 : Nat) ≠ 25 by decide), mu_ne M 0 v (show (39 : Nat) ≠ 25 by decide)]) hP) hS1)
theorem gX5_85 (C : Cx p s m args c cc RX5 Z b) (hW : Wd Z b M H) (hdg : decode cc pc = .ok (.getfield 85, 3)) (kk : W p l e R s m args below meth c H locs cells slots Q (F0 m (pc + 3) ls (.int (M 29 0) :: rest))) : W p l e R s m args below meth c H locs cells slots Q (F0 m pc ls (.ref (b + 156) :: rest)) :=
  va_get (D := Z.1) (ci := 5) (fs := [.ref (b + 157), .ref (b + 158), .ref (b + 159), .ref (b + 160), .ref (b + 161), .int (M 25 0), .ref (b + 162), .ref (b + 163), .int (M 28 0), .int (M 29 0), .ref (b + 164), .ref (b + 165), .ref (b + 166), .ref (b + 167), .ref (b + 168), .int (M 35 0), .ref (b + 169), .ref (b + 170), .ref (b + 171), .int (M 39 0)]) (v := .int (M 29 0)) (C := RX5) (T := TX5) (N := 20) C.1 C.2.1 C.2.2.2.1 inaX5 C.2.2.1 C.2.2.2.2.1 hW 156 ((wl_get (Z := Z) (b := b) (M := M) (k := 156) (by decide)).trans (congrArg (fun E => some (b + 156, E)) (en_156 Z b M))) rfl 9 (by decide) (C.2.2.2.1 _ q662) (fun _ h9 => h9) rfl hdg kk
theorem pX5_85 {v : Int32} (C : Cx p s m args c cc RX5 Z b) (hS : va_S (A0 b) s.heap H locs) (hW : Wd Z b M H) (hdg : decode cc pc = .ok (.putfield 85, 3)) (kk : ∀ (H1 : Heap) (locs1 : List Loc), Wd Z b (mu M 29 0 v) H1 → va_S (A0 b) s.heap H1 locs1 → W p l e R s m args below meth c H1 locs1 cells slots Q (F0 m (pc + 3) ls rest)) : W p l e R s m args below meth c H locs cells slots Q (F0 m pc ls (.int v :: .ref (b + 156) :: rest)) :=
  va_put (D := Z.1) (ci := 5) (fs := [.ref (b + 157), .ref (b + 158), .ref (b + 159), .ref (b + 160), .ref (b + 161), .int (M 25 0), .ref (b + 162), .ref (b + 163), .int (M 28 0), .int (M 29 0), .ref (b + 164), .ref (b + 165), .ref (b + 166), .ref (b + 167), .ref (b + 168), .int (M 35 0), .ref (b + 169), .ref (b + 170), .ref (b + 171), .int (M 39 0)]) (v := .int v) (ty := .int) (C := RX5) (T := TX5) (N := 20) C.1 C.2.1 C.2.2.2.1 inaX5 tyX5 tyX5_ok nmX5 C.2.2.1 C.2.2.2.2.1 hW (wl_D Z b M) hS 156 ((wl_get (Z := Z) (b := b) (M := M) (k := 156) (by decide)).trans (congrArg (fun E => some (b + 156, E)) (en_156 Z b M))) rfl 9 (by decide) (C.2.2.2.1 _ q662) (fun _ h9 => h9) rfl (by decide +kernel) (by rfl) (by rfl) (Nat.le_of_ble_eq_true rfl) hdg (fun H1 locs1 hP _ hS1 => kk H1 locs1 (wd_set (k := 156) (E := .inr (5, [.ref (b + 157), .ref (b + 158), .ref (b + 159), .ref (b + 160), .ref (b + 161), .int (M 25 0), .ref (b + 162), .ref (b + 163), .int (M 28 0), .int v, .ref (b + 164), .ref (b + 165), .ref (b + 166), .ref (b + 167), .ref (b + 168), .int (M 35 0), .ref (b + 169), .ref (b + 170), .ref (b + 171), .int (M 39 0)])) (by decide) rfl (by rw [en_156 Z b (mu M 29 0 v)]; rw [mu_self, mu_ne M 0 v (show (25 : Nat) ≠ 29 by decide), mu_ne M 0 v (show (28 : Nat) ≠ 29 by decide), mu_ne M 0 v (show (35 : Nat) ≠ 29 by decide), mu_ne M 0 v (show (39 : Nat) ≠ 29 by decide)]) hP) hS1)
theorem gX5_88 (C : Cx p s m args c cc RX5 Z b) (hW : Wd Z b M H) (hdg : decode cc pc = .ok (.getfield 88, 3)) (kk : W p l e R s m args below meth c H locs cells slots Q (F0 m (pc + 3) ls (.int (M 28 0) :: rest))) : W p l e R s m args below meth c H locs cells slots Q (F0 m pc ls (.ref (b + 156) :: rest)) :=
  va_get (D := Z.1) (ci := 5) (fs := [.ref (b + 157), .ref (b + 158), .ref (b + 159), .ref (b + 160), .ref (b + 161), .int (M 25 0), .ref (b + 162), .ref (b + 163), .int (M 28 0), .int (M 29 0), .ref (b + 164), .ref (b + 165), .ref (b + 166), .ref (b + 167), .ref (b + 168), .int (M 35 0), .ref (b + 169), .ref (b + 170), .ref (b + 171), .int (M 39 0)]) (v := .int (M 28 0)) (C := RX5) (T := TX5) (N := 20) C.1 C.2.1 C.2.2.2.1 inaX5 C.2.2.1 C.2.2.2.2.1 hW 156 ((wl_get (Z := Z) (b := b) (M := M) (k := 156) (by decide)).trans (congrArg (fun E => some (b + 156, E)) (en_156 Z b M))) rfl 8 (by decide) (C.2.2.2.1 _ q661) (fun _ h9 => h9) rfl hdg kk
theorem pX5_88 {v : Int32} (C : Cx p s m args c cc RX5 Z b) (hS : va_S (A0 b) s.heap H locs) (hW : Wd Z b M H) (hdg : decode cc pc = .ok (.putfield 88, 3)) (kk : ∀ (H1 : Heap) (locs1 : List Loc), Wd Z b (mu M 28 0 v) H1 → va_S (A0 b) s.heap H1 locs1 → W p l e R s m args below meth c H1 locs1 cells slots Q (F0 m (pc + 3) ls rest)) : W p l e R s m args below meth c H locs cells slots Q (F0 m pc ls (.int v :: .ref (b + 156) :: rest)) :=
  va_put (D := Z.1) (ci := 5) (fs := [.ref (b + 157), .ref (b + 158), .ref (b + 159), .ref (b + 160), .ref (b + 161), .int (M 25 0), .ref (b + 162), .ref (b + 163), .int (M 28 0), .int (M 29 0), .ref (b + 164), .ref (b + 165), .ref (b + 166), .ref (b + 167), .ref (b + 168), .int (M 35 0), .ref (b + 169), .ref (b + 170), .ref (b + 171), .int (M 39 0)]) (v := .int v) (ty := .int) (C := RX5) (T := TX5) (N := 20) C.1 C.2.1 C.2.2.2.1 inaX5 tyX5 tyX5_ok nmX5 C.2.2.1 C.2.2.2.2.1 hW (wl_D Z b M) hS 156 ((wl_get (Z := Z) (b := b) (M := M) (k := 156) (by decide)).trans (congrArg (fun E => some (b + 156, E)) (en_156 Z b M))) rfl 8 (by decide) (C.2.2.2.1 _ q661) (fun _ h9 => h9) rfl (by decide +kernel) (by rfl) (by rfl) (Nat.le_of_ble_eq_true rfl) hdg (fun H1 locs1 hP _ hS1 => kk H1 locs1 (wd_set (k := 156) (E := .inr (5, [.ref (b + 157), .ref (b + 158), .ref (b + 159), .ref (b + 160), .ref (b + 161), .int (M 25 0), .ref (b + 162), .ref (b + 163), .int v, .int (M 29 0), .ref (b + 164), .ref (b + 165), .ref (b + 166), .ref (b + 167), .ref (b + 168), .int (M 35 0), .ref (b + 169), .ref (b + 170), .ref (b + 171), .int (M 39 0)])) (by decide) rfl (by rw [en_156 Z b (mu M 28 0 v)]; rw [mu_self, mu_ne M 0 v (show (25 : Nat) ≠ 28 by decide), mu_ne M 0 v (show (29 : Nat) ≠ 28 by decide), mu_ne M 0 v (show (35 : Nat) ≠ 28 by decide), mu_ne M 0 v (show (39 : Nat) ≠ 28 by decide)]) hP) hS1)
theorem gX5_127 (C : Cx p s m args c cc RX5 Z b) (hW : Wd Z b M H) (hdg : decode cc pc = .ok (.getfield 127, 3)) (kk : W p l e R s m args below meth c H locs cells slots Q (F0 m (pc + 3) ls (.int (M 35 0) :: rest))) : W p l e R s m args below meth c H locs cells slots Q (F0 m pc ls (.ref (b + 156) :: rest)) :=
  va_get (D := Z.1) (ci := 5) (fs := [.ref (b + 157), .ref (b + 158), .ref (b + 159), .ref (b + 160), .ref (b + 161), .int (M 25 0), .ref (b + 162), .ref (b + 163), .int (M 28 0), .int (M 29 0), .ref (b + 164), .ref (b + 165), .ref (b + 166), .ref (b + 167), .ref (b + 168), .int (M 35 0), .ref (b + 169), .ref (b + 170), .ref (b + 171), .int (M 39 0)]) (v := .int (M 35 0)) (C := RX5) (T := TX5) (N := 20) C.1 C.2.1 C.2.2.2.1 inaX5 C.2.2.1 C.2.2.2.2.1 hW 156 ((wl_get (Z := Z) (b := b) (M := M) (k := 156) (by decide)).trans (congrArg (fun E => some (b + 156, E)) (en_156 Z b M))) rfl 15 (by decide) (C.2.2.2.1 _ q668) (fun _ h9 => h9) rfl hdg kk
theorem pX5_127 {v : Int32} (C : Cx p s m args c cc RX5 Z b) (hS : va_S (A0 b) s.heap H locs) (hW : Wd Z b M H) (hdg : decode cc pc = .ok (.putfield 127, 3)) (kk : ∀ (H1 : Heap) (locs1 : List Loc), Wd Z b (mu M 35 0 v) H1 → va_S (A0 b) s.heap H1 locs1 → W p l e R s m args below meth c H1 locs1 cells slots Q (F0 m (pc + 3) ls rest)) : W p l e R s m args below meth c H locs cells slots Q (F0 m pc ls (.int v :: .ref (b + 156) :: rest)) :=
  va_put (D := Z.1) (ci := 5) (fs := [.ref (b + 157), .ref (b + 158), .ref (b + 159), .ref (b + 160), .ref (b + 161), .int (M 25 0), .ref (b + 162), .ref (b + 163), .int (M 28 0), .int (M 29 0), .ref (b + 164), .ref (b + 165), .ref (b + 166), .ref (b + 167), .ref (b + 168), .int (M 35 0), .ref (b + 169), .ref (b + 170), .ref (b + 171), .int (M 39 0)]) (v := .int v) (ty := .int) (C := RX5) (T := TX5) (N := 20) C.1 C.2.1 C.2.2.2.1 inaX5 tyX5 tyX5_ok nmX5 C.2.2.1 C.2.2.2.2.1 hW (wl_D Z b M) hS 156 ((wl_get (Z := Z) (b := b) (M := M) (k := 156) (by decide)).trans (congrArg (fun E => some (b + 156, E)) (en_156 Z b M))) rfl 15 (by decide) (C.2.2.2.1 _ q668) (fun _ h9 => h9) rfl (by decide +kernel) (by rfl) (by rfl) (Nat.le_of_ble_eq_true rfl) hdg (fun H1 locs1 hP _ hS1 => kk H1 locs1 (wd_set (k := 156) (E := .inr (5, [.ref (b + 157), .ref (b + 158), .ref (b + 159), .ref (b + 160), .ref (b + 161), .int (M 25 0), .ref (b + 162), .ref (b + 163), .int (M 28 0), .int (M 29 0), .ref (b + 164), .ref (b + 165), .ref (b + 166), .ref (b + 167), .ref (b + 168), .int v, .ref (b + 169), .ref (b + 170), .ref (b + 171), .int (M 39 0)])) (by decide) rfl (by rw [en_156 Z b (mu M 35 0 v)]; rw [mu_self, mu_ne M 0 v (show (25 : Nat) ≠ 35 by decide), mu_ne M 0 v (show (28 : Nat) ≠ 35 by decide), mu_ne M 0 v (show (29 : Nat) ≠ 35 by decide), mu_ne M 0 v (show (39 : Nat) ≠ 35 by decide)]) hP) hS1)
theorem ald_155 {i : Int32} (C : Cx p s m args c cc own Z b) (hW : Wd Z b M H) (hi : vp_in i 60) (hdg : decode cc pc = .ok (.iaload, 1)) (kk : W p l e R s m args below meth c H locs cells slots Q (F0 m (pc + 1) ls (.int (M 1 i.toNatClampNeg) :: rest))) : W p l e R s m args below meth c H locs cells slots Q (F0 m pc ls (.int i :: .ref (b + 155) :: rest)) :=
  va_iald (cl := vwCl) C.1 C.2.1 C.2.2.2.2.1 hW 155 0 ((wl_get (Z := Z) (b := b) (M := M) (k := 155) (by decide)).trans (congrArg (fun E => some (b + 155, E)) (en_155 Z b M))) rfl hi hdg kk
theorem ast_155 {i v : Int32} (C : Cx p s m args c cc own Z b) (hS : va_S (A0 b) s.heap H locs) (hW : Wd Z b M H) (hi : vp_in i 60) (hdg : decode cc pc = .ok (.iastore, 1)) (kk : ∀ (H1 : Heap) (locs1 : List Loc), Wd Z b (mu M 1 i.toNatClampNeg v) H1 → va_S (A0 b) s.heap H1 locs1 → W p l e R s m args below meth c H1 locs1 cells slots Q (F0 m (pc + 1) ls rest)) : W p l e R s m args below meth c H locs cells slots Q (F0 m pc ls (.int v :: .int i :: .ref (b + 155) :: rest)) :=
  va_iast (cl := vwCl) C.1 C.2.1 C.2.2.2.2.1 hW (wl_D Z b M) hS 155 0 ((wl_get (Z := Z) (b := b) (M := M) (k := 155) (by decide)).trans (congrArg (fun E => some (b + 155, E)) (en_155 Z b M))) rfl hi hdg (fun H1 locs1 hP _ hS1 => kk H1 locs1 (wd_set (k := 155) (by decide) rfl (by rw [en_155, mu_fn]; rfl) hP) hS1)
theorem ald_157 {i : Int32} (C : Cx p s m args c cc own Z b) (hW : Wd Z b M H) (hi : vp_in i 60) (hdg : decode cc pc = .ok (.baload, 1)) (kk : W p l e R s m args below meth c H locs cells slots Q (F0 m (pc + 1) ls (.int (M 20 i.toNatClampNeg) :: rest))) : W p l e R s m args below meth c H locs cells slots Q (F0 m pc ls (.int i :: .ref (b + 157) :: rest)) :=
  va_zald (cl := vwCl) C.1 C.2.1 C.2.2.2.2.1 hW 157 1 ((wl_get (Z := Z) (b := b) (M := M) (k := 157) (by decide)).trans (congrArg (fun E => some (b + 157, E)) (en_157 Z b M))) rfl hi hdg kk
theorem ast_157 {i v : Int32} (C : Cx p s m args c cc own Z b) (hS : va_S (A0 b) s.heap H locs) (hW : Wd Z b M H) (hi : vp_in i 60) (hdg : decode cc pc = .ok (.bastore, 1)) (kk : ∀ (H1 : Heap) (locs1 : List Loc), Wd Z b (mu M 20 i.toNatClampNeg (v &&& 1)) H1 → va_S (A0 b) s.heap H1 locs1 → W p l e R s m args below meth c H1 locs1 cells slots Q (F0 m (pc + 1) ls rest)) : W p l e R s m args below meth c H locs cells slots Q (F0 m pc ls (.int v :: .int i :: .ref (b + 157) :: rest)) :=
  va_zast (cl := vwCl) C.1 C.2.1 C.2.2.2.2.1 hW (wl_D Z b M) hS 157 1 ((wl_get (Z := Z) (b := b) (M := M) (k := 157) (by decide)).trans (congrArg (fun E => some (b + 157, E)) (en_157 Z b M))) rfl hi hdg (fun H1 locs1 hP _ hS1 => kk H1 locs1 (wd_set (k := 157) (by decide) rfl (by rw [en_157, mu_fn]; rfl) hP) hS1)
theorem ald_158 {i : Int32} (C : Cx p s m args c cc own Z b) (hW : Wd Z b M H) (hi : vp_in i 60) (hdg : decode cc pc = .ok (.iaload, 1)) (kk : W p l e R s m args below meth c H locs cells slots Q (F0 m (pc + 1) ls (.int (M 21 i.toNatClampNeg) :: rest))) : W p l e R s m args below meth c H locs cells slots Q (F0 m pc ls (.int i :: .ref (b + 158) :: rest)) :=
  va_iald (cl := vwCl) C.1 C.2.1 C.2.2.2.2.1 hW 158 0 ((wl_get (Z := Z) (b := b) (M := M) (k := 158) (by decide)).trans (congrArg (fun E => some (b + 158, E)) (en_158 Z b M))) rfl hi hdg kk
theorem ast_158 {i v : Int32} (C : Cx p s m args c cc own Z b) (hS : va_S (A0 b) s.heap H locs) (hW : Wd Z b M H) (hi : vp_in i 60) (hdg : decode cc pc = .ok (.iastore, 1)) (kk : ∀ (H1 : Heap) (locs1 : List Loc), Wd Z b (mu M 21 i.toNatClampNeg v) H1 → va_S (A0 b) s.heap H1 locs1 → W p l e R s m args below meth c H1 locs1 cells slots Q (F0 m (pc + 1) ls rest)) : W p l e R s m args below meth c H locs cells slots Q (F0 m pc ls (.int v :: .int i :: .ref (b + 158) :: rest)) :=
  va_iast (cl := vwCl) C.1 C.2.1 C.2.2.2.2.1 hW (wl_D Z b M) hS 158 0 ((wl_get (Z := Z) (b := b) (M := M) (k := 158) (by decide)).trans (congrArg (fun E => some (b + 158, E)) (en_158 Z b M))) rfl hi hdg (fun H1 locs1 hP _ hS1 => kk H1 locs1 (wd_set (k := 158) (by decide) rfl (by rw [en_158, mu_fn]; rfl) hP) hS1)
theorem ald_159 {i : Int32} (C : Cx p s m args c cc own Z b) (hW : Wd Z b M H) (hi : vp_in i 60) (hdg : decode cc pc = .ok (.iaload, 1)) (kk : W p l e R s m args below meth c H locs cells slots Q (F0 m (pc + 1) ls (.int (M 22 i.toNatClampNeg) :: rest))) : W p l e R s m args below meth c H locs cells slots Q (F0 m pc ls (.int i :: .ref (b + 159) :: rest)) :=
  va_iald (cl := vwCl) C.1 C.2.1 C.2.2.2.2.1 hW 159 0 ((wl_get (Z := Z) (b := b) (M := M) (k := 159) (by decide)).trans (congrArg (fun E => some (b + 159, E)) (en_159 Z b M))) rfl hi hdg kk
theorem ast_159 {i v : Int32} (C : Cx p s m args c cc own Z b) (hS : va_S (A0 b) s.heap H locs) (hW : Wd Z b M H) (hi : vp_in i 60) (hdg : decode cc pc = .ok (.iastore, 1)) (kk : ∀ (H1 : Heap) (locs1 : List Loc), Wd Z b (mu M 22 i.toNatClampNeg v) H1 → va_S (A0 b) s.heap H1 locs1 → W p l e R s m args below meth c H1 locs1 cells slots Q (F0 m (pc + 1) ls rest)) : W p l e R s m args below meth c H locs cells slots Q (F0 m pc ls (.int v :: .int i :: .ref (b + 159) :: rest)) :=
  va_iast (cl := vwCl) C.1 C.2.1 C.2.2.2.2.1 hW (wl_D Z b M) hS 159 0 ((wl_get (Z := Z) (b := b) (M := M) (k := 159) (by decide)).trans (congrArg (fun E => some (b + 159, E)) (en_159 Z b M))) rfl hi hdg (fun H1 locs1 hP _ hS1 => kk H1 locs1 (wd_set (k := 159) (by decide) rfl (by rw [en_159, mu_fn]; rfl) hP) hS1)
theorem ald_160 {i : Int32} (C : Cx p s m args c cc own Z b) (hW : Wd Z b M H) (hi : vp_in i 60) (hdg : decode cc pc = .ok (.iaload, 1)) (kk : W p l e R s m args below meth c H locs cells slots Q (F0 m (pc + 1) ls (.int (M 23 i.toNatClampNeg) :: rest))) : W p l e R s m args below meth c H locs cells slots Q (F0 m pc ls (.int i :: .ref (b + 160) :: rest)) :=
  va_iald (cl := vwCl) C.1 C.2.1 C.2.2.2.2.1 hW 160 0 ((wl_get (Z := Z) (b := b) (M := M) (k := 160) (by decide)).trans (congrArg (fun E => some (b + 160, E)) (en_160 Z b M))) rfl hi hdg kk
theorem ast_160 {i v : Int32} (C : Cx p s m args c cc own Z b) (hS : va_S (A0 b) s.heap H locs) (hW : Wd Z b M H) (hi : vp_in i 60) (hdg : decode cc pc = .ok (.iastore, 1)) (kk : ∀ (H1 : Heap) (locs1 : List Loc), Wd Z b (mu M 23 i.toNatClampNeg v) H1 → va_S (A0 b) s.heap H1 locs1 → W p l e R s m args below meth c H1 locs1 cells slots Q (F0 m (pc + 1) ls rest)) : W p l e R s m args below meth c H locs cells slots Q (F0 m pc ls (.int v :: .int i :: .ref (b + 160) :: rest)) :=
  va_iast (cl := vwCl) C.1 C.2.1 C.2.2.2.2.1 hW (wl_D Z b M) hS 160 0 ((wl_get (Z := Z) (b := b) (M := M) (k := 160) (by decide)).trans (congrArg (fun E => some (b + 160, E)) (en_160 Z b M))) rfl hi hdg (fun H1 locs1 hP _ hS1 => kk H1 locs1 (wd_set (k := 160) (by decide) rfl (by rw [en_160, mu_fn]; rfl) hP) hS1)
theorem ald_161 {i : Int32} (C : Cx p s m args c cc own Z b) (hW : Wd Z b M H) (hi : vp_in i 60) (hdg : decode cc pc = .ok (.iaload, 1)) (kk : W p l e R s m args below meth c H locs cells slots Q (F0 m (pc + 1) ls (.int (M 24 i.toNatClampNeg) :: rest))) : W p l e R s m args below meth c H locs cells slots Q (F0 m pc ls (.int i :: .ref (b + 161) :: rest)) :=
  va_iald (cl := vwCl) C.1 C.2.1 C.2.2.2.2.1 hW 161 0 ((wl_get (Z := Z) (b := b) (M := M) (k := 161) (by decide)).trans (congrArg (fun E => some (b + 161, E)) (en_161 Z b M))) rfl hi hdg kk
theorem ast_161 {i v : Int32} (C : Cx p s m args c cc own Z b) (hS : va_S (A0 b) s.heap H locs) (hW : Wd Z b M H) (hi : vp_in i 60) (hdg : decode cc pc = .ok (.iastore, 1)) (kk : ∀ (H1 : Heap) (locs1 : List Loc), Wd Z b (mu M 24 i.toNatClampNeg v) H1 → va_S (A0 b) s.heap H1 locs1 → W p l e R s m args below meth c H1 locs1 cells slots Q (F0 m (pc + 1) ls rest)) : W p l e R s m args below meth c H locs cells slots Q (F0 m pc ls (.int v :: .int i :: .ref (b + 161) :: rest)) :=
  va_iast (cl := vwCl) C.1 C.2.1 C.2.2.2.2.1 hW (wl_D Z b M) hS 161 0 ((wl_get (Z := Z) (b := b) (M := M) (k := 161) (by decide)).trans (congrArg (fun E => some (b + 161, E)) (en_161 Z b M))) rfl hi hdg (fun H1 locs1 hP _ hS1 => kk H1 locs1 (wd_set (k := 161) (by decide) rfl (by rw [en_161, mu_fn]; rfl) hP) hS1)
theorem ald_162 {i : Int32} (C : Cx p s m args c cc own Z b) (hW : Wd Z b M H) (hi : vp_in i 60) (hdg : decode cc pc = .ok (.iaload, 1)) (kk : W p l e R s m args below meth c H locs cells slots Q (F0 m (pc + 1) ls (.int (M 26 i.toNatClampNeg) :: rest))) : W p l e R s m args below meth c H locs cells slots Q (F0 m pc ls (.int i :: .ref (b + 162) :: rest)) :=
  va_iald (cl := vwCl) C.1 C.2.1 C.2.2.2.2.1 hW 162 0 ((wl_get (Z := Z) (b := b) (M := M) (k := 162) (by decide)).trans (congrArg (fun E => some (b + 162, E)) (en_162 Z b M))) rfl hi hdg kk
theorem ast_162 {i v : Int32} (C : Cx p s m args c cc own Z b) (hS : va_S (A0 b) s.heap H locs) (hW : Wd Z b M H) (hi : vp_in i 60) (hdg : decode cc pc = .ok (.iastore, 1)) (kk : ∀ (H1 : Heap) (locs1 : List Loc), Wd Z b (mu M 26 i.toNatClampNeg v) H1 → va_S (A0 b) s.heap H1 locs1 → W p l e R s m args below meth c H1 locs1 cells slots Q (F0 m (pc + 1) ls rest)) : W p l e R s m args below meth c H locs cells slots Q (F0 m pc ls (.int v :: .int i :: .ref (b + 162) :: rest)) :=
  va_iast (cl := vwCl) C.1 C.2.1 C.2.2.2.2.1 hW (wl_D Z b M) hS 162 0 ((wl_get (Z := Z) (b := b) (M := M) (k := 162) (by decide)).trans (congrArg (fun E => some (b + 162, E)) (en_162 Z b M))) rfl hi hdg (fun H1 locs1 hP _ hS1 => kk H1 locs1 (wd_set (k := 162) (by decide) rfl (by rw [en_162, mu_fn]; rfl) hP) hS1)
theorem ald_163 {i : Int32} (C : Cx p s m args c cc own Z b) (hW : Wd Z b M H) (hi : vp_in i 600) (hdg : decode cc pc = .ok (.iaload, 1)) (kk : W p l e R s m args below meth c H locs cells slots Q (F0 m (pc + 1) ls (.int (M 27 i.toNatClampNeg) :: rest))) : W p l e R s m args below meth c H locs cells slots Q (F0 m pc ls (.int i :: .ref (b + 163) :: rest)) :=
  va_iald (cl := vwCl) C.1 C.2.1 C.2.2.2.2.1 hW 163 0 ((wl_get (Z := Z) (b := b) (M := M) (k := 163) (by decide)).trans (congrArg (fun E => some (b + 163, E)) (en_163 Z b M))) rfl hi hdg kk
theorem ast_163 {i v : Int32} (C : Cx p s m args c cc own Z b) (hS : va_S (A0 b) s.heap H locs) (hW : Wd Z b M H) (hi : vp_in i 600) (hdg : decode cc pc = .ok (.iastore, 1)) (kk : ∀ (H1 : Heap) (locs1 : List Loc), Wd Z b (mu M 27 i.toNatClampNeg v) H1 → va_S (A0 b) s.heap H1 locs1 → W p l e R s m args below meth c H1 locs1 cells slots Q (F0 m (pc + 1) ls rest)) : W p l e R s m args below meth c H locs cells slots Q (F0 m pc ls (.int v :: .int i :: .ref (b + 163) :: rest)) :=
  va_iast (cl := vwCl) C.1 C.2.1 C.2.2.2.2.1 hW (wl_D Z b M) hS 163 0 ((wl_get (Z := Z) (b := b) (M := M) (k := 163) (by decide)).trans (congrArg (fun E => some (b + 163, E)) (en_163 Z b M))) rfl hi hdg (fun H1 locs1 hP _ hS1 => kk H1 locs1 (wd_set (k := 163) (by decide) rfl (by rw [en_163, mu_fn]; rfl) hP) hS1)
theorem ald_164 {i : Int32} (C : Cx p s m args c cc own Z b) (hW : Wd Z b M H) (hi : vp_in i 30) (hdg : decode cc pc = .ok (.iaload, 1)) (kk : W p l e R s m args below meth c H locs cells slots Q (F0 m (pc + 1) ls (.int (M 30 i.toNatClampNeg) :: rest))) : W p l e R s m args below meth c H locs cells slots Q (F0 m pc ls (.int i :: .ref (b + 164) :: rest)) :=
  va_iald (cl := vwCl) C.1 C.2.1 C.2.2.2.2.1 hW 164 0 ((wl_get (Z := Z) (b := b) (M := M) (k := 164) (by decide)).trans (congrArg (fun E => some (b + 164, E)) (en_164 Z b M))) rfl hi hdg kk
theorem ast_164 {i v : Int32} (C : Cx p s m args c cc own Z b) (hS : va_S (A0 b) s.heap H locs) (hW : Wd Z b M H) (hi : vp_in i 30) (hdg : decode cc pc = .ok (.iastore, 1)) (kk : ∀ (H1 : Heap) (locs1 : List Loc), Wd Z b (mu M 30 i.toNatClampNeg v) H1 → va_S (A0 b) s.heap H1 locs1 → W p l e R s m args below meth c H1 locs1 cells slots Q (F0 m (pc + 1) ls rest)) : W p l e R s m args below meth c H locs cells slots Q (F0 m pc ls (.int v :: .int i :: .ref (b + 164) :: rest)) :=
  va_iast (cl := vwCl) C.1 C.2.1 C.2.2.2.2.1 hW (wl_D Z b M) hS 164 0 ((wl_get (Z := Z) (b := b) (M := M) (k := 164) (by decide)).trans (congrArg (fun E => some (b + 164, E)) (en_164 Z b M))) rfl hi hdg (fun H1 locs1 hP _ hS1 => kk H1 locs1 (wd_set (k := 164) (by decide) rfl (by rw [en_164, mu_fn]; rfl) hP) hS1)
theorem ald_165 {i : Int32} (C : Cx p s m args c cc own Z b) (hW : Wd Z b M H) (hi : vp_in i 30) (hdg : decode cc pc = .ok (.iaload, 1)) (kk : W p l e R s m args below meth c H locs cells slots Q (F0 m (pc + 1) ls (.int (M 31 i.toNatClampNeg) :: rest))) : W p l e R s m args below meth c H locs cells slots Q (F0 m pc ls (.int i :: .ref (b + 165) :: rest)) :=
  va_iald (cl := vwCl) C.1 C.2.1 C.2.2.2.2.1 hW 165 0 ((wl_get (Z := Z) (b := b) (M := M) (k := 165) (by decide)).trans (congrArg (fun E => some (b + 165, E)) (en_165 Z b M))) rfl hi hdg kk
theorem ast_165 {i v : Int32} (C : Cx p s m args c cc own Z b) (hS : va_S (A0 b) s.heap H locs) (hW : Wd Z b M H) (hi : vp_in i 30) (hdg : decode cc pc = .ok (.iastore, 1)) (kk : ∀ (H1 : Heap) (locs1 : List Loc), Wd Z b (mu M 31 i.toNatClampNeg v) H1 → va_S (A0 b) s.heap H1 locs1 → W p l e R s m args below meth c H1 locs1 cells slots Q (F0 m (pc + 1) ls rest)) : W p l e R s m args below meth c H locs cells slots Q (F0 m pc ls (.int v :: .int i :: .ref (b + 165) :: rest)) :=
  va_iast (cl := vwCl) C.1 C.2.1 C.2.2.2.2.1 hW (wl_D Z b M) hS 165 0 ((wl_get (Z := Z) (b := b) (M := M) (k := 165) (by decide)).trans (congrArg (fun E => some (b + 165, E)) (en_165 Z b M))) rfl hi hdg (fun H1 locs1 hP _ hS1 => kk H1 locs1 (wd_set (k := 165) (by decide) rfl (by rw [en_165, mu_fn]; rfl) hP) hS1)
theorem ald_166 {i : Int32} (C : Cx p s m args c cc own Z b) (hW : Wd Z b M H) (hi : vp_in i 30) (hdg : decode cc pc = .ok (.baload, 1)) (kk : W p l e R s m args below meth c H locs cells slots Q (F0 m (pc + 1) ls (.int (M 32 i.toNatClampNeg) :: rest))) : W p l e R s m args below meth c H locs cells slots Q (F0 m pc ls (.int i :: .ref (b + 166) :: rest)) :=
  va_zald (cl := vwCl) C.1 C.2.1 C.2.2.2.2.1 hW 166 1 ((wl_get (Z := Z) (b := b) (M := M) (k := 166) (by decide)).trans (congrArg (fun E => some (b + 166, E)) (en_166 Z b M))) rfl hi hdg kk
theorem ast_166 {i v : Int32} (C : Cx p s m args c cc own Z b) (hS : va_S (A0 b) s.heap H locs) (hW : Wd Z b M H) (hi : vp_in i 30) (hdg : decode cc pc = .ok (.bastore, 1)) (kk : ∀ (H1 : Heap) (locs1 : List Loc), Wd Z b (mu M 32 i.toNatClampNeg (v &&& 1)) H1 → va_S (A0 b) s.heap H1 locs1 → W p l e R s m args below meth c H1 locs1 cells slots Q (F0 m (pc + 1) ls rest)) : W p l e R s m args below meth c H locs cells slots Q (F0 m pc ls (.int v :: .int i :: .ref (b + 166) :: rest)) :=
  va_zast (cl := vwCl) C.1 C.2.1 C.2.2.2.2.1 hW (wl_D Z b M) hS 166 1 ((wl_get (Z := Z) (b := b) (M := M) (k := 166) (by decide)).trans (congrArg (fun E => some (b + 166, E)) (en_166 Z b M))) rfl hi hdg (fun H1 locs1 hP _ hS1 => kk H1 locs1 (wd_set (k := 166) (by decide) rfl (by rw [en_166, mu_fn]; rfl) hP) hS1)
theorem ald_167 {i : Int32} (C : Cx p s m args c cc own Z b) (hW : Wd Z b M H) (hi : vp_in i 30) (hdg : decode cc pc = .ok (.baload, 1)) (kk : W p l e R s m args below meth c H locs cells slots Q (F0 m (pc + 1) ls (.int (M 33 i.toNatClampNeg) :: rest))) : W p l e R s m args below meth c H locs cells slots Q (F0 m pc ls (.int i :: .ref (b + 167) :: rest)) :=
  va_zald (cl := vwCl) C.1 C.2.1 C.2.2.2.2.1 hW 167 1 ((wl_get (Z := Z) (b := b) (M := M) (k := 167) (by decide)).trans (congrArg (fun E => some (b + 167, E)) (en_167 Z b M))) rfl hi hdg kk
theorem ast_167 {i v : Int32} (C : Cx p s m args c cc own Z b) (hS : va_S (A0 b) s.heap H locs) (hW : Wd Z b M H) (hi : vp_in i 30) (hdg : decode cc pc = .ok (.bastore, 1)) (kk : ∀ (H1 : Heap) (locs1 : List Loc), Wd Z b (mu M 33 i.toNatClampNeg (v &&& 1)) H1 → va_S (A0 b) s.heap H1 locs1 → W p l e R s m args below meth c H1 locs1 cells slots Q (F0 m (pc + 1) ls rest)) : W p l e R s m args below meth c H locs cells slots Q (F0 m pc ls (.int v :: .int i :: .ref (b + 167) :: rest)) :=
  va_zast (cl := vwCl) C.1 C.2.1 C.2.2.2.2.1 hW (wl_D Z b M) hS 167 1 ((wl_get (Z := Z) (b := b) (M := M) (k := 167) (by decide)).trans (congrArg (fun E => some (b + 167, E)) (en_167 Z b M))) rfl hi hdg (fun H1 locs1 hP _ hS1 => kk H1 locs1 (wd_set (k := 167) (by decide) rfl (by rw [en_167, mu_fn]; rfl) hP) hS1)
theorem ald_168 {i : Int32} (C : Cx p s m args c cc own Z b) (hW : Wd Z b M H) (hi : vp_in i 30) (hdg : decode cc pc = .ok (.iaload, 1)) (kk : W p l e R s m args below meth c H locs cells slots Q (F0 m (pc + 1) ls (.int (M 34 i.toNatClampNeg) :: rest))) : W p l e R s m args below meth c H locs cells slots Q (F0 m pc ls (.int i :: .ref (b + 168) :: rest)) :=
  va_iald (cl := vwCl) C.1 C.2.1 C.2.2.2.2.1 hW 168 0 ((wl_get (Z := Z) (b := b) (M := M) (k := 168) (by decide)).trans (congrArg (fun E => some (b + 168, E)) (en_168 Z b M))) rfl hi hdg kk
theorem ast_168 {i v : Int32} (C : Cx p s m args c cc own Z b) (hS : va_S (A0 b) s.heap H locs) (hW : Wd Z b M H) (hi : vp_in i 30) (hdg : decode cc pc = .ok (.iastore, 1)) (kk : ∀ (H1 : Heap) (locs1 : List Loc), Wd Z b (mu M 34 i.toNatClampNeg v) H1 → va_S (A0 b) s.heap H1 locs1 → W p l e R s m args below meth c H1 locs1 cells slots Q (F0 m (pc + 1) ls rest)) : W p l e R s m args below meth c H locs cells slots Q (F0 m pc ls (.int v :: .int i :: .ref (b + 168) :: rest)) :=
  va_iast (cl := vwCl) C.1 C.2.1 C.2.2.2.2.1 hW (wl_D Z b M) hS 168 0 ((wl_get (Z := Z) (b := b) (M := M) (k := 168) (by decide)).trans (congrArg (fun E => some (b + 168, E)) (en_168 Z b M))) rfl hi hdg (fun H1 locs1 hP _ hS1 => kk H1 locs1 (wd_set (k := 168) (by decide) rfl (by rw [en_168, mu_fn]; rfl) hP) hS1)
theorem ald_169 {i : Int32} (C : Cx p s m args c cc own Z b) (hW : Wd Z b M H) (hi : vp_in i 60) (hdg : decode cc pc = .ok (.iaload, 1)) (kk : W p l e R s m args below meth c H locs cells slots Q (F0 m (pc + 1) ls (.int (M 36 i.toNatClampNeg) :: rest))) : W p l e R s m args below meth c H locs cells slots Q (F0 m pc ls (.int i :: .ref (b + 169) :: rest)) :=
  va_iald (cl := vwCl) C.1 C.2.1 C.2.2.2.2.1 hW 169 0 ((wl_get (Z := Z) (b := b) (M := M) (k := 169) (by decide)).trans (congrArg (fun E => some (b + 169, E)) (en_169 Z b M))) rfl hi hdg kk
theorem ast_169 {i v : Int32} (C : Cx p s m args c cc own Z b) (hS : va_S (A0 b) s.heap H locs) (hW : Wd Z b M H) (hi : vp_in i 60) (hdg : decode cc pc = .ok (.iastore, 1)) (kk : ∀ (H1 : Heap) (locs1 : List Loc), Wd Z b (mu M 36 i.toNatClampNeg v) H1 → va_S (A0 b) s.heap H1 locs1 → W p l e R s m args below meth c H1 locs1 cells slots Q (F0 m (pc + 1) ls rest)) : W p l e R s m args below meth c H locs cells slots Q (F0 m pc ls (.int v :: .int i :: .ref (b + 169) :: rest)) :=
  va_iast (cl := vwCl) C.1 C.2.1 C.2.2.2.2.1 hW (wl_D Z b M) hS 169 0 ((wl_get (Z := Z) (b := b) (M := M) (k := 169) (by decide)).trans (congrArg (fun E => some (b + 169, E)) (en_169 Z b M))) rfl hi hdg (fun H1 locs1 hP _ hS1 => kk H1 locs1 (wd_set (k := 169) (by decide) rfl (by rw [en_169, mu_fn]; rfl) hP) hS1)
theorem ald_170 {i : Int32} (C : Cx p s m args c cc own Z b) (hW : Wd Z b M H) (hi : vp_in i 60) (hdg : decode cc pc = .ok (.baload, 1)) (kk : W p l e R s m args below meth c H locs cells slots Q (F0 m (pc + 1) ls (.int (M 37 i.toNatClampNeg) :: rest))) : W p l e R s m args below meth c H locs cells slots Q (F0 m pc ls (.int i :: .ref (b + 170) :: rest)) :=
  va_zald (cl := vwCl) C.1 C.2.1 C.2.2.2.2.1 hW 170 1 ((wl_get (Z := Z) (b := b) (M := M) (k := 170) (by decide)).trans (congrArg (fun E => some (b + 170, E)) (en_170 Z b M))) rfl hi hdg kk
theorem ast_170 {i v : Int32} (C : Cx p s m args c cc own Z b) (hS : va_S (A0 b) s.heap H locs) (hW : Wd Z b M H) (hi : vp_in i 60) (hdg : decode cc pc = .ok (.bastore, 1)) (kk : ∀ (H1 : Heap) (locs1 : List Loc), Wd Z b (mu M 37 i.toNatClampNeg (v &&& 1)) H1 → va_S (A0 b) s.heap H1 locs1 → W p l e R s m args below meth c H1 locs1 cells slots Q (F0 m (pc + 1) ls rest)) : W p l e R s m args below meth c H locs cells slots Q (F0 m pc ls (.int v :: .int i :: .ref (b + 170) :: rest)) :=
  va_zast (cl := vwCl) C.1 C.2.1 C.2.2.2.2.1 hW (wl_D Z b M) hS 170 1 ((wl_get (Z := Z) (b := b) (M := M) (k := 170) (by decide)).trans (congrArg (fun E => some (b + 170, E)) (en_170 Z b M))) rfl hi hdg (fun H1 locs1 hP _ hS1 => kk H1 locs1 (wd_set (k := 170) (by decide) rfl (by rw [en_170, mu_fn]; rfl) hP) hS1)
theorem ald_171 {i : Int32} (C : Cx p s m args c cc own Z b) (hW : Wd Z b M H) (hi : vp_in i 60) (hdg : decode cc pc = .ok (.baload, 1)) (kk : W p l e R s m args below meth c H locs cells slots Q (F0 m (pc + 1) ls (.int (M 38 i.toNatClampNeg) :: rest))) : W p l e R s m args below meth c H locs cells slots Q (F0 m pc ls (.int i :: .ref (b + 171) :: rest)) :=
  va_zald (cl := vwCl) C.1 C.2.1 C.2.2.2.2.1 hW 171 1 ((wl_get (Z := Z) (b := b) (M := M) (k := 171) (by decide)).trans (congrArg (fun E => some (b + 171, E)) (en_171 Z b M))) rfl hi hdg kk
theorem ast_171 {i v : Int32} (C : Cx p s m args c cc own Z b) (hS : va_S (A0 b) s.heap H locs) (hW : Wd Z b M H) (hi : vp_in i 60) (hdg : decode cc pc = .ok (.bastore, 1)) (kk : ∀ (H1 : Heap) (locs1 : List Loc), Wd Z b (mu M 38 i.toNatClampNeg (v &&& 1)) H1 → va_S (A0 b) s.heap H1 locs1 → W p l e R s m args below meth c H1 locs1 cells slots Q (F0 m (pc + 1) ls rest)) : W p l e R s m args below meth c H locs cells slots Q (F0 m pc ls (.int v :: .int i :: .ref (b + 171) :: rest)) :=
  va_zast (cl := vwCl) C.1 C.2.1 C.2.2.2.2.1 hW (wl_D Z b M) hS 171 1 ((wl_get (Z := Z) (b := b) (M := M) (k := 171) (by decide)).trans (congrArg (fun E => some (b + 171, E)) (en_171 Z b M))) rfl hi hdg (fun H1 locs1 hP _ hS1 => kk H1 locs1 (wd_set (k := 171) (by decide) rfl (by rw [en_171, mu_fn]; rfl) hP) hS1)
theorem ald_V {i : Int32} {r : Nat} (hr : r < 60) (C : Cx p s m args c cc own Z b) (hW : Wd Z b M H) (hi : vp_in i 10) (hdg : decode cc pc = .ok (.iaload, 1)) (kk : W p l e R s m args below meth c H locs cells slots Q (F0 m (pc + 1) ls (.int (M (100 + r) i.toNatClampNeg) :: rest))) : W p l e R s m args below meth c H locs cells slots Q (F0 m pc ls (.int i :: .ref (b + (4 + 2 * r)) :: rest)) :=
  va_iald (cl := vwCl) C.1 C.2.1 C.2.2.2.2.1 hW (4 + 2 * r) 0 ((wl_get (Z := Z) (b := b) (M := M) (k := 4 + 2 * r) (by omega)).trans (congrArg (fun E => some (b + (4 + 2 * r), E)) (en_V Z b M hr))) rfl hi hdg kk
theorem ow_V (r j : Nat) : ow (100 + r) j = 4 + 2 * r := by unfold ow; rw [if_neg (by omega), if_neg (by omega), if_neg (by omega), if_neg (by omega), if_neg (by omega), if_pos (by omega), show 100 + r - 100 = r by omega]
theorem ast_V {i v : Int32} {r : Nat} (hr : r < 60) (C : Cx p s m args c cc own Z b) (hS : va_S (A0 b) s.heap H locs) (hW : Wd Z b M H) (hi : vp_in i 10) (hdg : decode cc pc = .ok (.iastore, 1)) (kk : ∀ (H1 : Heap) (locs1 : List Loc), Wd Z b (mu M (100 + r) i.toNatClampNeg v) H1 → va_S (A0 b) s.heap H1 locs1 → W p l e R s m args below meth c H1 locs1 cells slots Q (F0 m (pc + 1) ls rest)) : W p l e R s m args below meth c H locs cells slots Q (F0 m pc ls (.int v :: .int i :: .ref (b + (4 + 2 * r)) :: rest)) :=
  va_iast (cl := vwCl) C.1 C.2.1 C.2.2.2.2.1 hW (wl_D Z b M) hS (4 + 2 * r) 0 ((wl_get (Z := Z) (b := b) (M := M) (k := 4 + 2 * r) (by omega)).trans (congrArg (fun E => some (b + (4 + 2 * r), E)) (en_V Z b M hr))) rfl hi hdg (fun H1 locs1 hP _ hS1 => kk H1 locs1 (wd_set (k := 4 + 2 * r) (by omega) (ow_V r _) (by rw [en_V Z b _ hr]; unfold verE; rw [mu_fn]; rfl) hP) hS1)
theorem ald_row {i : Int32} (C : Cx p s m args c cc own Z b) (hW : Wd Z b M H) (hi : vp_in i 60) (hdg : decode cc pc = .ok (.aaload, 1)) (kk : W p l e R s m args below meth c H locs cells slots Q (F0 m (pc + 1) ls (.ref (b + (3 + 2 * rk M i.toNatClampNeg)) :: rest))) : W p l e R s m args below meth c H locs cells slots Q (F0 m pc ls (.int i :: .ref (b + 2) :: rest)) :=
  va_aldq (cl := vwCl) C.1 C.2.1 C.2.2.2.2.1 hW 2 4 ((wl_get (Z := Z) (b := b) (M := M) (k := 2) (by decide)).trans (congrArg (fun E => some (b + 2, E)) (en_2 Z b M))) rfl hi hdg kk
theorem ald_lrow {i : Int32} (C : Cx p s m args c cc own Z b) (hW : Wd Z b M H) (hi : vp_in i 30) (hdg : decode cc pc = .ok (.aaload, 1)) (kk : W p l e R s m args below meth c H locs cells slots Q (F0 m (pc + 1) ls (.ref (b + (125 + i.toNatClampNeg)) :: rest))) : W p l e R s m args below meth c H locs cells slots Q (F0 m pc ls (.int i :: .ref (b + 124) :: rest)) :=
  va_aldq (cl := vwCl) C.1 C.2.1 C.2.2.2.2.1 hW 124 3 ((wl_get (Z := Z) (b := b) (M := M) (k := 124) (by decide)).trans (congrArg (fun E => some (b + 124, E)) (en_124 Z b M))) rfl hi hdg kk
theorem rk_nI {M : Mem} {j r : Nat} (h : r < 60) : rk (mu M 3 j (nI r)) j = r := by unfold rk; rw [mu_self, nI_clamp (by omega)]
theorem ast_row {i : Int32} {r : Nat} (hr : r < 60) (C : Cx p s m args c cc own Z b) (hS : va_S (A0 b) s.heap H locs) (hW : Wd Z b M H) (hi : vp_in i 60) (hdg : decode cc pc = .ok (.aastore, 1)) (kk : ∀ (H1 : Heap) (locs1 : List Loc), Wd Z b (mu M 3 i.toNatClampNeg (nI r)) H1 → va_S (A0 b) s.heap H1 locs1 → W p l e R s m args below meth c H1 locs1 cells slots Q (F0 m (pc + 1) ls rest)) : W p l e R s m args below meth c H locs cells slots Q (F0 m pc ls (.ref (b + (3 + 2 * r)) :: .int i :: .ref (b + 2) :: rest)) :=
  va_astq (cl := vwCl) C.1 C.2.1 C.2.2.2.2.1 hW (wl_D Z b M) hS 2 4 (3 + 2 * r) 2 ((wl_get (Z := Z) (b := b) (M := M) (k := 2) (by decide)).trans (congrArg (fun E => some (b + 2, E)) (en_2 Z b M))) rfl ((wl_get (Z := Z) (b := b) (M := M) (k := 3 + 2 * r) (by omega)).trans (congrArg (fun E => some (b + (3 + 2 * r), E)) (en_R Z b M hr))) rfl hi hdg (fun H1 locs1 hP _ hS1 => kk H1 locs1 (wd_set (k := 2) (by decide) rfl (by
    rw [en_2]
    congr 7
    funext j
    by_cases hj : j = i.toNatClampNeg
    · subst hj
      rw [rk_nI hr, va_up_self]
    · rw [va_up_ne _ _ hj]
      unfold rk
      rw [mu_eq, if_neg hj]) hP) hS1)
theorem alen_2 (C : Cx p s m args c cc own Z b) (hW : Wd Z b M H) (hdg : decode cc pc = .ok (.arraylength, 1)) (kk : W p l e R s m args below meth c H locs cells slots Q (F0 m (pc + 1) ls (.int 60 :: rest))) : W p l e R s m args below meth c H locs cells slots Q (F0 m pc ls (.ref (b + 2) :: rest)) :=
  va_alen (cl := vwCl) C.1 C.2.1 C.2.2.2.2.1 hW 2 4 ((wl_get (Z := Z) (b := b) (M := M) (k := 2) (by decide)).trans (congrArg (fun E => some (b + 2, E)) (en_2 Z b M))) rfl rfl hdg kk
theorem alen_124 (C : Cx p s m args c cc own Z b) (hW : Wd Z b M H) (hdg : decode cc pc = .ok (.arraylength, 1)) (kk : W p l e R s m args below meth c H locs cells slots Q (F0 m (pc + 1) ls (.int 30 :: rest))) : W p l e R s m args below meth c H locs cells slots Q (F0 m pc ls (.ref (b + 124) :: rest)) :=
  va_alen (cl := vwCl) C.1 C.2.1 C.2.2.2.2.1 hW 124 3 ((wl_get (Z := Z) (b := b) (M := M) (k := 124) (by decide)).trans (congrArg (fun E => some (b + 124, E)) (en_124 Z b M))) rfl rfl hdg kk
theorem alen_155 (C : Cx p s m args c cc own Z b) (hW : Wd Z b M H) (hdg : decode cc pc = .ok (.arraylength, 1)) (kk : W p l e R s m args below meth c H locs cells slots Q (F0 m (pc + 1) ls (.int 60 :: rest))) : W p l e R s m args below meth c H locs cells slots Q (F0 m pc ls (.ref (b + 155) :: rest)) :=
  va_alen (cl := vwCl) C.1 C.2.1 C.2.2.2.2.1 hW 155 0 ((wl_get (Z := Z) (b := b) (M := M) (k := 155) (by decide)).trans (congrArg (fun E => some (b + 155, E)) (en_155 Z b M))) rfl rfl hdg kk
theorem alen_V {r : Nat} (hr : r < 60) (C : Cx p s m args c cc own Z b) (hW : Wd Z b M H) (hdg : decode cc pc = .ok (.arraylength, 1)) (kk : W p l e R s m args below meth c H locs cells slots Q (F0 m (pc + 1) ls (.int 10 :: rest))) : W p l e R s m args below meth c H locs cells slots Q (F0 m pc ls (.ref (b + (4 + 2 * r)) :: rest)) :=
  va_alen (cl := vwCl) C.1 C.2.1 C.2.2.2.2.1 hW (4 + 2 * r) 0 ((wl_get (Z := Z) (b := b) (M := M) (k := 4 + 2 * r) (by omega)).trans (congrArg (fun E => some (b + (4 + 2 * r), E)) (en_V Z b M hr))) rfl rfl hdg kk
end ROWS
end
section
def rR (b : Nat) (q : Option Nat) : Value := match q with | none => .null | some k => .ref (b + (3 + 2 * k))
def rL (b : Nat) (q : Option Nat) : Value := match q with | none => .null | some k => .ref (b + (125 + k))
abbrev rm_X4_init : Room := { frames := 3, cells := 0, slots := 0, locals := 61 }
abbrev rm_X4_makeCollection : Room := { frames := 8, cells := 4, slots := 24, locals := 124 }
abbrev rm_X4_put : Room := { frames := 8, cells := 6, slots := 36, locals := 142 }
abbrev rm_X4_delete : Room := { frames := 8, cells := 4, slots := 24, locals := 124 }
abbrev rm_X4_failures : Room := { frames := 0, cells := 0, slots := 0, locals := 0 }
abbrev rm_X4_failureAt : Room := { frames := 6, cells := 1, slots := 6, locals := 82 }
abbrev rm_X4_copy : Room := { frames := 9, cells := 7, slots := 42, locals := 147 }
abbrev rm_X4_move : Room := { frames := 9, cells := 7, slots := 42, locals := 147 }
abbrev rm_X4_kindOf : Room := { frames := 7, cells := 1, slots := 6, locals := 102 }
abbrev rm_X4_content : Room := { frames := 7, cells := 1, slots := 6, locals := 102 }
abbrev rm_X4_resources : Room := { frames := 0, cells := 0, slots := 0, locals := 0 }
abbrev rm_X4_members : Room := { frames := 7, cells := 1, slots := 6, locals := 102 }
abbrev rm_X4_memberAt : Room := { frames := 7, cells := 2, slots := 12, locals := 102 }
abbrev rm_X4_order : Room := { frames := 8, cells := 5, slots := 30, locals := 124 }
abbrev rm_X4_lock : Room := { frames := 8, cells := 5, slots := 30, locals := 142 }
abbrev rm_X4_refresh : Room := { frames := 8, cells := 3, slots := 18, locals := 124 }
abbrev rm_X4_pass : Room := { frames := 7, cells := 2, slots := 12, locals := 104 }
abbrev rm_X4_covering : Room := { frames := 7, cells := 1, slots := 6, locals := 102 }
abbrev rm_X4_mayChange : Room := { frames := 8, cells := 3, slots := 18, locals := 124 }
abbrev rm_X4_keep : Room := { frames := 7, cells := 2, slots := 12, locals := 102 }
abbrev rm_X4_restore : Room := { frames := 8, cells := 4, slots := 24, locals := 124 }
abbrev rm_X4_requireRange : Room := { frames := 6, cells := 1, slots := 6, locals := 82 }
abbrev rm_X4_requireNotNegative : Room := { frames := 6, cells := 1, slots := 6, locals := 82 }
abbrev rm_X4_requireClient : Room := { frames := 7, cells := 1, slots := 6, locals := 104 }
abbrev rm_X4_requirePath : Room := { frames := 6, cells := 1, slots := 6, locals := 82 }
abbrev rm_X4_requirePathBelowTop : Room := { frames := 7, cells := 2, slots := 12, locals := 102 }
abbrev rm_X4_requireTransfer : Room := { frames := 8, cells := 7, slots := 42, locals := 124 }
abbrev rm_X4_isPath : Room := { frames := 0, cells := 0, slots := 0, locals := 0 }
abbrev rm_X4_parentOf : Room := { frames := 0, cells := 0, slots := 0, locals := 0 }
abbrev rm_X4_isAbove : Room := { frames := 0, cells := 0, slots := 0, locals := 0 }
abbrev rm_X4_isIn : Room := { frames := 1, cells := 0, slots := 0, locals := 23 }
abbrev rm_X4_moved : Room := { frames := 0, cells := 0, slots := 0, locals := 0 }
abbrev rm_X4_allowsWithParent : Room := { frames := 4, cells := 0, slots := 0, locals := 94 }
abbrev rm_X4_allowsTree : Room := { frames := 4, cells := 0, slots := 0, locals := 94 }
abbrev rm_X4_outcomeOfWriting : Room := { frames := 5, cells := 0, slots := 0, locals := 117 }
abbrev rm_X4_outcomeOfTarget : Room := { frames := 5, cells := 0, slots := 0, locals := 119 }
abbrev rm_X4_write : Room := { frames := 3, cells := 0, slots := 0, locals := 66 }
abbrev rm_X4_noteFailures : Room := { frames := 4, cells := 0, slots := 0, locals := 94 }
abbrev rm_X4_insertFailure : Room := { frames := 0, cells := 0, slots := 0, locals := 0 }
abbrev rm_X4_spareFailures : Room := { frames := 3, cells := 0, slots := 0, locals := 66 }
abbrev rm_X4_removeTree : Room := { frames := 3, cells := 0, slots := 0, locals := 66 }
abbrev rm_X4_removeMarked : Room := { frames := 2, cells := 0, slots := 0, locals := 44 }
abbrev rm_X4_dropLocksOfTree : Room := { frames := 2, cells := 0, slots := 0, locals := 44 }
abbrev rm_X5_init : Room := { frames := 1, cells := 0, slots := 0, locals := 20 }
abbrev rm_X5_thrown : Room := { frames := 0, cells := 0, slots := 0, locals := 0 }
abbrev rm_X5_isIn : Room := { frames := 0, cells := 0, slots := 0, locals := 0 }
abbrev rm_X5_isPath : Room := { frames := 1, cells := 0, slots := 0, locals := 22 }
abbrev rm_X5_isName : Room := { frames := 2, cells := 0, slots := 0, locals := 44 }
abbrev rm_X5_isClient : Room := { frames := 1, cells := 0, slots := 0, locals := 22 }
abbrev rm_X5_isRight : Room := { frames := 3, cells := 0, slots := 0, locals := 64 }
abbrev rm_X5_place : Room := { frames := 0, cells := 0, slots := 0, locals := 0 }
abbrev rm_X5_kinds : Room := { frames := 1, cells := 0, slots := 0, locals := 23 }
abbrev rm_X5_count : Room := { frames := 0, cells := 0, slots := 0, locals := 0 }
abbrev rm_X5_isAbove : Room := { frames := 0, cells := 0, slots := 0, locals := 0 }
abbrev rm_X5_isOf : Room := { frames := 1, cells := 0, slots := 0, locals := 22 }
abbrev rm_X5_makes : Room := { frames := 0, cells := 0, slots := 0, locals := 0 }
abbrev rm_X5_goes : Room := { frames := 0, cells := 0, slots := 0, locals := 0 }
abbrev rm_X5_isOn : Room := { frames := 0, cells := 0, slots := 0, locals := 0 }
abbrev rm_X5_covers : Room := { frames := 1, cells := 0, slots := 0, locals := 22 }
abbrev rm_X5_set : Room := { frames := 2, cells := 0, slots := 0, locals := 44 }
abbrev rm_X5_may : Room := { frames := 3, cells := 0, slots := 0, locals := 67 }
abbrev rm_X5_mayAll : Room := { frames := 4, cells := 0, slots := 0, locals := 93 }
abbrev rm_X5_mayMake : Room := { frames := 4, cells := 0, slots := 0, locals := 93 }
abbrev rm_X5_makeCollection : Room := { frames := 5, cells := 0, slots := 0, locals := 116 }
abbrev rm_X5_puts : Room := { frames := 4, cells := 0, slots := 0, locals := 93 }
abbrev rm_X5_put : Room := { frames := 5, cells := 0, slots := 0, locals := 120 }
abbrev rm_X5_delete : Room := { frames := 5, cells := 0, slots := 0, locals := 116 }
abbrev rm_X5_failures : Room := { frames := 0, cells := 0, slots := 0, locals := 0 }
abbrev rm_X5_failureAt : Room := { frames := 0, cells := 0, slots := 0, locals := 0 }
abbrev rm_X5_digits : Room := { frames := 0, cells := 0, slots := 0, locals := 0 }
abbrev rm_X5_power : Room := { frames := 1, cells := 0, slots := 0, locals := 20 }
abbrev rm_X5_brings : Room := { frames := 5, cells := 0, slots := 0, locals := 118 }
abbrev rm_X5_carries : Room := { frames := 2, cells := 0, slots := 0, locals := 44 }
abbrev rm_X5_lowest : Room := { frames := 0, cells := 0, slots := 0, locals := 0 }
abbrev rm_X5_copy : Room := { frames := 6, cells := 0, slots := 0, locals := 150 }
abbrev rm_X5_move : Room := { frames := 6, cells := 0, slots := 0, locals := 150 }
abbrev rm_X5_asks : Room := { frames := 2, cells := 0, slots := 0, locals := 44 }
abbrev rm_X5_kindOf : Room := { frames := 3, cells := 0, slots := 0, locals := 65 }
abbrev rm_X5_content : Room := { frames := 3, cells := 0, slots := 0, locals := 65 }
abbrev rm_X5_resources : Room := { frames := 1, cells := 0, slots := 0, locals := 22 }
abbrev rm_X5_isMember : Room := { frames := 0, cells := 0, slots := 0, locals := 0 }
abbrev rm_X5_membersOf : Room := { frames := 1, cells := 0, slots := 0, locals := 22 }
abbrev rm_X5_members : Room := { frames := 3, cells := 0, slots := 0, locals := 65 }
abbrev rm_X5_memberOf : Room := { frames := 1, cells := 0, slots := 0, locals := 22 }
abbrev rm_X5_memberAt : Room := { frames := 3, cells := 0, slots := 0, locals := 65 }
abbrev rm_X5_order : Room := { frames := 4, cells := 0, slots := 0, locals := 93 }
abbrev rm_X5_clashes : Room := { frames := 2, cells := 0, slots := 0, locals := 44 }
abbrev rm_X5_lock : Room := { frames := 5, cells := 0, slots := 0, locals := 120 }
abbrev rm_X5_refresh : Room := { frames := 2, cells := 0, slots := 0, locals := 42 }
abbrev rm_X5_pass : Room := { frames := 1, cells := 0, slots := 0, locals := 22 }
abbrev rm_X5_covering : Room := { frames := 3, cells := 0, slots := 0, locals := 67 }
abbrev rm_X5_mayChange : Room := { frames := 4, cells := 0, slots := 0, locals := 93 }
abbrev rm_X5_keep : Room := { frames := 3, cells := 0, slots := 0, locals := 65 }
abbrev rm_X5_restore : Room := { frames := 4, cells := 0, slots := 0, locals := 93 }
abbrev rm_X0_init : Room := { frames := 1, cells := 0, slots := 0, locals := 20 }
abbrev rm_X0_covers : Room := { frames := 1, cells := 0, slots := 0, locals := 23 }
abbrev rm_X1_init : Room := { frames := 2, cells := 0, slots := 0, locals := 40 }
abbrev rm_X1_find : Room := { frames := 0, cells := 0, slots := 0, locals := 0 }
abbrev rm_X1_tokensOver : Room := { frames := 2, cells := 0, slots := 0, locals := 44 }
abbrev rm_X1_allows : Room := { frames := 3, cells := 0, slots := 0, locals := 68 }
abbrev rm_X1_bar : Room := { frames := 2, cells := 0, slots := 0, locals := 44 }
abbrev rm_X1_add : Room := { frames := 0, cells := 0, slots := 0, locals := 0 }
abbrev rm_X1_dropAt : Room := { frames := 1, cells := 0, slots := 0, locals := 21 }
abbrev rm_X1_advance : Room := { frames := 1, cells := 0, slots := 0, locals := 21 }
abbrev rm_X2_init : Room := { frames := 1, cells := 0, slots := 0, locals := 20 }
abbrev rm_X2_begin : Room := { frames := 0, cells := 0, slots := 0, locals := 0 }
abbrev rm_X2_hasVersion : Room := { frames := 0, cells := 0, slots := 0, locals := 0 }
abbrev rm_X2_addVersion : Room := { frames := 0, cells := 0, slots := 0, locals := 0 }
abbrev rm_X2_takeVersion : Room := { frames := 1, cells := 0, slots := 0, locals := 21 }
abbrev rm_X3_init : Room := { frames := 2, cells := 0, slots := 0, locals := 40 }
abbrev rm_X3_indexOf : Room := { frames := 0, cells := 0, slots := 0, locals := 0 }
abbrev rm_X3_find : Room := { frames := 1, cells := 0, slots := 0, locals := 22 }
abbrev rm_X3_findFile : Room := { frames := 2, cells := 0, slots := 0, locals := 44 }
abbrev rm_X3_kindAt : Room := { frames := 2, cells := 0, slots := 0, locals := 44 }
abbrev rm_X3_isCollection : Room := { frames := 3, cells := 0, slots := 0, locals := 66 }
abbrev rm_X3_append : Room := { frames := 1, cells := 0, slots := 0, locals := 23 }
abbrev rm_X3_treeSize : Room := { frames := 2, cells := 0, slots := 0, locals := 44 }
abbrev rm_X3_fits : Room := { frames := 2, cells := 0, slots := 0, locals := 44 }
abbrev rm_X3_appendCopyOfTree : Room := { frames := 2, cells := 0, slots := 0, locals := 46 }
abbrev rm_X3_renameTree : Room := { frames := 3, cells := 0, slots := 0, locals := 68 }
abbrev rm_X3_markTree : Room := { frames := 2, cells := 0, slots := 0, locals := 44 }
abbrev rm_X3_spareUpFrom : Room := { frames := 2, cells := 0, slots := 0, locals := 44 }
abbrev rm_X3_removeMarked : Room := { frames := 0, cells := 0, slots := 0, locals := 0 }
abbrev rm_X3_memberCount : Room := { frames := 1, cells := 0, slots := 0, locals := 20 }
abbrev rm_X3_memberIndex : Room := { frames := 1, cells := 0, slots := 0, locals := 20 }
abbrev rm_X3_placeMember : Room := { frames := 2, cells := 0, slots := 0, locals := 44 }
abbrev rm_X3_shift : Room := { frames := 0, cells := 0, slots := 0, locals := 0 }
abbrev rm_L_makeCollection : Room := { frames := 9, cells := 4, slots := 24, locals := 147 }
abbrev rm_L_put : Room := { frames := 9, cells := 6, slots := 36, locals := 168 }
abbrev rm_L_delete : Room := { frames := 9, cells := 4, slots := 24, locals := 147 }
abbrev rm_L_failureAt : Room := { frames := 7, cells := 1, slots := 6, locals := 103 }
abbrev rm_L_copy : Room := { frames := 10, cells := 7, slots := 42, locals := 173 }
abbrev rm_L_move : Room := { frames := 10, cells := 7, slots := 42, locals := 173 }
abbrev rm_L_kindOf : Room := { frames := 8, cells := 1, slots := 6, locals := 123 }
abbrev rm_L_content : Room := { frames := 8, cells := 1, slots := 6, locals := 124 }
abbrev rm_L_members : Room := { frames := 8, cells := 1, slots := 6, locals := 123 }
abbrev rm_L_memberAt : Room := { frames := 8, cells := 2, slots := 12, locals := 125 }
abbrev rm_L_order : Room := { frames := 9, cells := 5, slots := 30, locals := 148 }
abbrev rm_L_lock : Room := { frames := 9, cells := 5, slots := 30, locals := 168 }
abbrev rm_L_refresh : Room := { frames := 9, cells := 3, slots := 18, locals := 149 }
abbrev rm_L_pass : Room := { frames := 8, cells := 2, slots := 12, locals := 125 }
abbrev rm_L_covering : Room := { frames := 8, cells := 1, slots := 6, locals := 123 }
abbrev rm_L_mayChange : Room := { frames := 9, cells := 3, slots := 18, locals := 147 }
abbrev rm_L_keep : Room := { frames := 8, cells := 2, slots := 12, locals := 124 }
abbrev rm_L_restore : Room := { frames := 9, cells := 4, slots := 24, locals := 149 }
abbrev rm_L_law : Room := { frames := 11, cells := 0, slots := 0, locals := 200 }
theorem gV {own C : String} {idx : Nat} {y : MethodName} {cd : Cond} (h1 : Cond.methodLink own idx y ∈ wsA) (h2 : Cond.instanceMethod y ∈ wsA) (h3 : Cond.selects C y y ∈ wsA) (h4 : Cond.initialized C ∈ wsA) (h5 : cd ∈ wsA) : GoodIn wsA (wsV own idx C y (cd :: wsA)) := goodA fun w hw => by
  rcases List.mem_append.mp hw with h | h
  · simp only [List.mem_cons, List.not_mem_nil, or_false] at h
    rcases h with rfl | rfl | rfl | rfl <;> assumption
  · rcases List.mem_cons.mp h with rfl | h
    · exact h5
    · exact h
theorem gS {own : String} {idx : Nat} {y : MethodName} {cd : Cond} (h1 : Cond.methodLink own idx y ∈ wsA) (h2 : Cond.static y ∈ wsA) (h4 : Cond.initialized own ∈ wsA) (h5 : cd ∈ wsA) : GoodIn wsA (wsS own idx y (cd :: wsA)) := goodA fun w hw => by
  rcases List.mem_append.mp hw with h | h
  · simp only [List.mem_cons, List.not_mem_nil, or_false] at h
    rcases h with rfl | rfl | rfl <;> assumption
  · rcases List.mem_cons.mp h with rfl | h
    · exact h5
    · exact h
theorem gN {cd : Cond} (h5 : cd ∈ wsA) : GoodIn wsA (cd :: wsA) := goodA fun w hw => by
  rcases List.mem_cons.mp hw with rfl | h
  · exact h5
  · exact h
section LINKS
variable {own : String} {p : Program} {l : Launch} {e : Env} {R : Room} {s : State} {m : MethodId} {args : Array Value} {below : List Frame} {meth : Method} {c : Code} {H : Heap} {locs : List Loc} {cells slots : Nat} {Q : State → Prop} {cc : ByteArray} {pc : Nat} {ls : Array Slot} {rest : List Value} {Z : Zt} {b : Nat} {M : Mem}
theorem cx_ret {st0 : List Value} {v : Option Value} {M' : Mem} {a : Array Value} {mc ms : Nat} (hr : vx_Run p l e R s m args below meth c H locs cells slots mc ms (F0 m pc ls st0) rest (Qx Z b (.inr v) M' a) (XCx Z b (.inr v) M') (A0 b)) (hS : va_S (A0 b) s.heap H locs)
    (kk : ∀ (H1 : Heap) (locs1 : List Loc), Wd Z b M' H1 → va_S (A0 b) s.heap H1 locs1 → W p l e R s m args below meth c H1 locs1 (cells + mc) (slots + ms) Q (F0 m (pc + 3) ls (v.toList ++ rest))) : W p l e R s m args below meth c H locs cells slots Q (F0 m pc ls st0) := by
  intro T hT X
  rcases hr T hT X with ⟨v', st₀, t, T', L, h0, X', hL, e1, e2, ⟨⟨v2, hv2, hv, hw⟩, hF⟩, st⟩ | ⟨q, st₀, t, T', L, E, ce, h0, X', hL, e1, e2, ⟨hE, -⟩, -⟩
  · cases hv2
    cases hv
    obtain ⟨-, -, k3⟩ := vx_keep h0 e1 hS (fun _ _ h => h) (fun _ h => h) hL hF
    obtain ⟨t2, a1, b1⟩ := kk T'.heap (locs ++ L) (by rw [e1]; exact hw) k3 T' rfl X'
    exact ⟨t2, st t2 a1, b1⟩
  · cases hE
theorem cx_thr {st0 : List Value} {E : String} {M' : Mem} {a : Array Value} {mc ms mc2 ms2 : Nat} (hr : vx_Run p l e R s m args below meth c H locs cells slots mc ms (F0 m pc ls st0) rest (Qx Z b (.inl E) M' a) (XCx Z b (.inl E) M') (A0 b)) (hS : va_S (A0 b) s.heap H locs)
    (ht : ∀ x ∈ c.exceptionTable.toList, False) (hlk : meth.locks = false) (hc : cells + mc ≤ mc2) (hs : slots + ms ≤ ms2) :
    W p l e R s m args below meth c H locs cells slots (vx_MQ below (Qx Z b (.inl E) M') (XCx Z b (.inl E) M') args s mc2 ms2 (A0 b)) (F0 m pc ls st0) := by
  intro T hT X
  rcases hr T hT X with ⟨v', st₀, t, T', L, h0, X', hL, e1, e2, ⟨⟨v2, hv2, -⟩, -⟩, -⟩ | ⟨q, st₀, t, T', L, E', ce, h0, X', hL, e1, e2, ⟨hE, hw, hF⟩, hce, hcv, hcl, st⟩
  · cases hv2
  · cases hE
    obtain ⟨-, -, k3⟩ := vx_keep h0 e1 hS (fun _ _ h => h) (fun _ h => h) hL hF
    obtain ⟨t2, a1, b1⟩ := vx_out (Qc := Qx Z b (.inl E) M') (XC := XCx Z b (.inl E) M') (free := A0 b) (H := T'.heap) (pc := pc) (ls := ls) (rest := rest) (fun x hx => (ht x hx).elim) hlk (by rw [e1]; exact hce) hcv hcl (fun t' ht' _ => ⟨rfl, by rw [ht', e1]; exact hw, k3.F ht'⟩) k3.2.2 hc hs T' rfl X'
    exact ⟨t2, st.trans a1, b1⟩
theorem xgA : ∀ w ∈ (vx_atS RX4 222 "java/lang/IllegalArgumentException" ["java/lang/RuntimeException", "java/lang/Exception"]).filter goodWord, w ∈ wsA := by decide +kernel
theorem xoA : ∀ w ∈ Cond.classLink RX4 218 "java/lang/IllegalArgumentException" :: Cond.initialized "java/lang/IllegalArgumentException" :: vx_atS RX4 222 "java/lang/IllegalArgumentException" ["java/lang/RuntimeException", "java/lang/Exception"], vx_ot w = true := by decide +kernel
theorem thA {is mc ms : Nat} {text : String} (hl : l.stackTraces = false) (C : Cx p s m args c cc RX4 Z b) (ht : ∀ x ∈ c.exceptionTable.toList, False) (hlk : meth.locks = false) (htx : (is, text) ∈ strW) (hS : va_S (A0 b) s.heap H locs) (hW : Wd Z b M H) (hsize : ls.size = c.maxLocals)
    (d0 : decode cc pc = .ok (.new 218, 3)) (d3 : decode cc (pc + 3) = .ok (.dup, 1)) (d4 : decode cc (pc + 4) = .ok (.ldc is, 2)) (d6 : decode cc (pc + 6) = .ok (.invokespecial 222, 3)) (d9 : decode cc (pc + 9) = .ok (.athrow, 1))
    (hR : 5 < R.frames ∧ 82 ≤ R.locals) (hRc : cells + 1 ≤ R.cells ∧ slots + 6 ≤ R.slots) (hc : cells + 1 ≤ mc) (hs : slots + 6 ≤ ms) :
    W p l e R s m args below meth c H locs cells slots (vx_MQ below (Qx Z b (.inl "java/lang/IllegalArgumentException") M) (XCx Z b (.inl "java/lang/IllegalArgumentException") M) args s mc ms (A0 b)) (F0 m pc ls []) := by
  obtain ⟨h1, h2, h3, h4, h5, h6⟩ := C.2.2.2.2
  obtain ⟨sa, hsa⟩ := h3 _ htx
  exact vx_throwS (names := ["java/lang/RuntimeException", "java/lang/Exception"]) C.1 C.2.1 hl C.2.2.1 (by decide +kernel) (by decide +kernel) (C.2.2.2.1 _ q214) (C.2.2.2.1 _ q73) hsa
    (vx_hat (B := excW) (fun w h => C.2.2.2.1 _ (xgA w h)) (fun w h => (List.mem_append_left _ (List.mem_append_left _ (List.mem_append_left _ h)))) (fun w h => va_Nw.use (st_on (extW_st w (List.mem_append_right _ h))) (h2 w (List.mem_append_right _ h))))
    xoA h4 h5 hS hsize d0 d3 d4 d6 d9 (fun x hx => (ht x hx).elim) hR.1 hR.2 hRc.1 hRc.2 hlk (fun t _ hz hk => ⟨rfl, va_P.kept hW (fun k q hq => hk _ (hW k q hq).lt), Nat.le_trans hS.1 hz, fun q h7 h8 => by rw [hk q (Nat.lt_of_lt_of_le h7 hS.1)]; exact hS.2.1 q h7 h8⟩) hS.2.2 hc hs
theorem xgB : ∀ w ∈ (vx_atS RX4 91 "java/lang/IndexOutOfBoundsException" ["java/lang/RuntimeException", "java/lang/Exception"]).filter goodWord, w ∈ wsA := by decide +kernel
theorem xoB : ∀ w ∈ Cond.classLink RX4 87 "java/lang/IndexOutOfBoundsException" :: Cond.initialized "java/lang/IndexOutOfBoundsException" :: vx_atS RX4 91 "java/lang/IndexOutOfBoundsException" ["java/lang/RuntimeException", "java/lang/Exception"], vx_ot w = true := by decide +kernel
theorem thB {is mc ms : Nat} {text : String} (hl : l.stackTraces = false) (C : Cx p s m args c cc RX4 Z b) (ht : ∀ x ∈ c.exceptionTable.toList, False) (hlk : meth.locks = false) (htx : (is, text) ∈ strW) (hS : va_S (A0 b) s.heap H locs) (hW : Wd Z b M H) (hsize : ls.size = c.maxLocals)
    (d0 : decode cc pc = .ok (.new 87, 3)) (d3 : decode cc (pc + 3) = .ok (.dup, 1)) (d4 : decode cc (pc + 4) = .ok (.ldc is, 2)) (d6 : decode cc (pc + 6) = .ok (.invokespecial 91, 3)) (d9 : decode cc (pc + 9) = .ok (.athrow, 1))
    (hR : 5 < R.frames ∧ 82 ≤ R.locals) (hRc : cells + 1 ≤ R.cells ∧ slots + 6 ≤ R.slots) (hc : cells + 1 ≤ mc) (hs : slots + 6 ≤ ms) :
    W p l e R s m args below meth c H locs cells slots (vx_MQ below (Qx Z b (.inl "java/lang/IndexOutOfBoundsException") M) (XCx Z b (.inl "java/lang/IndexOutOfBoundsException") M) args s mc ms (A0 b)) (F0 m pc ls []) := by
  obtain ⟨h1, h2, h3, h4, h5, h6⟩ := C.2.2.2.2
  obtain ⟨sa, hsa⟩ := h3 _ htx
  exact vx_throwS (names := ["java/lang/RuntimeException", "java/lang/Exception"]) C.1 C.2.1 hl C.2.2.1 (by decide +kernel) (by decide +kernel) (C.2.2.2.1 _ q418) (C.2.2.2.1 _ q74) hsa
    (vx_hat (B := excW) (fun w h => C.2.2.2.1 _ (xgB w h)) (fun w h => (List.mem_append_left _ (List.mem_append_left _ (List.mem_append_right _ h)))) (fun w h => va_Nw.use (st_on (extW_st w (List.mem_append_right _ h))) (h2 w (List.mem_append_right _ h))))
    xoB h4 h5 hS hsize d0 d3 d4 d6 d9 (fun x hx => (ht x hx).elim) hR.1 hR.2 hRc.1 hRc.2 hlk (fun t _ hz hk => ⟨rfl, va_P.kept hW (fun k q hq => hk _ (hW k q hq).lt), Nat.le_trans hS.1 hz, fun q h7 h8 => by rw [hk q (Nat.lt_of_lt_of_le h7 hS.1)]; exact hS.2.1 q h7 h8⟩) hS.2.2 hc hs
theorem xgS : ∀ w ∈ (vx_atS RX4 161 "java/lang/IllegalStateException" ["java/lang/RuntimeException", "java/lang/Exception"]).filter goodWord, w ∈ wsA := by decide +kernel
theorem xoS : ∀ w ∈ Cond.classLink RX4 157 "java/lang/IllegalStateException" :: Cond.initialized "java/lang/IllegalStateException" :: vx_atS RX4 161 "java/lang/IllegalStateException" ["java/lang/RuntimeException", "java/lang/Exception"], vx_ot w = true := by decide +kernel
theorem thS {is mc ms : Nat} {text : String} (hl : l.stackTraces = false) (C : Cx p s m args c cc RX4 Z b) (ht : ∀ x ∈ c.exceptionTable.toList, False) (hlk : meth.locks = false) (htx : (is, text) ∈ strW) (hS : va_S (A0 b) s.heap H locs) (hW : Wd Z b M H) (hsize : ls.size = c.maxLocals)
    (d0 : decode cc pc = .ok (.new 157, 3)) (d3 : decode cc (pc + 3) = .ok (.dup, 1)) (d4 : decode cc (pc + 4) = .ok (.ldc is, 2)) (d6 : decode cc (pc + 6) = .ok (.invokespecial 161, 3)) (d9 : decode cc (pc + 9) = .ok (.athrow, 1))
    (hR : 5 < R.frames ∧ 82 ≤ R.locals) (hRc : cells + 1 ≤ R.cells ∧ slots + 6 ≤ R.slots) (hc : cells + 1 ≤ mc) (hs : slots + 6 ≤ ms) :
    W p l e R s m args below meth c H locs cells slots (vx_MQ below (Qx Z b (.inl "java/lang/IllegalStateException") M) (XCx Z b (.inl "java/lang/IllegalStateException") M) args s mc ms (A0 b)) (F0 m pc ls []) := by
  obtain ⟨h1, h2, h3, h4, h5, h6⟩ := C.2.2.2.2
  obtain ⟨sa, hsa⟩ := h3 _ htx
  exact vx_throwS (names := ["java/lang/RuntimeException", "java/lang/Exception"]) C.1 C.2.1 hl C.2.2.1 (by decide +kernel) (by decide +kernel) (C.2.2.2.1 _ q553) (C.2.2.2.1 _ q75) hsa
    (vx_hat (B := excW) (fun w h => C.2.2.2.1 _ (xgS w h)) (fun w h => (List.mem_append_left _ (List.mem_append_right _ h))) (fun w h => va_Nw.use (st_on (extW_st w (List.mem_append_right _ h))) (h2 w (List.mem_append_right _ h))))
    xoS h4 h5 hS hsize d0 d3 d4 d6 d9 (fun x hx => (ht x hx).elim) hR.1 hR.2 hRc.1 hRc.2 hlk (fun t _ hz hk => ⟨rfl, va_P.kept hW (fun k q hq => hk _ (hW k q hq).lt), Nat.le_trans hS.1 hz, fun q h7 h8 => by rw [hk q (Nat.lt_of_lt_of_le h7 hS.1)]; exact hS.2.1 q h7 h8⟩) hS.2.2 hc hs
theorem kX4_31R {a1 : Int32} {nL : Nat} {M' : Mem} (C : Cx p s m args c cc RX4 Z b) (hml : c.maxLocals = nL) (hsz : ls.size = nL) (hM : Cx' l yX4_requireClient cX4_requireClient 1 (none : Option Jvm.ClassFile.FieldType) rm_X4_requireClient 1 6 Z b [.int a1] M (.inr none) M') (hR : rm_X4_requireClient.frames + 1 ≤ R.frames ∧ 8 + (1 + 11) + rm_X4_requireClient.locals ≤ R.locals) (hc : cells + 1 ≤ R.cells ∧ slots + 6 ≤ R.slots) (hroom : (rest.map fun v => v.category).sum ≤ 8) (hS : va_S (A0 b) s.heap H locs) (hW : Wd Z b M H) (hdg : decode cc pc = .ok (.invokestatic 31, 3))
    (kk : ∀ (H1 : Heap) (locs1 : List Loc), Wd Z b M' H1 → va_S (A0 b) s.heap H1 locs1 → W p l e R s m args below meth c H1 locs1 (cells + 1) (slots + 6) Q (F0 m (pc + 3) ls rest)) : W p l e R s m args below meth c H locs cells slots Q (F0 m pc ls (.int a1 :: rest)) :=
  cx_ret (v := none) (vx_runS (As := [.int a1]) ⟨C.1, C.2.1, hml, C.2.2.1, C.2.2.2.1⟩ hM (cwS 1 C.2.2.2.1 (gS q208 q209 q64 q210) rfl rfl rfl (by decide +kernel) hR) ⟨Pre.blind _ _ _ _, fun U hU hWU => ⟨rfl, C.2.2.2.2.call hS hU hWU, by rw [hU]; exact hW⟩⟩ rfl rfl hsz rfl (lv_room hroom) hdg hc) hS kk
theorem kX4_31T {a1 : Int32} {E : String} {nL : Nat} {M' : Mem} (C : Cx p s m args c cc RX4 Z b) (hml : c.maxLocals = nL) (hsz : ls.size = nL) (hM : Cx' l yX4_requireClient cX4_requireClient 1 (none : Option Jvm.ClassFile.FieldType) rm_X4_requireClient 1 6 Z b [.int a1] M (.inl E) M') (hR : rm_X4_requireClient.frames + 1 ≤ R.frames ∧ 8 + (1 + 11) + rm_X4_requireClient.locals ≤ R.locals) (hc : cells + 1 ≤ R.cells ∧ slots + 6 ≤ R.slots) (hroom : (rest.map fun v => v.category).sum ≤ 8) (hS : va_S (A0 b) s.heap H locs) (hW : Wd Z b M H) (hdg : decode cc pc = .ok (.invokestatic 31, 3))
    {mc2 ms2 : Nat} (ht : ∀ x ∈ c.exceptionTable.toList, False) (hlk : meth.locks = false) (h1 : cells + 1 ≤ mc2) (h2 : slots + 6 ≤ ms2) : W p l e R s m args below meth c H locs cells slots (vx_MQ below (Qx Z b (.inl E) M') (XCx Z b (.inl E) M') args s mc2 ms2 (A0 b)) (F0 m pc ls (.int a1 :: rest)) :=
  cx_thr (vx_runS (As := [.int a1]) ⟨C.1, C.2.1, hml, C.2.2.1, C.2.2.2.1⟩ hM (cwS 1 C.2.2.2.1 (gS q208 q209 q64 q210) rfl rfl rfl (by decide +kernel) hR) ⟨Pre.blind _ _ _ _, fun U hU hWU => ⟨rfl, C.2.2.2.2.call hS hU hWU, by rw [hU]; exact hW⟩⟩ rfl rfl hsz rfl (lv_room hroom) hdg hc) hS ht hlk h1 h2
theorem kX4_35R {a1 : Int32} {nL : Nat} {M' : Mem} (C : Cx p s m args c cc RX4 Z b) (hml : c.maxLocals = nL) (hsz : ls.size = nL) (hM : Cx' l yX4_requirePathBelowTop cX4_requirePathBelowTop 1 (none : Option Jvm.ClassFile.FieldType) rm_X4_requirePathBelowTop 2 12 Z b [.int a1] M (.inr none) M') (hR : rm_X4_requirePathBelowTop.frames + 1 ≤ R.frames ∧ 8 + (1 + 11) + rm_X4_requirePathBelowTop.locals ≤ R.locals) (hc : cells + 2 ≤ R.cells ∧ slots + 12 ≤ R.slots) (hroom : (rest.map fun v => v.category).sum ≤ 8) (hS : va_S (A0 b) s.heap H locs) (hW : Wd Z b M H) (hdg : decode cc pc = .ok (.invokestatic 35, 3))
    (kk : ∀ (H1 : Heap) (locs1 : List Loc), Wd Z b M' H1 → va_S (A0 b) s.heap H1 locs1 → W p l e R s m args below meth c H1 locs1 (cells + 2) (slots + 12) Q (F0 m (pc + 3) ls rest)) : W p l e R s m args below meth c H locs cells slots Q (F0 m pc ls (.int a1 :: rest)) :=
  cx_ret (v := none) (vx_runS (As := [.int a1]) ⟨C.1, C.2.1, hml, C.2.2.1, C.2.2.2.1⟩ hM (cwS 1 C.2.2.2.1 (gS q282 q283 q64 q284) rfl rfl rfl (by decide +kernel) hR) ⟨Pre.blind _ _ _ _, fun U hU hWU => ⟨rfl, C.2.2.2.2.call hS hU hWU, by rw [hU]; exact hW⟩⟩ rfl rfl hsz rfl (lv_room hroom) hdg hc) hS kk
theorem kX4_35T {a1 : Int32} {E : String} {nL : Nat} {M' : Mem} (C : Cx p s m args c cc RX4 Z b) (hml : c.maxLocals = nL) (hsz : ls.size = nL) (hM : Cx' l yX4_requirePathBelowTop cX4_requirePathBelowTop 1 (none : Option Jvm.ClassFile.FieldType) rm_X4_requirePathBelowTop 2 12 Z b [.int a1] M (.inl E) M') (hR : rm_X4_requirePathBelowTop.frames + 1 ≤ R.frames ∧ 8 + (1 + 11) + rm_X4_requirePathBelowTop.locals ≤ R.locals) (hc : cells + 2 ≤ R.cells ∧ slots + 12 ≤ R.slots) (hroom : (rest.map fun v => v.category).sum ≤ 8) (hS : va_S (A0 b) s.heap H locs) (hW : Wd Z b M H) (hdg : decode cc pc = .ok (.invokestatic 35, 3))
    {mc2 ms2 : Nat} (ht : ∀ x ∈ c.exceptionTable.toList, False) (hlk : meth.locks = false) (h1 : cells + 2 ≤ mc2) (h2 : slots + 12 ≤ ms2) : W p l e R s m args below meth c H locs cells slots (vx_MQ below (Qx Z b (.inl E) M') (XCx Z b (.inl E) M') args s mc2 ms2 (A0 b)) (F0 m pc ls (.int a1 :: rest)) :=
  cx_thr (vx_runS (As := [.int a1]) ⟨C.1, C.2.1, hml, C.2.2.1, C.2.2.2.1⟩ hM (cwS 1 C.2.2.2.1 (gS q282 q283 q64 q284) rfl rfl rfl (by decide +kernel) hR) ⟨Pre.blind _ _ _ _, fun U hU hWU => ⟨rfl, C.2.2.2.2.call hS hU hWU, by rw [hU]; exact hW⟩⟩ rfl rfl hsz rfl (lv_room hroom) hdg hc) hS ht hlk h1 h2
theorem kX4_38R {a1 : Int32} {nL : Nat} {M' : Mem} (C : Cx p s m args c cc RX4 Z b) (hml : c.maxLocals = nL) (hsz : ls.size = nL) (hM : Cx' l yX4_requireNotNegative cX4_requireNotNegative 1 (none : Option Jvm.ClassFile.FieldType) rm_X4_requireNotNegative 1 6 Z b [.int a1] M (.inr none) M') (hR : rm_X4_requireNotNegative.frames + 1 ≤ R.frames ∧ 8 + (1 + 11) + rm_X4_requireNotNegative.locals ≤ R.locals) (hc : cells + 1 ≤ R.cells ∧ slots + 6 ≤ R.slots) (hroom : (rest.map fun v => v.category).sum ≤ 8) (hS : va_S (A0 b) s.heap H locs) (hW : Wd Z b M H) (hdg : decode cc pc = .ok (.invokestatic 38, 3))
    (kk : ∀ (H1 : Heap) (locs1 : List Loc), Wd Z b M' H1 → va_S (A0 b) s.heap H1 locs1 → W p l e R s m args below meth c H1 locs1 (cells + 1) (slots + 6) Q (F0 m (pc + 3) ls rest)) : W p l e R s m args below meth c H locs cells slots Q (F0 m pc ls (.int a1 :: rest)) :=
  cx_ret (v := none) (vx_runS (As := [.int a1]) ⟨C.1, C.2.1, hml, C.2.2.1, C.2.2.2.1⟩ hM (cwS 1 C.2.2.2.1 (gS q293 q294 q64 q295) rfl rfl rfl (by decide +kernel) hR) ⟨Pre.blind _ _ _ _, fun U hU hWU => ⟨rfl, C.2.2.2.2.call hS hU hWU, by rw [hU]; exact hW⟩⟩ rfl rfl hsz rfl (lv_room hroom) hdg hc) hS kk
theorem kX4_38T {a1 : Int32} {E : String} {nL : Nat} {M' : Mem} (C : Cx p s m args c cc RX4 Z b) (hml : c.maxLocals = nL) (hsz : ls.size = nL) (hM : Cx' l yX4_requireNotNegative cX4_requireNotNegative 1 (none : Option Jvm.ClassFile.FieldType) rm_X4_requireNotNegative 1 6 Z b [.int a1] M (.inl E) M') (hR : rm_X4_requireNotNegative.frames + 1 ≤ R.frames ∧ 8 + (1 + 11) + rm_X4_requireNotNegative.locals ≤ R.locals) (hc : cells + 1 ≤ R.cells ∧ slots + 6 ≤ R.slots) (hroom : (rest.map fun v => v.category).sum ≤ 8) (hS : va_S (A0 b) s.heap H locs) (hW : Wd Z b M H) (hdg : decode cc pc = .ok (.invokestatic 38, 3))
    {mc2 ms2 : Nat} (ht : ∀ x ∈ c.exceptionTable.toList, False) (hlk : meth.locks = false) (h1 : cells + 1 ≤ mc2) (h2 : slots + 6 ≤ ms2) : W p l e R s m args below meth c H locs cells slots (vx_MQ below (Qx Z b (.inl E) M') (XCx Z b (.inl E) M') args s mc2 ms2 (A0 b)) (F0 m pc ls (.int a1 :: rest)) :=
  cx_thr (vx_runS (As := [.int a1]) ⟨C.1, C.2.1, hml, C.2.2.1, C.2.2.2.1⟩ hM (cwS 1 C.2.2.2.1 (gS q293 q294 q64 q295) rfl rfl rfl (by decide +kernel) hR) ⟨Pre.blind _ _ _ _, fun U hU hWU => ⟨rfl, C.2.2.2.2.call hS hU hWU, by rw [hU]; exact hW⟩⟩ rfl rfl hsz rfl (lv_room hroom) hdg hc) hS ht hlk h1 h2
theorem kX4_41 {a1 : Int32} {v : Int32} {nL : Nat} {M' : Mem} (C : Cx p s m args c cc RX4 Z b) (hml : c.maxLocals = nL) (hsz : ls.size = nL) (hM : Ct l yX4_parentOf cX4_parentOf 1 (some .int) rm_X4_parentOf Z b [.int a1] M (some (.int v)) M') (hR : rm_X4_parentOf.frames + 1 ≤ R.frames ∧ 8 + (1 + 11) + rm_X4_parentOf.locals ≤ R.locals) (hc : cells ≤ R.cells ∧ slots ≤ R.slots) (hroom : (rest.map fun v => v.category).sum ≤ 8) (hS : va_S (A0 b) s.heap H locs) (hW : Wd Z b M H) (hdg : decode cc pc = .ok (.invokestatic 41, 3))
    (kk : ∀ (H1 : Heap) (locs1 : List Loc), Wd Z b M' H1 → va_S (A0 b) s.heap H1 locs1 → W p l e R s m args below meth c H1 locs1 cells slots Q (F0 m (pc + 3) ls (.int v :: rest))) : W p l e R s m args below meth c H locs cells slots Q (F0 m pc ls (.int a1 :: rest)) :=
  cl_go (v := (some (.int v))) (va_runS (As := [.int a1]) ⟨C.1, C.2.1, hml, C.2.2.1, C.2.2.2.1⟩ hM (cwS 1 C.2.2.2.1 (gS q297 q298 q64 q299) rfl rfl rfl (by decide +kernel) hR) ⟨Pre.blind _ _ _ _, fun U hU hWU => ⟨rfl, C.2.2.2.2.call hS hU hWU, by rw [hU]; exact hW⟩⟩ rfl rfl hsz rfl (lv_room hroom) hdg hc) hS kk
theorem kX4_45 {a1 : Int32} {v : Int32} {nL : Nat} {M' : Mem} (C : Cx p s m args c cc RX4 Z b) (hml : c.maxLocals = nL) (hsz : ls.size = nL) (hM : Ct l yX3_isCollection cX3_isCollection 2 (some .boolean) rm_X3_isCollection Z b [.ref (b + 1), .int a1] M (some (.int v)) M') (hR : rm_X3_isCollection.frames + 1 ≤ R.frames ∧ 8 + (2 + 11) + rm_X3_isCollection.locals ≤ R.locals) (hc : cells ≤ R.cells ∧ slots ≤ R.slots) (hroom : (rest.map fun v => v.category).sum ≤ 8) (hS : va_S (A0 b) s.heap H locs) (hW : Wd Z b M H) (hdg : decode cc pc = .ok (.invokevirtual 45, 3))
    (kk : ∀ (H1 : Heap) (locs1 : List Loc), Wd Z b M' H1 → va_S (A0 b) s.heap H1 locs1 → W p l e R s m args below meth c H1 locs1 cells slots Q (F0 m (pc + 3) ls (.int v :: rest))) : W p l e R s m args below meth c H locs cells slots Q (F0 m pc ls (.int a1 :: .ref (b + 1) :: rest)) :=
  cl_go (v := (some (.int v))) (va_runVN (As := [.int a1]) (b := b + 1) ⟨C.1, C.2.1, hml, C.2.2.1, C.2.2.2.1⟩ hM ⟨va_cnB 1 C.2.2.2.1 (gN q303) rfl rfl rfl (C.2.2.2.2.2.1 _ (List.mem_append_left _ (List.mem_of_getElem? (i := 23) rfl))) (C.2.2.2.1 _ q65) (by decide +kernel) hR, C.2.2.2.1 _ q302, C.2.2.2.1 _ q1⟩ ⟨Pre.blind _ _ _ _, va_recv (q0 := 1) (ci := 3) (fs := [.ref (b + 2), .int (M 2 0)]) C.2.2.2.2.1 hW rfl ((wl_get (Z := Z) (b := b) (M := M) (k := 1) (by decide)).trans (congrArg (fun E => some (b + 1, E)) (en_1 Z b M))), fun U hU hWU => ⟨rfl, C.2.2.2.2.call hS hU hWU, by rw [hU]; exact hW⟩⟩ rfl rfl hsz rfl (lv_room hroom) hdg hc) hS kk
theorem kX4_49 {a1 : Int32} {q : Option Nat} {nL : Nat} {M' : Mem} (C : Cx p s m args c cc RX4 Z b) (hml : c.maxLocals = nL) (hsz : ls.size = nL) (hM : Ct l yX3_find cX3_find 3 (some (.object "ShelfServer$Resource")) rm_X3_find Z b [.ref (b + 1), .int a1] M (some (rR b q)) M') (hR : rm_X3_find.frames + 1 ≤ R.frames ∧ 8 + (3 + 11) + rm_X3_find.locals ≤ R.locals) (hc : cells ≤ R.cells ∧ slots ≤ R.slots) (hroom : (rest.map fun v => v.category).sum ≤ 8) (hS : va_S (A0 b) s.heap H locs) (hW : Wd Z b M H) (hdg : decode cc pc = .ok (.invokevirtual 49, 3))
    (kk : ∀ (H1 : Heap) (locs1 : List Loc), Wd Z b M' H1 → va_S (A0 b) s.heap H1 locs1 → W p l e R s m args below meth c H1 locs1 cells slots Q (F0 m (pc + 3) ls (rR b q :: rest))) : W p l e R s m args below meth c H locs cells slots Q (F0 m pc ls (.int a1 :: .ref (b + 1) :: rest)) :=
  cl_go (v := (some (rR b q))) (va_runVN (As := [.int a1]) (b := b + 1) ⟨C.1, C.2.1, hml, C.2.2.1, C.2.2.2.1⟩ hM ⟨va_cnB 1 C.2.2.2.1 (gN q311) rfl rfl rfl (C.2.2.2.2.2.1 _ (List.mem_append_left _ (List.mem_of_getElem? (i := 24) rfl))) (C.2.2.2.1 _ q65) (by decide +kernel) hR, C.2.2.2.1 _ q310, C.2.2.2.1 _ q3⟩ ⟨Pre.blind _ _ _ _, va_recv (q0 := 1) (ci := 3) (fs := [.ref (b + 2), .int (M 2 0)]) C.2.2.2.2.1 hW rfl ((wl_get (Z := Z) (b := b) (M := M) (k := 1) (by decide)).trans (congrArg (fun E => some (b + 1, E)) (en_1 Z b M))), fun U hU hWU => ⟨rfl, C.2.2.2.2.call hS hU hWU, by rw [hU]; exact hW⟩⟩ rfl rfl hsz rfl (lv_room hroom) hdg hc) hS kk
theorem kX4_53 {a1 a2 a3 : Int32} {v : Int32} {nL : Nat} {M' : Mem} (C : Cx p s m args c cc RX4 Z b) (hml : c.maxLocals = nL) (hsz : ls.size = nL) (hM : Ct l yX4_allowsWithParent cX4_allowsWithParent 4 (some .boolean) rm_X4_allowsWithParent Z b [.ref (b + 0), .int a1, .int a2, .int a3] M (some (.int v)) M') (hR : rm_X4_allowsWithParent.frames + 1 ≤ R.frames ∧ 8 + (4 + 11) + rm_X4_allowsWithParent.locals ≤ R.locals) (hc : cells ≤ R.cells ∧ slots ≤ R.slots) (hroom : (rest.map fun v => v.category).sum ≤ 8) (hS : va_S (A0 b) s.heap H locs) (hW : Wd Z b M H) (hdg : decode cc pc = .ok (.invokevirtual 53, 3))
    (kk : ∀ (H1 : Heap) (locs1 : List Loc), Wd Z b M' H1 → va_S (A0 b) s.heap H1 locs1 → W p l e R s m args below meth c H1 locs1 cells slots Q (F0 m (pc + 3) ls (.int v :: rest))) : W p l e R s m args below meth c H locs cells slots Q (F0 m pc ls (.int a3 :: .int a2 :: .int a1 :: .ref (b + 0) :: rest)) :=
  cl_go (v := (some (.int v))) (va_runV (As := [.int a1, .int a2, .int a3]) (b := b + 0) ⟨C.1, C.2.1, hml, C.2.2.1, C.2.2.2.1⟩ hM (cwV 3 C.2.2.2.1 (gV q317 q319 q5 q64 q320) rfl rfl rfl (by decide +kernel) hR) ⟨Pre.blind _ _ _ _, va_recv (q0 := 0) (ci := 4) (fs := [.ref (b + 1), .ref (b + 123), .ref (b + 155), .int (M 0 0)]) C.2.2.2.2.1 hW rfl ((wl_get (Z := Z) (b := b) (M := M) (k := 0) (by decide)).trans (congrArg (fun E => some (b + 0, E)) (en_0 Z b M))), fun U hU hWU => ⟨rfl, C.2.2.2.2.call hS hU hWU, by rw [hU]; exact hW⟩⟩ rfl rfl hsz rfl (lv_room hroom) hdg hc) hS kk
theorem kX4_60 {a1 a2 a3 : Int32} {nL : Nat} {M' : Mem} (C : Cx p s m args c cc RX4 Z b) (hml : c.maxLocals = nL) (hsz : ls.size = nL) (hM : Ct l yX3_append cX3_append 4 (none : Option Jvm.ClassFile.FieldType) rm_X3_append Z b [.ref (b + 1), .int a1, .int a2, .int a3] M none M') (hR : rm_X3_append.frames + 1 ≤ R.frames ∧ 8 + (4 + 11) + rm_X3_append.locals ≤ R.locals) (hc : cells ≤ R.cells ∧ slots ≤ R.slots) (hroom : (rest.map fun v => v.category).sum ≤ 8) (hS : va_S (A0 b) s.heap H locs) (hW : Wd Z b M H) (hdg : decode cc pc = .ok (.invokevirtual 60, 3))
    (kk : ∀ (H1 : Heap) (locs1 : List Loc), Wd Z b M' H1 → va_S (A0 b) s.heap H1 locs1 → W p l e R s m args below meth c H1 locs1 cells slots Q (F0 m (pc + 3) ls rest)) : W p l e R s m args below meth c H locs cells slots Q (F0 m pc ls (.int a3 :: .int a2 :: .int a1 :: .ref (b + 1) :: rest)) :=
  cl_go (v := none) (va_runVN (As := [.int a1, .int a2, .int a3]) (b := b + 1) ⟨C.1, C.2.1, hml, C.2.2.1, C.2.2.2.1⟩ hM ⟨va_cnB 3 C.2.2.2.1 (gN q343) rfl rfl rfl (C.2.2.2.2.2.1 _ (List.mem_append_left _ (List.mem_of_getElem? (i := 28) rfl))) (C.2.2.2.1 _ q65) (by decide +kernel) hR, C.2.2.2.1 _ q342, C.2.2.2.1 _ q10⟩ ⟨Pre.blind _ _ _ _, va_recv (q0 := 1) (ci := 3) (fs := [.ref (b + 2), .int (M 2 0)]) C.2.2.2.2.1 hW rfl ((wl_get (Z := Z) (b := b) (M := M) (k := 1) (by decide)).trans (congrArg (fun E => some (b + 1, E)) (en_1 Z b M))), fun U hU hWU => ⟨rfl, C.2.2.2.2.call hS hU hWU, by rw [hU]; exact hW⟩⟩ rfl rfl hsz rfl (lv_room hroom) hdg hc) hS kk
theorem kX4_64R {a1 a2 a3 : Int32} {nL : Nat} {M' : Mem} (C : Cx p s m args c cc RX4 Z b) (hml : c.maxLocals = nL) (hsz : ls.size = nL) (hM : Cx' l yX4_requireRange cX4_requireRange 3 (none : Option Jvm.ClassFile.FieldType) rm_X4_requireRange 1 6 Z b [.int a1, .int a2, .int a3] M (.inr none) M') (hR : rm_X4_requireRange.frames + 1 ≤ R.frames ∧ 8 + (3 + 11) + rm_X4_requireRange.locals ≤ R.locals) (hc : cells + 1 ≤ R.cells ∧ slots + 6 ≤ R.slots) (hroom : (rest.map fun v => v.category).sum ≤ 8) (hS : va_S (A0 b) s.heap H locs) (hW : Wd Z b M H) (hdg : decode cc pc = .ok (.invokestatic 64, 3))
    (kk : ∀ (H1 : Heap) (locs1 : List Loc), Wd Z b M' H1 → va_S (A0 b) s.heap H1 locs1 → W p l e R s m args below meth c H1 locs1 (cells + 1) (slots + 6) Q (F0 m (pc + 3) ls rest)) : W p l e R s m args below meth c H locs cells slots Q (F0 m pc ls (.int a3 :: .int a2 :: .int a1 :: rest)) :=
  cx_ret (v := none) (vx_runS (As := [.int a1, .int a2, .int a3]) ⟨C.1, C.2.1, hml, C.2.2.1, C.2.2.2.1⟩ hM (cwS 3 C.2.2.2.1 (gS q211 q212 q64 q213) rfl rfl rfl (by decide +kernel) hR) ⟨Pre.blind _ _ _ _, fun U hU hWU => ⟨rfl, C.2.2.2.2.call hS hU hWU, by rw [hU]; exact hW⟩⟩ rfl rfl hsz rfl (lv_room hroom) hdg hc) hS kk
theorem kX4_64T {a1 a2 a3 : Int32} {E : String} {nL : Nat} {M' : Mem} (C : Cx p s m args c cc RX4 Z b) (hml : c.maxLocals = nL) (hsz : ls.size = nL) (hM : Cx' l yX4_requireRange cX4_requireRange 3 (none : Option Jvm.ClassFile.FieldType) rm_X4_requireRange 1 6 Z b [.int a1, .int a2, .int a3] M (.inl E) M') (hR : rm_X4_requireRange.frames + 1 ≤ R.frames ∧ 8 + (3 + 11) + rm_X4_requireRange.locals ≤ R.locals) (hc : cells + 1 ≤ R.cells ∧ slots + 6 ≤ R.slots) (hroom : (rest.map fun v => v.category).sum ≤ 8) (hS : va_S (A0 b) s.heap H locs) (hW : Wd Z b M H) (hdg : decode cc pc = .ok (.invokestatic 64, 3))
    {mc2 ms2 : Nat} (ht : ∀ x ∈ c.exceptionTable.toList, False) (hlk : meth.locks = false) (h1 : cells + 1 ≤ mc2) (h2 : slots + 6 ≤ ms2) : W p l e R s m args below meth c H locs cells slots (vx_MQ below (Qx Z b (.inl E) M') (XCx Z b (.inl E) M') args s mc2 ms2 (A0 b)) (F0 m pc ls (.int a3 :: .int a2 :: .int a1 :: rest)) :=
  cx_thr (vx_runS (As := [.int a1, .int a2, .int a3]) ⟨C.1, C.2.1, hml, C.2.2.1, C.2.2.2.1⟩ hM (cwS 3 C.2.2.2.1 (gS q211 q212 q64 q213) rfl rfl rfl (by decide +kernel) hR) ⟨Pre.blind _ _ _ _, fun U hU hWU => ⟨rfl, C.2.2.2.2.call hS hU hWU, by rw [hU]; exact hW⟩⟩ rfl rfl hsz rfl (lv_room hroom) hdg hc) hS ht hlk h1 h2
theorem kX4_67 {a1 a2 a3 a4 : Int32} {v : Int32} {nL : Nat} {M' : Mem} (C : Cx p s m args c cc RX4 Z b) (hml : c.maxLocals = nL) (hsz : ls.size = nL) (hM : Ct l yX4_outcomeOfWriting cX4_outcomeOfWriting 6 (some .int) rm_X4_outcomeOfWriting Z b [.ref (b + 0), .int a1, .int a2, .int a3, .int a4] M (some (.int v)) M') (hR : rm_X4_outcomeOfWriting.frames + 1 ≤ R.frames ∧ 8 + (6 + 11) + rm_X4_outcomeOfWriting.locals ≤ R.locals) (hc : cells ≤ R.cells ∧ slots ≤ R.slots) (hroom : (rest.map fun v => v.category).sum ≤ 8) (hS : va_S (A0 b) s.heap H locs) (hW : Wd Z b M H) (hdg : decode cc pc = .ok (.invokevirtual 67, 3))
    (kk : ∀ (H1 : Heap) (locs1 : List Loc), Wd Z b M' H1 → va_S (A0 b) s.heap H1 locs1 → W p l e R s m args below meth c H1 locs1 cells slots Q (F0 m (pc + 3) ls (.int v :: rest))) : W p l e R s m args below meth c H locs cells slots Q (F0 m pc ls (.int a4 :: .int a3 :: .int a2 :: .int a1 :: .ref (b + 0) :: rest)) :=
  cl_go (v := (some (.int v))) (va_runV (As := [.int a1, .int a2, .int a3, .int a4]) (b := b + 0) ⟨C.1, C.2.1, hml, C.2.2.1, C.2.2.2.1⟩ hM (cwV 4 C.2.2.2.1 (gV q355 q357 q12 q64 q358) rfl rfl rfl (by decide +kernel) hR) ⟨Pre.blind _ _ _ _, va_recv (q0 := 0) (ci := 4) (fs := [.ref (b + 1), .ref (b + 123), .ref (b + 155), .int (M 0 0)]) C.2.2.2.2.1 hW rfl ((wl_get (Z := Z) (b := b) (M := M) (k := 0) (by decide)).trans (congrArg (fun E => some (b + 0, E)) (en_0 Z b M))), fun U hU hWU => ⟨rfl, C.2.2.2.2.call hS hU hWU, by rw [hU]; exact hW⟩⟩ rfl rfl hsz rfl (lv_room hroom) hdg hc) hS kk
theorem kX4_71 {a1 a2 : Int32} {nL : Nat} {M' : Mem} (C : Cx p s m args c cc RX4 Z b) (hml : c.maxLocals = nL) (hsz : ls.size = nL) (hM : Ct l yX4_write cX4_write 4 (none : Option Jvm.ClassFile.FieldType) rm_X4_write Z b [.ref (b + 0), .int a1, .int a2] M none M') (hR : rm_X4_write.frames + 1 ≤ R.frames ∧ 8 + (4 + 11) + rm_X4_write.locals ≤ R.locals) (hc : cells ≤ R.cells ∧ slots ≤ R.slots) (hroom : (rest.map fun v => v.category).sum ≤ 8) (hS : va_S (A0 b) s.heap H locs) (hW : Wd Z b M H) (hdg : decode cc pc = .ok (.invokevirtual 71, 3))
    (kk : ∀ (H1 : Heap) (locs1 : List Loc), Wd Z b M' H1 → va_S (A0 b) s.heap H1 locs1 → W p l e R s m args below meth c H1 locs1 cells slots Q (F0 m (pc + 3) ls rest)) : W p l e R s m args below meth c H locs cells slots Q (F0 m pc ls (.int a2 :: .int a1 :: .ref (b + 0) :: rest)) :=
  cl_go (v := none) (va_runV (As := [.int a1, .int a2]) (b := b + 0) ⟨C.1, C.2.1, hml, C.2.2.1, C.2.2.2.1⟩ hM (cwV 2 C.2.2.2.1 (gV q363 q365 q14 q64 q366) rfl rfl rfl (by decide +kernel) hR) ⟨Pre.blind _ _ _ _, va_recv (q0 := 0) (ci := 4) (fs := [.ref (b + 1), .ref (b + 123), .ref (b + 155), .int (M 0 0)]) C.2.2.2.2.1 hW rfl ((wl_get (Z := Z) (b := b) (M := M) (k := 0) (by decide)).trans (congrArg (fun E => some (b + 0, E)) (en_0 Z b M))), fun U hU hWU => ⟨rfl, C.2.2.2.2.call hS hU hWU, by rw [hU]; exact hW⟩⟩ rfl rfl hsz rfl (lv_room hroom) hdg hc) hS kk
theorem kX4_75 {a1 a2 a3 : Int32} {nL : Nat} {M' : Mem} (C : Cx p s m args c cc RX4 Z b) (hml : c.maxLocals = nL) (hsz : ls.size = nL) (hM : Ct l yX4_noteFailures cX4_noteFailures 6 (none : Option Jvm.ClassFile.FieldType) rm_X4_noteFailures Z b [.ref (b + 0), .int a1, .int a2, .int a3] M none M') (hR : rm_X4_noteFailures.frames + 1 ≤ R.frames ∧ 8 + (6 + 11) + rm_X4_noteFailures.locals ≤ R.locals) (hc : cells ≤ R.cells ∧ slots ≤ R.slots) (hroom : (rest.map fun v => v.category).sum ≤ 8) (hS : va_S (A0 b) s.heap H locs) (hW : Wd Z b M H) (hdg : decode cc pc = .ok (.invokevirtual 75, 3))
    (kk : ∀ (H1 : Heap) (locs1 : List Loc), Wd Z b M' H1 → va_S (A0 b) s.heap H1 locs1 → W p l e R s m args below meth c H1 locs1 cells slots Q (F0 m (pc + 3) ls rest)) : W p l e R s m args below meth c H locs cells slots Q (F0 m pc ls (.int a3 :: .int a2 :: .int a1 :: .ref (b + 0) :: rest)) :=
  cl_go (v := none) (va_runV (As := [.int a1, .int a2, .int a3]) (b := b + 0) ⟨C.1, C.2.1, hml, C.2.2.1, C.2.2.2.1⟩ hM (cwV 3 C.2.2.2.1 (gV q374 q376 q15 q64 q377) rfl rfl rfl (by decide +kernel) hR) ⟨Pre.blind _ _ _ _, va_recv (q0 := 0) (ci := 4) (fs := [.ref (b + 1), .ref (b + 123), .ref (b + 155), .int (M 0 0)]) C.2.2.2.2.1 hW rfl ((wl_get (Z := Z) (b := b) (M := M) (k := 0) (by decide)).trans (congrArg (fun E => some (b + 0, E)) (en_0 Z b M))), fun U hU hWU => ⟨rfl, C.2.2.2.2.call hS hU hWU, by rw [hU]; exact hW⟩⟩ rfl rfl hsz rfl (lv_room hroom) hdg hc) hS kk
theorem kX4_78 {a1 : Int32} {nL : Nat} {M' : Mem} (C : Cx p s m args c cc RX4 Z b) (hml : c.maxLocals = nL) (hsz : ls.size = nL) (hM : Ct l yX3_markTree cX3_markTree 3 (none : Option Jvm.ClassFile.FieldType) rm_X3_markTree Z b [.ref (b + 1), .int a1] M none M') (hR : rm_X3_markTree.frames + 1 ≤ R.frames ∧ 8 + (3 + 11) + rm_X3_markTree.locals ≤ R.locals) (hc : cells ≤ R.cells ∧ slots ≤ R.slots) (hroom : (rest.map fun v => v.category).sum ≤ 8) (hS : va_S (A0 b) s.heap H locs) (hW : Wd Z b M H) (hdg : decode cc pc = .ok (.invokevirtual 78, 3))
    (kk : ∀ (H1 : Heap) (locs1 : List Loc), Wd Z b M' H1 → va_S (A0 b) s.heap H1 locs1 → W p l e R s m args below meth c H1 locs1 cells slots Q (F0 m (pc + 3) ls rest)) : W p l e R s m args below meth c H locs cells slots Q (F0 m pc ls (.int a1 :: .ref (b + 1) :: rest)) :=
  cl_go (v := none) (va_runVN (As := [.int a1]) (b := b + 1) ⟨C.1, C.2.1, hml, C.2.2.1, C.2.2.2.1⟩ hM ⟨va_cnB 1 C.2.2.2.1 (gN q386) rfl rfl rfl (C.2.2.2.2.2.1 _ (List.mem_append_left _ (List.mem_of_getElem? (i := 31) rfl))) (C.2.2.2.1 _ q65) (by decide +kernel) hR, C.2.2.2.1 _ q385, C.2.2.2.1 _ q17⟩ ⟨Pre.blind _ _ _ _, va_recv (q0 := 1) (ci := 3) (fs := [.ref (b + 2), .int (M 2 0)]) C.2.2.2.2.1 hW rfl ((wl_get (Z := Z) (b := b) (M := M) (k := 1) (by decide)).trans (congrArg (fun E => some (b + 1, E)) (en_1 Z b M))), fun U hU hWU => ⟨rfl, C.2.2.2.2.call hS hU hWU, by rw [hU]; exact hW⟩⟩ rfl rfl hsz rfl (lv_room hroom) hdg hc) hS kk
theorem kX4_81 {nL : Nat} {M' : Mem} (C : Cx p s m args c cc RX4 Z b) (hml : c.maxLocals = nL) (hsz : ls.size = nL) (hM : Ct l yX4_spareFailures cX4_spareFailures 2 (none : Option Jvm.ClassFile.FieldType) rm_X4_spareFailures Z b [.ref (b + 0)] M none M') (hR : rm_X4_spareFailures.frames + 1 ≤ R.frames ∧ 8 + (2 + 11) + rm_X4_spareFailures.locals ≤ R.locals) (hc : cells ≤ R.cells ∧ slots ≤ R.slots) (hroom : (rest.map fun v => v.category).sum ≤ 8) (hS : va_S (A0 b) s.heap H locs) (hW : Wd Z b M H) (hdg : decode cc pc = .ok (.invokevirtual 81, 3))
    (kk : ∀ (H1 : Heap) (locs1 : List Loc), Wd Z b M' H1 → va_S (A0 b) s.heap H1 locs1 → W p l e R s m args below meth c H1 locs1 cells slots Q (F0 m (pc + 3) ls rest)) : W p l e R s m args below meth c H locs cells slots Q (F0 m pc ls (.ref (b + 0) :: rest)) :=
  cl_go (v := none) (va_runV (As := []) (b := b + 0) ⟨C.1, C.2.1, hml, C.2.2.1, C.2.2.2.1⟩ hM (cwV 0 C.2.2.2.1 (gV q390 q392 q18 q64 q393) rfl rfl rfl (by decide +kernel) hR) ⟨Pre.blind _ _ _ _, va_recv (q0 := 0) (ci := 4) (fs := [.ref (b + 1), .ref (b + 123), .ref (b + 155), .int (M 0 0)]) C.2.2.2.2.1 hW rfl ((wl_get (Z := Z) (b := b) (M := M) (k := 0) (by decide)).trans (congrArg (fun E => some (b + 0, E)) (en_0 Z b M))), fun U hU hWU => ⟨rfl, C.2.2.2.2.call hS hU hWU, by rw [hU]; exact hW⟩⟩ rfl rfl hsz rfl (lv_room hroom) hdg hc) hS kk
theorem kX4_84 {nL : Nat} {M' : Mem} (C : Cx p s m args c cc RX4 Z b) (hml : c.maxLocals = nL) (hsz : ls.size = nL) (hM : Ct l yX4_removeMarked cX4_removeMarked 2 (none : Option Jvm.ClassFile.FieldType) rm_X4_removeMarked Z b [.ref (b + 0)] M none M') (hR : rm_X4_removeMarked.frames + 1 ≤ R.frames ∧ 8 + (2 + 11) + rm_X4_removeMarked.locals ≤ R.locals) (hc : cells ≤ R.cells ∧ slots ≤ R.slots) (hroom : (rest.map fun v => v.category).sum ≤ 8) (hS : va_S (A0 b) s.heap H locs) (hW : Wd Z b M H) (hdg : decode cc pc = .ok (.invokevirtual 84, 3))
    (kk : ∀ (H1 : Heap) (locs1 : List Loc), Wd Z b M' H1 → va_S (A0 b) s.heap H1 locs1 → W p l e R s m args below meth c H1 locs1 cells slots Q (F0 m (pc + 3) ls rest)) : W p l e R s m args below meth c H locs cells slots Q (F0 m pc ls (.ref (b + 0) :: rest)) :=
  cl_go (v := none) (va_runV (As := []) (b := b + 0) ⟨C.1, C.2.1, hml, C.2.2.1, C.2.2.2.1⟩ hM (cwV 0 C.2.2.2.1 (gV q398 q400 q20 q64 q401) rfl rfl rfl (by decide +kernel) hR) ⟨Pre.blind _ _ _ _, va_recv (q0 := 0) (ci := 4) (fs := [.ref (b + 1), .ref (b + 123), .ref (b + 155), .int (M 0 0)]) C.2.2.2.2.1 hW rfl ((wl_get (Z := Z) (b := b) (M := M) (k := 0) (by decide)).trans (congrArg (fun E => some (b + 0, E)) (en_0 Z b M))), fun U hU hWU => ⟨rfl, C.2.2.2.2.call hS hU hWU, by rw [hU]; exact hW⟩⟩ rfl rfl hsz rfl (lv_room hroom) hdg hc) hS kk
theorem kX4_94R {a1 a2 a3 a4 : Int32} {nL : Nat} {M' : Mem} (C : Cx p s m args c cc RX4 Z b) (hml : c.maxLocals = nL) (hsz : ls.size = nL) (hM : Cx' l yX4_requireTransfer cX4_requireTransfer 4 (none : Option Jvm.ClassFile.FieldType) rm_X4_requireTransfer 7 42 Z b [.int a1, .int a2, .int a3, .int a4] M (.inr none) M') (hR : rm_X4_requireTransfer.frames + 1 ≤ R.frames ∧ 8 + (4 + 11) + rm_X4_requireTransfer.locals ≤ R.locals) (hc : cells + 7 ≤ R.cells ∧ slots + 42 ≤ R.slots) (hroom : (rest.map fun v => v.category).sum ≤ 8) (hS : va_S (A0 b) s.heap H locs) (hW : Wd Z b M H) (hdg : decode cc pc = .ok (.invokestatic 94, 3))
    (kk : ∀ (H1 : Heap) (locs1 : List Loc), Wd Z b M' H1 → va_S (A0 b) s.heap H1 locs1 → W p l e R s m args below meth c H1 locs1 (cells + 7) (slots + 42) Q (F0 m (pc + 3) ls rest)) : W p l e R s m args below meth c H locs cells slots Q (F0 m pc ls (.int a4 :: .int a3 :: .int a2 :: .int a1 :: rest)) :=
  cx_ret (v := none) (vx_runS (As := [.int a1, .int a2, .int a3, .int a4]) ⟨C.1, C.2.1, hml, C.2.2.1, C.2.2.2.1⟩ hM (cwS 4 C.2.2.2.1 (gS q441 q442 q64 q443) rfl rfl rfl (by decide +kernel) hR) ⟨Pre.blind _ _ _ _, fun U hU hWU => ⟨rfl, C.2.2.2.2.call hS hU hWU, by rw [hU]; exact hW⟩⟩ rfl rfl hsz rfl (lv_room hroom) hdg hc) hS kk
theorem kX4_94T {a1 a2 a3 a4 : Int32} {E : String} {nL : Nat} {M' : Mem} (C : Cx p s m args c cc RX4 Z b) (hml : c.maxLocals = nL) (hsz : ls.size = nL) (hM : Cx' l yX4_requireTransfer cX4_requireTransfer 4 (none : Option Jvm.ClassFile.FieldType) rm_X4_requireTransfer 7 42 Z b [.int a1, .int a2, .int a3, .int a4] M (.inl E) M') (hR : rm_X4_requireTransfer.frames + 1 ≤ R.frames ∧ 8 + (4 + 11) + rm_X4_requireTransfer.locals ≤ R.locals) (hc : cells + 7 ≤ R.cells ∧ slots + 42 ≤ R.slots) (hroom : (rest.map fun v => v.category).sum ≤ 8) (hS : va_S (A0 b) s.heap H locs) (hW : Wd Z b M H) (hdg : decode cc pc = .ok (.invokestatic 94, 3))
    {mc2 ms2 : Nat} (ht : ∀ x ∈ c.exceptionTable.toList, False) (hlk : meth.locks = false) (h1 : cells + 7 ≤ mc2) (h2 : slots + 42 ≤ ms2) : W p l e R s m args below meth c H locs cells slots (vx_MQ below (Qx Z b (.inl E) M') (XCx Z b (.inl E) M') args s mc2 ms2 (A0 b)) (F0 m pc ls (.int a4 :: .int a3 :: .int a2 :: .int a1 :: rest)) :=
  cx_thr (vx_runS (As := [.int a1, .int a2, .int a3, .int a4]) ⟨C.1, C.2.1, hml, C.2.2.1, C.2.2.2.1⟩ hM (cwS 4 C.2.2.2.1 (gS q441 q442 q64 q443) rfl rfl rfl (by decide +kernel) hR) ⟨Pre.blind _ _ _ _, fun U hU hWU => ⟨rfl, C.2.2.2.2.call hS hU hWU, by rw [hU]; exact hW⟩⟩ rfl rfl hsz rfl (lv_room hroom) hdg hc) hS ht hlk h1 h2
theorem kX4_98 {a1 a2 a3 a4 a5 : Int32} {v : Int32} {nL : Nat} {M' : Mem} (C : Cx p s m args c cc RX4 Z b) (hml : c.maxLocals = nL) (hsz : ls.size = nL) (hM : Ct l yX4_outcomeOfTarget cX4_outcomeOfTarget 6 (some .int) rm_X4_outcomeOfTarget Z b [.ref (b + 0), .int a1, .int a2, .int a3, .int a4, .int a5] M (some (.int v)) M') (hR : rm_X4_outcomeOfTarget.frames + 1 ≤ R.frames ∧ 8 + (6 + 11) + rm_X4_outcomeOfTarget.locals ≤ R.locals) (hc : cells ≤ R.cells ∧ slots ≤ R.slots) (hroom : (rest.map fun v => v.category).sum ≤ 8) (hS : va_S (A0 b) s.heap H locs) (hW : Wd Z b M H) (hdg : decode cc pc = .ok (.invokevirtual 98, 3))
    (kk : ∀ (H1 : Heap) (locs1 : List Loc), Wd Z b M' H1 → va_S (A0 b) s.heap H1 locs1 → W p l e R s m args below meth c H1 locs1 cells slots Q (F0 m (pc + 3) ls (.int v :: rest))) : W p l e R s m args below meth c H locs cells slots Q (F0 m pc ls (.int a5 :: .int a4 :: .int a3 :: .int a2 :: .int a1 :: .ref (b + 0) :: rest)) :=
  cl_go (v := (some (.int v))) (va_runV (As := [.int a1, .int a2, .int a3, .int a4, .int a5]) (b := b + 0) ⟨C.1, C.2.1, hml, C.2.2.1, C.2.2.2.1⟩ hM (cwV 5 C.2.2.2.1 (gV q446 q448 q23 q64 q449) rfl rfl rfl (by decide +kernel) hR) ⟨Pre.blind _ _ _ _, va_recv (q0 := 0) (ci := 4) (fs := [.ref (b + 1), .ref (b + 123), .ref (b + 155), .int (M 0 0)]) C.2.2.2.2.1 hW rfl ((wl_get (Z := Z) (b := b) (M := M) (k := 0) (by decide)).trans (congrArg (fun E => some (b + 0, E)) (en_0 Z b M))), fun U hU hWU => ⟨rfl, C.2.2.2.2.call hS hU hWU, by rw [hU]; exact hW⟩⟩ rfl rfl hsz rfl (lv_room hroom) hdg hc) hS kk
theorem kX4_102 {a1 : Int32} {v : Int32} {nL : Nat} {M' : Mem} (C : Cx p s m args c cc RX4 Z b) (hml : c.maxLocals = nL) (hsz : ls.size = nL) (hM : Ct l yX3_treeSize cX3_treeSize 4 (some .int) rm_X3_treeSize Z b [.ref (b + 1), .int a1] M (some (.int v)) M') (hR : rm_X3_treeSize.frames + 1 ≤ R.frames ∧ 8 + (4 + 11) + rm_X3_treeSize.locals ≤ R.locals) (hc : cells ≤ R.cells ∧ slots ≤ R.slots) (hroom : (rest.map fun v => v.category).sum ≤ 8) (hS : va_S (A0 b) s.heap H locs) (hW : Wd Z b M H) (hdg : decode cc pc = .ok (.invokevirtual 102, 3))
    (kk : ∀ (H1 : Heap) (locs1 : List Loc), Wd Z b M' H1 → va_S (A0 b) s.heap H1 locs1 → W p l e R s m args below meth c H1 locs1 cells slots Q (F0 m (pc + 3) ls (.int v :: rest))) : W p l e R s m args below meth c H locs cells slots Q (F0 m pc ls (.int a1 :: .ref (b + 1) :: rest)) :=
  cl_go (v := (some (.int v))) (va_runVN (As := [.int a1]) (b := b + 1) ⟨C.1, C.2.1, hml, C.2.2.1, C.2.2.2.1⟩ hM ⟨va_cnB 1 C.2.2.2.1 (gN q464) rfl rfl rfl (C.2.2.2.2.2.1 _ (List.mem_append_left _ (List.mem_of_getElem? (i := 38) rfl))) (C.2.2.2.1 _ q65) (by decide +kernel) hR, C.2.2.2.1 _ q463, C.2.2.2.1 _ q26⟩ ⟨Pre.blind _ _ _ _, va_recv (q0 := 1) (ci := 3) (fs := [.ref (b + 2), .int (M 2 0)]) C.2.2.2.2.1 hW rfl ((wl_get (Z := Z) (b := b) (M := M) (k := 1) (by decide)).trans (congrArg (fun E => some (b + 1, E)) (en_1 Z b M))), fun U hU hWU => ⟨rfl, C.2.2.2.2.call hS hU hWU, by rw [hU]; exact hW⟩⟩ rfl rfl hsz rfl (lv_room hroom) hdg hc) hS kk
theorem kX4_105 {a1 : Int32} {nL : Nat} {M' : Mem} (C : Cx p s m args c cc RX4 Z b) (hml : c.maxLocals = nL) (hsz : ls.size = nL) (hM : Ct l yX4_removeTree cX4_removeTree 2 (none : Option Jvm.ClassFile.FieldType) rm_X4_removeTree Z b [.ref (b + 0), .int a1] M none M') (hR : rm_X4_removeTree.frames + 1 ≤ R.frames ∧ 8 + (2 + 11) + rm_X4_removeTree.locals ≤ R.locals) (hc : cells ≤ R.cells ∧ slots ≤ R.slots) (hroom : (rest.map fun v => v.category).sum ≤ 8) (hS : va_S (A0 b) s.heap H locs) (hW : Wd Z b M H) (hdg : decode cc pc = .ok (.invokevirtual 105, 3))
    (kk : ∀ (H1 : Heap) (locs1 : List Loc), Wd Z b M' H1 → va_S (A0 b) s.heap H1 locs1 → W p l e R s m args below meth c H1 locs1 cells slots Q (F0 m (pc + 3) ls rest)) : W p l e R s m args below meth c H locs cells slots Q (F0 m pc ls (.int a1 :: .ref (b + 0) :: rest)) :=
  cl_go (v := none) (va_runV (As := [.int a1]) (b := b + 0) ⟨C.1, C.2.1, hml, C.2.2.1, C.2.2.2.1⟩ hM (cwV 1 C.2.2.2.1 (gV q465 q467 q27 q64 q468) rfl rfl rfl (by decide +kernel) hR) ⟨Pre.blind _ _ _ _, va_recv (q0 := 0) (ci := 4) (fs := [.ref (b + 1), .ref (b + 123), .ref (b + 155), .int (M 0 0)]) C.2.2.2.2.1 hW rfl ((wl_get (Z := Z) (b := b) (M := M) (k := 0) (by decide)).trans (congrArg (fun E => some (b + 0, E)) (en_0 Z b M))), fun U hU hWU => ⟨rfl, C.2.2.2.2.call hS hU hWU, by rw [hU]; exact hW⟩⟩ rfl rfl hsz rfl (lv_room hroom) hdg hc) hS kk
theorem kX4_108 {a1 a2 : Int32} {nL : Nat} {M' : Mem} (C : Cx p s m args c cc RX4 Z b) (hml : c.maxLocals = nL) (hsz : ls.size = nL) (hM : Ct l yX3_appendCopyOfTree cX3_appendCopyOfTree 6 (none : Option Jvm.ClassFile.FieldType) rm_X3_appendCopyOfTree Z b [.ref (b + 1), .int a1, .int a2] M none M') (hR : rm_X3_appendCopyOfTree.frames + 1 ≤ R.frames ∧ 8 + (6 + 11) + rm_X3_appendCopyOfTree.locals ≤ R.locals) (hc : cells ≤ R.cells ∧ slots ≤ R.slots) (hroom : (rest.map fun v => v.category).sum ≤ 8) (hS : va_S (A0 b) s.heap H locs) (hW : Wd Z b M H) (hdg : decode cc pc = .ok (.invokevirtual 108, 3))
    (kk : ∀ (H1 : Heap) (locs1 : List Loc), Wd Z b M' H1 → va_S (A0 b) s.heap H1 locs1 → W p l e R s m args below meth c H1 locs1 cells slots Q (F0 m (pc + 3) ls rest)) : W p l e R s m args below meth c H locs cells slots Q (F0 m pc ls (.int a2 :: .int a1 :: .ref (b + 1) :: rest)) :=
  cl_go (v := none) (va_runVN (As := [.int a1, .int a2]) (b := b + 1) ⟨C.1, C.2.1, hml, C.2.2.1, C.2.2.2.1⟩ hM ⟨va_cnB 2 C.2.2.2.1 (gN q472) rfl rfl rfl (C.2.2.2.2.2.1 _ (List.mem_append_left _ (List.mem_of_getElem? (i := 39) rfl))) (C.2.2.2.1 _ q65) (by decide +kernel) hR, C.2.2.2.1 _ q471, C.2.2.2.1 _ q28⟩ ⟨Pre.blind _ _ _ _, va_recv (q0 := 1) (ci := 3) (fs := [.ref (b + 2), .int (M 2 0)]) C.2.2.2.2.1 hW rfl ((wl_get (Z := Z) (b := b) (M := M) (k := 1) (by decide)).trans (congrArg (fun E => some (b + 1, E)) (en_1 Z b M))), fun U hU hWU => ⟨rfl, C.2.2.2.2.call hS hU hWU, by rw [hU]; exact hW⟩⟩ rfl rfl hsz rfl (lv_room hroom) hdg hc) hS kk
theorem kX4_111 {a1 a2 a3 : Int32} {v : Int32} {nL : Nat} {M' : Mem} (C : Cx p s m args c cc RX4 Z b) (hml : c.maxLocals = nL) (hsz : ls.size = nL) (hM : Ct l yX1_allows cX1_allows 7 (some .boolean) rm_X1_allows Z b [.ref (b + 123), .int a1, .int a2, .int a3] M (some (.int v)) M') (hR : rm_X1_allows.frames + 1 ≤ R.frames ∧ 8 + (7 + 11) + rm_X1_allows.locals ≤ R.locals) (hc : cells ≤ R.cells ∧ slots ≤ R.slots) (hroom : (rest.map fun v => v.category).sum ≤ 8) (hS : va_S (A0 b) s.heap H locs) (hW : Wd Z b M H) (hdg : decode cc pc = .ok (.invokevirtual 111, 3))
    (kk : ∀ (H1 : Heap) (locs1 : List Loc), Wd Z b M' H1 → va_S (A0 b) s.heap H1 locs1 → W p l e R s m args below meth c H1 locs1 cells slots Q (F0 m (pc + 3) ls (.int v :: rest))) : W p l e R s m args below meth c H locs cells slots Q (F0 m pc ls (.int a3 :: .int a2 :: .int a1 :: .ref (b + 123) :: rest)) :=
  cl_go (v := (some (.int v))) (va_runVN (As := [.int a1, .int a2, .int a3]) (b := b + 123) ⟨C.1, C.2.1, hml, C.2.2.1, C.2.2.2.1⟩ hM ⟨va_cnB 3 C.2.2.2.1 (gN q324) rfl rfl rfl (C.2.2.2.2.2.1 _ (List.mem_append_left _ (List.mem_of_getElem? (i := 25) rfl))) (C.2.2.2.1 _ q67) (by decide +kernel) hR, C.2.2.2.1 _ q323, C.2.2.2.1 _ q6⟩ ⟨Pre.blind _ _ _ _, va_recv (q0 := 123) (ci := 1) (fs := [.ref (b + 124), .int (M 10 0), .int (M 11 0)]) C.2.2.2.2.1 hW rfl ((wl_get (Z := Z) (b := b) (M := M) (k := 123) (by decide)).trans (congrArg (fun E => some (b + 123, E)) (en_123 Z b M))), fun U hU hWU => ⟨rfl, C.2.2.2.2.call hS hU hWU, by rw [hU]; exact hW⟩⟩ rfl rfl hsz rfl (lv_room hroom) hdg hc) hS kk
theorem kX4_114 {a1 a2 a3 : Int32} {v : Int32} {nL : Nat} {M' : Mem} (C : Cx p s m args c cc RX4 Z b) (hml : c.maxLocals = nL) (hsz : ls.size = nL) (hM : Ct l yX4_allowsTree cX4_allowsTree 6 (some .boolean) rm_X4_allowsTree Z b [.ref (b + 0), .int a1, .int a2, .int a3] M (some (.int v)) M') (hR : rm_X4_allowsTree.frames + 1 ≤ R.frames ∧ 8 + (6 + 11) + rm_X4_allowsTree.locals ≤ R.locals) (hc : cells ≤ R.cells ∧ slots ≤ R.slots) (hroom : (rest.map fun v => v.category).sum ≤ 8) (hS : va_S (A0 b) s.heap H locs) (hW : Wd Z b M H) (hdg : decode cc pc = .ok (.invokevirtual 114, 3))
    (kk : ∀ (H1 : Heap) (locs1 : List Loc), Wd Z b M' H1 → va_S (A0 b) s.heap H1 locs1 → W p l e R s m args below meth c H1 locs1 cells slots Q (F0 m (pc + 3) ls (.int v :: rest))) : W p l e R s m args below meth c H locs cells slots Q (F0 m pc ls (.int a3 :: .int a2 :: .int a1 :: .ref (b + 0) :: rest)) :=
  cl_go (v := (some (.int v))) (va_runV (As := [.int a1, .int a2, .int a3]) (b := b + 0) ⟨C.1, C.2.1, hml, C.2.2.1, C.2.2.2.1⟩ hM (cwV 3 C.2.2.2.1 (gV q457 q459 q25 q64 q460) rfl rfl rfl (by decide +kernel) hR) ⟨Pre.blind _ _ _ _, va_recv (q0 := 0) (ci := 4) (fs := [.ref (b + 1), .ref (b + 123), .ref (b + 155), .int (M 0 0)]) C.2.2.2.2.1 hW rfl ((wl_get (Z := Z) (b := b) (M := M) (k := 0) (by decide)).trans (congrArg (fun E => some (b + 0, E)) (en_0 Z b M))), fun U hU hWU => ⟨rfl, C.2.2.2.2.call hS hU hWU, by rw [hU]; exact hW⟩⟩ rfl rfl hsz rfl (lv_room hroom) hdg hc) hS kk
theorem kX4_117 {a1 : Int32} {nL : Nat} {M' : Mem} (C : Cx p s m args c cc RX4 Z b) (hml : c.maxLocals = nL) (hsz : ls.size = nL) (hM : Ct l yX4_dropLocksOfTree cX4_dropLocksOfTree 3 (none : Option Jvm.ClassFile.FieldType) rm_X4_dropLocksOfTree Z b [.ref (b + 0), .int a1] M none M') (hR : rm_X4_dropLocksOfTree.frames + 1 ≤ R.frames ∧ 8 + (3 + 11) + rm_X4_dropLocksOfTree.locals ≤ R.locals) (hc : cells ≤ R.cells ∧ slots ≤ R.slots) (hroom : (rest.map fun v => v.category).sum ≤ 8) (hS : va_S (A0 b) s.heap H locs) (hW : Wd Z b M H) (hdg : decode cc pc = .ok (.invokevirtual 117, 3))
    (kk : ∀ (H1 : Heap) (locs1 : List Loc), Wd Z b M' H1 → va_S (A0 b) s.heap H1 locs1 → W p l e R s m args below meth c H1 locs1 cells slots Q (F0 m (pc + 3) ls rest)) : W p l e R s m args below meth c H locs cells slots Q (F0 m pc ls (.int a1 :: .ref (b + 0) :: rest)) :=
  cl_go (v := none) (va_runV (As := [.int a1]) (b := b + 0) ⟨C.1, C.2.1, hml, C.2.2.1, C.2.2.2.1⟩ hM (cwV 1 C.2.2.2.1 (gV q481 q483 q29 q64 q484) rfl rfl rfl (by decide +kernel) hR) ⟨Pre.blind _ _ _ _, va_recv (q0 := 0) (ci := 4) (fs := [.ref (b + 1), .ref (b + 123), .ref (b + 155), .int (M 0 0)]) C.2.2.2.2.1 hW rfl ((wl_get (Z := Z) (b := b) (M := M) (k := 0) (by decide)).trans (congrArg (fun E => some (b + 0, E)) (en_0 Z b M))), fun U hU hWU => ⟨rfl, C.2.2.2.2.call hS hU hWU, by rw [hU]; exact hW⟩⟩ rfl rfl hsz rfl (lv_room hroom) hdg hc) hS kk
theorem kX4_120 {a1 a2 : Int32} {nL : Nat} {M' : Mem} (C : Cx p s m args c cc RX4 Z b) (hml : c.maxLocals = nL) (hsz : ls.size = nL) (hM : Ct l yX3_renameTree cX3_renameTree 4 (none : Option Jvm.ClassFile.FieldType) rm_X3_renameTree Z b [.ref (b + 1), .int a1, .int a2] M none M') (hR : rm_X3_renameTree.frames + 1 ≤ R.frames ∧ 8 + (4 + 11) + rm_X3_renameTree.locals ≤ R.locals) (hc : cells ≤ R.cells ∧ slots ≤ R.slots) (hroom : (rest.map fun v => v.category).sum ≤ 8) (hS : va_S (A0 b) s.heap H locs) (hW : Wd Z b M H) (hdg : decode cc pc = .ok (.invokevirtual 120, 3))
    (kk : ∀ (H1 : Heap) (locs1 : List Loc), Wd Z b M' H1 → va_S (A0 b) s.heap H1 locs1 → W p l e R s m args below meth c H1 locs1 cells slots Q (F0 m (pc + 3) ls rest)) : W p l e R s m args below meth c H locs cells slots Q (F0 m pc ls (.int a2 :: .int a1 :: .ref (b + 1) :: rest)) :=
  cl_go (v := none) (va_runVN (As := [.int a1, .int a2]) (b := b + 1) ⟨C.1, C.2.1, hml, C.2.2.1, C.2.2.2.1⟩ hM ⟨va_cnB 2 C.2.2.2.1 (gN q488) rfl rfl rfl (C.2.2.2.2.2.1 _ (List.mem_append_left _ (List.mem_of_getElem? (i := 40) rfl))) (C.2.2.2.1 _ q65) (by decide +kernel) hR, C.2.2.2.1 _ q487, C.2.2.2.1 _ q30⟩ ⟨Pre.blind _ _ _ _, va_recv (q0 := 1) (ci := 3) (fs := [.ref (b + 2), .int (M 2 0)]) C.2.2.2.2.1 hW rfl ((wl_get (Z := Z) (b := b) (M := M) (k := 1) (by decide)).trans (congrArg (fun E => some (b + 1, E)) (en_1 Z b M))), fun U hU hWU => ⟨rfl, C.2.2.2.2.call hS hU hWU, by rw [hU]; exact hW⟩⟩ rfl rfl hsz rfl (lv_room hroom) hdg hc) hS kk
theorem kX4_123R {a1 : Int32} {nL : Nat} {M' : Mem} (C : Cx p s m args c cc RX4 Z b) (hml : c.maxLocals = nL) (hsz : ls.size = nL) (hM : Cx' l yX4_requirePath cX4_requirePath 1 (none : Option Jvm.ClassFile.FieldType) rm_X4_requirePath 1 6 Z b [.int a1] M (.inr none) M') (hR : rm_X4_requirePath.frames + 1 ≤ R.frames ∧ 8 + (1 + 11) + rm_X4_requirePath.locals ≤ R.locals) (hc : cells + 1 ≤ R.cells ∧ slots + 6 ≤ R.slots) (hroom : (rest.map fun v => v.category).sum ≤ 8) (hS : va_S (A0 b) s.heap H locs) (hW : Wd Z b M H) (hdg : decode cc pc = .ok (.invokestatic 123, 3))
    (kk : ∀ (H1 : Heap) (locs1 : List Loc), Wd Z b M' H1 → va_S (A0 b) s.heap H1 locs1 → W p l e R s m args below meth c H1 locs1 (cells + 1) (slots + 6) Q (F0 m (pc + 3) ls rest)) : W p l e R s m args below meth c H locs cells slots Q (F0 m pc ls (.int a1 :: rest)) :=
  cx_ret (v := none) (vx_runS (As := [.int a1]) ⟨C.1, C.2.1, hml, C.2.2.1, C.2.2.2.1⟩ hM (cwS 1 C.2.2.2.1 (gS q285 q286 q64 q287) rfl rfl rfl (by decide +kernel) hR) ⟨Pre.blind _ _ _ _, fun U hU hWU => ⟨rfl, C.2.2.2.2.call hS hU hWU, by rw [hU]; exact hW⟩⟩ rfl rfl hsz rfl (lv_room hroom) hdg hc) hS kk
theorem kX4_123T {a1 : Int32} {E : String} {nL : Nat} {M' : Mem} (C : Cx p s m args c cc RX4 Z b) (hml : c.maxLocals = nL) (hsz : ls.size = nL) (hM : Cx' l yX4_requirePath cX4_requirePath 1 (none : Option Jvm.ClassFile.FieldType) rm_X4_requirePath 1 6 Z b [.int a1] M (.inl E) M') (hR : rm_X4_requirePath.frames + 1 ≤ R.frames ∧ 8 + (1 + 11) + rm_X4_requirePath.locals ≤ R.locals) (hc : cells + 1 ≤ R.cells ∧ slots + 6 ≤ R.slots) (hroom : (rest.map fun v => v.category).sum ≤ 8) (hS : va_S (A0 b) s.heap H locs) (hW : Wd Z b M H) (hdg : decode cc pc = .ok (.invokestatic 123, 3))
    {mc2 ms2 : Nat} (ht : ∀ x ∈ c.exceptionTable.toList, False) (hlk : meth.locks = false) (h1 : cells + 1 ≤ mc2) (h2 : slots + 6 ≤ ms2) : W p l e R s m args below meth c H locs cells slots (vx_MQ below (Qx Z b (.inl E) M') (XCx Z b (.inl E) M') args s mc2 ms2 (A0 b)) (F0 m pc ls (.int a1 :: rest)) :=
  cx_thr (vx_runS (As := [.int a1]) ⟨C.1, C.2.1, hml, C.2.2.1, C.2.2.2.1⟩ hM (cwS 1 C.2.2.2.1 (gS q285 q286 q64 q287) rfl rfl rfl (by decide +kernel) hR) ⟨Pre.blind _ _ _ _, fun U hU hWU => ⟨rfl, C.2.2.2.2.call hS hU hWU, by rw [hU]; exact hW⟩⟩ rfl rfl hsz rfl (lv_room hroom) hdg hc) hS ht hlk h1 h2
theorem kX4_126 {a1 : Int32} {v : Int32} {nL : Nat} {M' : Mem} (C : Cx p s m args c cc RX4 Z b) (hml : c.maxLocals = nL) (hsz : ls.size = nL) (hM : Ct l yX3_kindAt cX3_kindAt 3 (some .int) rm_X3_kindAt Z b [.ref (b + 1), .int a1] M (some (.int v)) M') (hR : rm_X3_kindAt.frames + 1 ≤ R.frames ∧ 8 + (3 + 11) + rm_X3_kindAt.locals ≤ R.locals) (hc : cells ≤ R.cells ∧ slots ≤ R.slots) (hroom : (rest.map fun v => v.category).sum ≤ 8) (hS : va_S (A0 b) s.heap H locs) (hW : Wd Z b M H) (hdg : decode cc pc = .ok (.invokevirtual 126, 3))
    (kk : ∀ (H1 : Heap) (locs1 : List Loc), Wd Z b M' H1 → va_S (A0 b) s.heap H1 locs1 → W p l e R s m args below meth c H1 locs1 cells slots Q (F0 m (pc + 3) ls (.int v :: rest))) : W p l e R s m args below meth c H locs cells slots Q (F0 m pc ls (.int a1 :: .ref (b + 1) :: rest)) :=
  cl_go (v := (some (.int v))) (va_runVN (As := [.int a1]) (b := b + 1) ⟨C.1, C.2.1, hml, C.2.2.1, C.2.2.2.1⟩ hM ⟨va_cnB 1 C.2.2.2.1 (gN q307) rfl rfl rfl (C.2.2.2.2.2.1 _ (List.mem_append_left _ (List.mem_of_getElem? (i := 42) rfl))) (C.2.2.2.1 _ q65) (by decide +kernel) hR, C.2.2.2.1 _ q306, C.2.2.2.1 _ q2⟩ ⟨Pre.blind _ _ _ _, va_recv (q0 := 1) (ci := 3) (fs := [.ref (b + 2), .int (M 2 0)]) C.2.2.2.2.1 hW rfl ((wl_get (Z := Z) (b := b) (M := M) (k := 1) (by decide)).trans (congrArg (fun E => some (b + 1, E)) (en_1 Z b M))), fun U hU hWU => ⟨rfl, C.2.2.2.2.call hS hU hWU, by rw [hU]; exact hW⟩⟩ rfl rfl hsz rfl (lv_room hroom) hdg hc) hS kk
theorem kX4_129 {a1 : Int32} {q : Option Nat} {nL : Nat} {M' : Mem} (C : Cx p s m args c cc RX4 Z b) (hml : c.maxLocals = nL) (hsz : ls.size = nL) (hM : Ct l yX3_findFile cX3_findFile 3 (some (.object "ShelfServer$Resource")) rm_X3_findFile Z b [.ref (b + 1), .int a1] M (some (rR b q)) M') (hR : rm_X3_findFile.frames + 1 ≤ R.frames ∧ 8 + (3 + 11) + rm_X3_findFile.locals ≤ R.locals) (hc : cells ≤ R.cells ∧ slots ≤ R.slots) (hroom : (rest.map fun v => v.category).sum ≤ 8) (hS : va_S (A0 b) s.heap H locs) (hW : Wd Z b M H) (hdg : decode cc pc = .ok (.invokevirtual 129, 3))
    (kk : ∀ (H1 : Heap) (locs1 : List Loc), Wd Z b M' H1 → va_S (A0 b) s.heap H1 locs1 → W p l e R s m args below meth c H1 locs1 cells slots Q (F0 m (pc + 3) ls (rR b q :: rest))) : W p l e R s m args below meth c H locs cells slots Q (F0 m pc ls (.int a1 :: .ref (b + 1) :: rest)) :=
  cl_go (v := (some (rR b q))) (va_runVN (As := [.int a1]) (b := b + 1) ⟨C.1, C.2.1, hml, C.2.2.1, C.2.2.2.1⟩ hM ⟨va_cnB 1 C.2.2.2.1 (gN q362) rfl rfl rfl (C.2.2.2.2.2.1 _ (List.mem_append_left _ (List.mem_of_getElem? (i := 30) rfl))) (C.2.2.2.1 _ q65) (by decide +kernel) hR, C.2.2.2.1 _ q361, C.2.2.2.1 _ q13⟩ ⟨Pre.blind _ _ _ _, va_recv (q0 := 1) (ci := 3) (fs := [.ref (b + 2), .int (M 2 0)]) C.2.2.2.2.1 hW rfl ((wl_get (Z := Z) (b := b) (M := M) (k := 1) (by decide)).trans (congrArg (fun E => some (b + 1, E)) (en_1 Z b M))), fun U hU hWU => ⟨rfl, C.2.2.2.2.call hS hU hWU, by rw [hU]; exact hW⟩⟩ rfl rfl hsz rfl (lv_room hroom) hdg hc) hS kk
theorem kX4_137 {a1 : Int32} {v : Int32} {nL : Nat} {M' : Mem} (C : Cx p s m args c cc RX4 Z b) (hml : c.maxLocals = nL) (hsz : ls.size = nL) (hM : Ct l yX3_memberCount cX3_memberCount 4 (some .int) rm_X3_memberCount Z b [.ref (b + 1), .int a1] M (some (.int v)) M') (hR : rm_X3_memberCount.frames + 1 ≤ R.frames ∧ 8 + (4 + 11) + rm_X3_memberCount.locals ≤ R.locals) (hc : cells ≤ R.cells ∧ slots ≤ R.slots) (hroom : (rest.map fun v => v.category).sum ≤ 8) (hS : va_S (A0 b) s.heap H locs) (hW : Wd Z b M H) (hdg : decode cc pc = .ok (.invokevirtual 137, 3))
    (kk : ∀ (H1 : Heap) (locs1 : List Loc), Wd Z b M' H1 → va_S (A0 b) s.heap H1 locs1 → W p l e R s m args below meth c H1 locs1 cells slots Q (F0 m (pc + 3) ls (.int v :: rest))) : W p l e R s m args below meth c H locs cells slots Q (F0 m pc ls (.int a1 :: .ref (b + 1) :: rest)) :=
  cl_go (v := (some (.int v))) (va_runVN (As := [.int a1]) (b := b + 1) ⟨C.1, C.2.1, hml, C.2.2.1, C.2.2.2.1⟩ hM ⟨va_cnB 1 C.2.2.2.1 (gN q527) rfl rfl rfl (C.2.2.2.2.2.1 _ (List.mem_append_left _ (List.mem_of_getElem? (i := 43) rfl))) (C.2.2.2.1 _ q65) (by decide +kernel) hR, C.2.2.2.1 _ q526, C.2.2.2.1 _ q34⟩ ⟨Pre.blind _ _ _ _, va_recv (q0 := 1) (ci := 3) (fs := [.ref (b + 2), .int (M 2 0)]) C.2.2.2.2.1 hW rfl ((wl_get (Z := Z) (b := b) (M := M) (k := 1) (by decide)).trans (congrArg (fun E => some (b + 1, E)) (en_1 Z b M))), fun U hU hWU => ⟨rfl, C.2.2.2.2.call hS hU hWU, by rw [hU]; exact hW⟩⟩ rfl rfl hsz rfl (lv_room hroom) hdg hc) hS kk
theorem kX4_140 {a1 a2 : Int32} {v : Int32} {nL : Nat} {M' : Mem} (C : Cx p s m args c cc RX4 Z b) (hml : c.maxLocals = nL) (hsz : ls.size = nL) (hM : Ct l yX3_memberIndex cX3_memberIndex 5 (some .int) rm_X3_memberIndex Z b [.ref (b + 1), .int a1, .int a2] M (some (.int v)) M') (hR : rm_X3_memberIndex.frames + 1 ≤ R.frames ∧ 8 + (5 + 11) + rm_X3_memberIndex.locals ≤ R.locals) (hc : cells ≤ R.cells ∧ slots ≤ R.slots) (hroom : (rest.map fun v => v.category).sum ≤ 8) (hS : va_S (A0 b) s.heap H locs) (hW : Wd Z b M H) (hdg : decode cc pc = .ok (.invokevirtual 140, 3))
    (kk : ∀ (H1 : Heap) (locs1 : List Loc), Wd Z b M' H1 → va_S (A0 b) s.heap H1 locs1 → W p l e R s m args below meth c H1 locs1 cells slots Q (F0 m (pc + 3) ls (.int v :: rest))) : W p l e R s m args below meth c H locs cells slots Q (F0 m pc ls (.int a2 :: .int a1 :: .ref (b + 1) :: rest)) :=
  cl_go (v := (some (.int v))) (va_runVN (As := [.int a1, .int a2]) (b := b + 1) ⟨C.1, C.2.1, hml, C.2.2.1, C.2.2.2.1⟩ hM ⟨va_cnB 2 C.2.2.2.1 (gN q501) rfl rfl rfl (C.2.2.2.2.2.1 _ (List.mem_append_left _ (List.mem_of_getElem? (i := 44) rfl))) (C.2.2.2.1 _ q65) (by decide +kernel) hR, C.2.2.2.1 _ q500, C.2.2.2.1 _ q33⟩ ⟨Pre.blind _ _ _ _, va_recv (q0 := 1) (ci := 3) (fs := [.ref (b + 2), .int (M 2 0)]) C.2.2.2.2.1 hW rfl ((wl_get (Z := Z) (b := b) (M := M) (k := 1) (by decide)).trans (congrArg (fun E => some (b + 1, E)) (en_1 Z b M))), fun U hU hWU => ⟨rfl, C.2.2.2.2.call hS hU hWU, by rw [hU]; exact hW⟩⟩ rfl rfl hsz rfl (lv_room hroom) hdg hc) hS kk
theorem kX4_153 {a1 a2 : Int32} {nL : Nat} {M' : Mem} (C : Cx p s m args c cc RX4 Z b) (hml : c.maxLocals = nL) (hsz : ls.size = nL) (hM : Ct l yX3_placeMember cX3_placeMember 5 (none : Option Jvm.ClassFile.FieldType) rm_X3_placeMember Z b [.ref (b + 1), .int a1, .int a2] M none M') (hR : rm_X3_placeMember.frames + 1 ≤ R.frames ∧ 8 + (5 + 11) + rm_X3_placeMember.locals ≤ R.locals) (hc : cells ≤ R.cells ∧ slots ≤ R.slots) (hroom : (rest.map fun v => v.category).sum ≤ 8) (hS : va_S (A0 b) s.heap H locs) (hW : Wd Z b M H) (hdg : decode cc pc = .ok (.invokevirtual 153, 3))
    (kk : ∀ (H1 : Heap) (locs1 : List Loc), Wd Z b M' H1 → va_S (A0 b) s.heap H1 locs1 → W p l e R s m args below meth c H1 locs1 cells slots Q (F0 m (pc + 3) ls rest)) : W p l e R s m args below meth c H locs cells slots Q (F0 m pc ls (.int a2 :: .int a1 :: .ref (b + 1) :: rest)) :=
  cl_go (v := none) (va_runVN (As := [.int a1, .int a2]) (b := b + 1) ⟨C.1, C.2.1, hml, C.2.2.1, C.2.2.2.1⟩ hM ⟨va_cnB 2 C.2.2.2.1 (gN q492) rfl rfl rfl (C.2.2.2.2.2.1 _ (List.mem_append_left _ (List.mem_of_getElem? (i := 45) rfl))) (C.2.2.2.1 _ q65) (by decide +kernel) hR, C.2.2.2.1 _ q491, C.2.2.2.1 _ q31⟩ ⟨Pre.blind _ _ _ _, va_recv (q0 := 1) (ci := 3) (fs := [.ref (b + 2), .int (M 2 0)]) C.2.2.2.2.1 hW rfl ((wl_get (Z := Z) (b := b) (M := M) (k := 1) (by decide)).trans (congrArg (fun E => some (b + 1, E)) (en_1 Z b M))), fun U hU hWU => ⟨rfl, C.2.2.2.2.call hS hU hWU, by rw [hU]; exact hW⟩⟩ rfl rfl hsz rfl (lv_room hroom) hdg hc) hS kk
theorem kX4_162 {a1 a2 a3 : Int32} {v : Int32} {nL : Nat} {M' : Mem} (C : Cx p s m args c cc RX4 Z b) (hml : c.maxLocals = nL) (hsz : ls.size = nL) (hM : Ct l yX1_bar cX1_bar 6 (some .boolean) rm_X1_bar Z b [.ref (b + 123), .int a1, .int a2, .int a3] M (some (.int v)) M') (hR : rm_X1_bar.frames + 1 ≤ R.frames ∧ 8 + (6 + 11) + rm_X1_bar.locals ≤ R.locals) (hc : cells ≤ R.cells ∧ slots ≤ R.slots) (hroom : (rest.map fun v => v.category).sum ≤ 8) (hS : va_S (A0 b) s.heap H locs) (hW : Wd Z b M H) (hdg : decode cc pc = .ok (.invokevirtual 162, 3))
    (kk : ∀ (H1 : Heap) (locs1 : List Loc), Wd Z b M' H1 → va_S (A0 b) s.heap H1 locs1 → W p l e R s m args below meth c H1 locs1 cells slots Q (F0 m (pc + 3) ls (.int v :: rest))) : W p l e R s m args below meth c H locs cells slots Q (F0 m pc ls (.int a3 :: .int a2 :: .int a1 :: .ref (b + 123) :: rest)) :=
  cl_go (v := (some (.int v))) (va_runVN (As := [.int a1, .int a2, .int a3]) (b := b + 123) ⟨C.1, C.2.1, hml, C.2.2.1, C.2.2.2.1⟩ hM ⟨va_cnB 3 C.2.2.2.1 (gN q572) rfl rfl rfl (C.2.2.2.2.2.1 _ (List.mem_append_left _ (List.mem_of_getElem? (i := 46) rfl))) (C.2.2.2.1 _ q67) (by decide +kernel) hR, C.2.2.2.1 _ q571, C.2.2.2.1 _ q35⟩ ⟨Pre.blind _ _ _ _, va_recv (q0 := 123) (ci := 1) (fs := [.ref (b + 124), .int (M 10 0), .int (M 11 0)]) C.2.2.2.2.1 hW rfl ((wl_get (Z := Z) (b := b) (M := M) (k := 123) (by decide)).trans (congrArg (fun E => some (b + 123, E)) (en_123 Z b M))), fun U hU hWU => ⟨rfl, C.2.2.2.2.call hS hU hWU, by rw [hU]; exact hW⟩⟩ rfl rfl hsz rfl (lv_room hroom) hdg hc) hS kk
theorem kX4_170 {a1 a2 a3 a4 a5 : Int32} {v : Int32} {nL : Nat} {M' : Mem} (C : Cx p s m args c cc RX4 Z b) (hml : c.maxLocals = nL) (hsz : ls.size = nL) (hM : Ct l yX1_add cX1_add 7 (some .int) rm_X1_add Z b [.ref (b + 123), .int a1, .int a2, .int a3, .int a4, .int a5] M (some (.int v)) M') (hR : rm_X1_add.frames + 1 ≤ R.frames ∧ 8 + (7 + 11) + rm_X1_add.locals ≤ R.locals) (hc : cells ≤ R.cells ∧ slots ≤ R.slots) (hroom : (rest.map fun v => v.category).sum ≤ 8) (hS : va_S (A0 b) s.heap H locs) (hW : Wd Z b M H) (hdg : decode cc pc = .ok (.invokevirtual 170, 3))
    (kk : ∀ (H1 : Heap) (locs1 : List Loc), Wd Z b M' H1 → va_S (A0 b) s.heap H1 locs1 → W p l e R s m args below meth c H1 locs1 cells slots Q (F0 m (pc + 3) ls (.int v :: rest))) : W p l e R s m args below meth c H locs cells slots Q (F0 m pc ls (.int a5 :: .int a4 :: .int a3 :: .int a2 :: .int a1 :: .ref (b + 123) :: rest)) :=
  cl_go (v := (some (.int v))) (va_runVN (As := [.int a1, .int a2, .int a3, .int a4, .int a5]) (b := b + 123) ⟨C.1, C.2.1, hml, C.2.2.1, C.2.2.2.1⟩ hM ⟨va_cnB 5 C.2.2.2.1 (gN q579) rfl rfl rfl (C.2.2.2.2.2.1 _ (List.mem_append_left _ (List.mem_of_getElem? (i := 48) rfl))) (C.2.2.2.1 _ q67) (by decide +kernel) hR, C.2.2.2.1 _ q578, C.2.2.2.1 _ q36⟩ ⟨Pre.blind _ _ _ _, va_recv (q0 := 123) (ci := 1) (fs := [.ref (b + 124), .int (M 10 0), .int (M 11 0)]) C.2.2.2.2.1 hW rfl ((wl_get (Z := Z) (b := b) (M := M) (k := 123) (by decide)).trans (congrArg (fun E => some (b + 123, E)) (en_123 Z b M))), fun U hU hWU => ⟨rfl, C.2.2.2.2.call hS hU hWU, by rw [hU]; exact hW⟩⟩ rfl rfl hsz rfl (lv_room hroom) hdg hc) hS kk
theorem kX4_174 {a1 : Int32} {q : Option Nat} {nL : Nat} {M' : Mem} (C : Cx p s m args c cc RX4 Z b) (hml : c.maxLocals = nL) (hsz : ls.size = nL) (hM : Ct l yX1_find cX1_find 2 (some (.object "ShelfServer$Lock")) rm_X1_find Z b [.ref (b + 123), .int a1] M (some (rL b q)) M') (hR : rm_X1_find.frames + 1 ≤ R.frames ∧ 8 + (2 + 11) + rm_X1_find.locals ≤ R.locals) (hc : cells ≤ R.cells ∧ slots ≤ R.slots) (hroom : (rest.map fun v => v.category).sum ≤ 8) (hS : va_S (A0 b) s.heap H locs) (hW : Wd Z b M H) (hdg : decode cc pc = .ok (.invokevirtual 174, 3))
    (kk : ∀ (H1 : Heap) (locs1 : List Loc), Wd Z b M' H1 → va_S (A0 b) s.heap H1 locs1 → W p l e R s m args below meth c H1 locs1 cells slots Q (F0 m (pc + 3) ls (rL b q :: rest))) : W p l e R s m args below meth c H locs cells slots Q (F0 m pc ls (.int a1 :: .ref (b + 123) :: rest)) :=
  cl_go (v := (some (rL b q))) (va_runVN (As := [.int a1]) (b := b + 123) ⟨C.1, C.2.1, hml, C.2.2.1, C.2.2.2.1⟩ hM ⟨va_cnB 1 C.2.2.2.1 (gN q332) rfl rfl rfl (C.2.2.2.2.2.1 _ (List.mem_append_left _ (List.mem_of_getElem? (i := 49) rfl))) (C.2.2.2.1 _ q67) (by decide +kernel) hR, C.2.2.2.1 _ q331, C.2.2.2.1 _ q8⟩ ⟨Pre.blind _ _ _ _, va_recv (q0 := 123) (ci := 1) (fs := [.ref (b + 124), .int (M 10 0), .int (M 11 0)]) C.2.2.2.2.1 hW rfl ((wl_get (Z := Z) (b := b) (M := M) (k := 123) (by decide)).trans (congrArg (fun E => some (b + 123, E)) (en_123 Z b M))), fun U hU hWU => ⟨rfl, C.2.2.2.2.call hS hU hWU, by rw [hU]; exact hW⟩⟩ rfl rfl hsz rfl (lv_room hroom) hdg hc) hS kk
theorem kX4_195 {a1 : Int32} {v : Int32} {nL : Nat} {M' : Mem} (C : Cx p s m args c cc RX4 Z b) (hml : c.maxLocals = nL) (hsz : ls.size = nL) (hM : Ct l yX1_advance cX1_advance 6 (some .int) rm_X1_advance Z b [.ref (b + 123), .int a1] M (some (.int v)) M') (hR : rm_X1_advance.frames + 1 ≤ R.frames ∧ 8 + (6 + 11) + rm_X1_advance.locals ≤ R.locals) (hc : cells ≤ R.cells ∧ slots ≤ R.slots) (hroom : (rest.map fun v => v.category).sum ≤ 8) (hS : va_S (A0 b) s.heap H locs) (hW : Wd Z b M H) (hdg : decode cc pc = .ok (.invokevirtual 195, 3))
    (kk : ∀ (H1 : Heap) (locs1 : List Loc), Wd Z b M' H1 → va_S (A0 b) s.heap H1 locs1 → W p l e R s m args below meth c H1 locs1 cells slots Q (F0 m (pc + 3) ls (.int v :: rest))) : W p l e R s m args below meth c H locs cells slots Q (F0 m pc ls (.int a1 :: .ref (b + 123) :: rest)) :=
  cl_go (v := (some (.int v))) (va_runVN (As := [.int a1]) (b := b + 123) ⟨C.1, C.2.1, hml, C.2.2.1, C.2.2.2.1⟩ hM ⟨va_cnB 1 C.2.2.2.1 (gN q602) rfl rfl rfl (C.2.2.2.2.2.1 _ (List.mem_append_left _ (List.mem_of_getElem? (i := 50) rfl))) (C.2.2.2.1 _ q67) (by decide +kernel) hR, C.2.2.2.1 _ q601, C.2.2.2.1 _ q37⟩ ⟨Pre.blind _ _ _ _, va_recv (q0 := 123) (ci := 1) (fs := [.ref (b + 124), .int (M 10 0), .int (M 11 0)]) C.2.2.2.2.1 hW rfl ((wl_get (Z := Z) (b := b) (M := M) (k := 123) (by decide)).trans (congrArg (fun E => some (b + 123, E)) (en_123 Z b M))), fun U hU hWU => ⟨rfl, C.2.2.2.2.call hS hU hWU, by rw [hU]; exact hW⟩⟩ rfl rfl hsz rfl (lv_room hroom) hdg hc) hS kk
theorem kX4_198 {a1 : Int32} {v : Int32} {nL : Nat} {M' : Mem} (C : Cx p s m args c cc RX4 Z b) (hml : c.maxLocals = nL) (hsz : ls.size = nL) (hM : Ct l yX1_tokensOver cX1_tokensOver 5 (some .int) rm_X1_tokensOver Z b [.ref (b + 123), .int a1] M (some (.int v)) M') (hR : rm_X1_tokensOver.frames + 1 ≤ R.frames ∧ 8 + (5 + 11) + rm_X1_tokensOver.locals ≤ R.locals) (hc : cells ≤ R.cells ∧ slots ≤ R.slots) (hroom : (rest.map fun v => v.category).sum ≤ 8) (hS : va_S (A0 b) s.heap H locs) (hW : Wd Z b M H) (hdg : decode cc pc = .ok (.invokevirtual 198, 3))
    (kk : ∀ (H1 : Heap) (locs1 : List Loc), Wd Z b M' H1 → va_S (A0 b) s.heap H1 locs1 → W p l e R s m args below meth c H1 locs1 cells slots Q (F0 m (pc + 3) ls (.int v :: rest))) : W p l e R s m args below meth c H locs cells slots Q (F0 m pc ls (.int a1 :: .ref (b + 123) :: rest)) :=
  cl_go (v := (some (.int v))) (va_runVN (As := [.int a1]) (b := b + 123) ⟨C.1, C.2.1, hml, C.2.2.1, C.2.2.2.1⟩ hM ⟨va_cnB 1 C.2.2.2.1 (gN q328) rfl rfl rfl (C.2.2.2.2.2.1 _ (List.mem_append_left _ (List.mem_of_getElem? (i := 51) rfl))) (C.2.2.2.1 _ q67) (by decide +kernel) hR, C.2.2.2.1 _ q327, C.2.2.2.1 _ q7⟩ ⟨Pre.blind _ _ _ _, va_recv (q0 := 123) (ci := 1) (fs := [.ref (b + 124), .int (M 10 0), .int (M 11 0)]) C.2.2.2.2.1 hW rfl ((wl_get (Z := Z) (b := b) (M := M) (k := 123) (by decide)).trans (congrArg (fun E => some (b + 123, E)) (en_123 Z b M))), fun U hU hWU => ⟨rfl, C.2.2.2.2.call hS hU hWU, by rw [hU]; exact hW⟩⟩ rfl rfl hsz rfl (lv_room hroom) hdg hc) hS kk
theorem kX4_208 {r : Nat} (hr : r < 60) {v : Int32} {nL : Nat} {M' : Mem} (C : Cx p s m args c cc RX4 Z b) (hml : c.maxLocals = nL) (hsz : ls.size = nL) (hM : Ct l yX2_addVersion cX2_addVersion 1 (some .int) rm_X2_addVersion Z b [.ref (b + (3 + 2 * r))] M (some (.int v)) M') (hR : rm_X2_addVersion.frames + 1 ≤ R.frames ∧ 8 + (1 + 11) + rm_X2_addVersion.locals ≤ R.locals) (hc : cells ≤ R.cells ∧ slots ≤ R.slots) (hroom : (rest.map fun v => v.category).sum ≤ 8) (hS : va_S (A0 b) s.heap H locs) (hW : Wd Z b M H) (hdg : decode cc pc = .ok (.invokevirtual 208, 3))
    (kk : ∀ (H1 : Heap) (locs1 : List Loc), Wd Z b M' H1 → va_S (A0 b) s.heap H1 locs1 → W p l e R s m args below meth c H1 locs1 cells slots Q (F0 m (pc + 3) ls (.int v :: rest))) : W p l e R s m args below meth c H locs cells slots Q (F0 m pc ls (.ref (b + (3 + 2 * r)) :: rest)) :=
  cl_go (v := (some (.int v))) (va_runVN (As := []) (b := b + (3 + 2 * r)) ⟨C.1, C.2.1, hml, C.2.2.1, C.2.2.2.1⟩ hM ⟨va_cnB 0 C.2.2.2.1 (gN q630) rfl rfl rfl (C.2.2.2.2.2.1 _ (List.mem_append_left _ (List.mem_of_getElem? (i := 52) rfl))) (C.2.2.2.1 _ q66) (by decide +kernel) hR, C.2.2.2.1 _ q629, C.2.2.2.1 _ q38⟩ ⟨Pre.blind _ _ _ _, va_recv (q0 := (3 + 2 * r)) (ci := 2) (fs := [.int (M 4 r), .int (M 5 r), .int (M 6 r), .int (M 7 r), .ref (b + (4 + 2 * r)), .int (M 8 r)]) C.2.2.2.2.1 hW rfl ((wl_get (Z := Z) (b := b) (M := M) (k := (3 + 2 * r)) (by omega)).trans (congrArg (fun E => some (b + (3 + 2 * r), E)) (en_R Z b M hr))), fun U hU hWU => ⟨rfl, C.2.2.2.2.call hS hU hWU, by rw [hU]; exact hW⟩⟩ rfl rfl hsz rfl (lv_room hroom) hdg hc) hS kk
theorem kX4_212 {r : Nat} (hr : r < 60) {a1 : Int32} {v : Int32} {nL : Nat} {M' : Mem} (C : Cx p s m args c cc RX4 Z b) (hml : c.maxLocals = nL) (hsz : ls.size = nL) (hM : Ct l yX2_hasVersion cX2_hasVersion 2 (some .boolean) rm_X2_hasVersion Z b [.ref (b + (3 + 2 * r)), .int a1] M (some (.int v)) M') (hR : rm_X2_hasVersion.frames + 1 ≤ R.frames ∧ 8 + (2 + 11) + rm_X2_hasVersion.locals ≤ R.locals) (hc : cells ≤ R.cells ∧ slots ≤ R.slots) (hroom : (rest.map fun v => v.category).sum ≤ 8) (hS : va_S (A0 b) s.heap H locs) (hW : Wd Z b M H) (hdg : decode cc pc = .ok (.invokevirtual 212, 3))
    (kk : ∀ (H1 : Heap) (locs1 : List Loc), Wd Z b M' H1 → va_S (A0 b) s.heap H1 locs1 → W p l e R s m args below meth c H1 locs1 cells slots Q (F0 m (pc + 3) ls (.int v :: rest))) : W p l e R s m args below meth c H locs cells slots Q (F0 m pc ls (.int a1 :: .ref (b + (3 + 2 * r)) :: rest)) :=
  cl_go (v := (some (.int v))) (va_runVN (As := [.int a1]) (b := b + (3 + 2 * r)) ⟨C.1, C.2.1, hml, C.2.2.1, C.2.2.2.1⟩ hM ⟨va_cnB 1 C.2.2.2.1 (gN q641) rfl rfl rfl (C.2.2.2.2.2.1 _ (List.mem_append_left _ (List.mem_of_getElem? (i := 53) rfl))) (C.2.2.2.1 _ q66) (by decide +kernel) hR, C.2.2.2.1 _ q640, C.2.2.2.1 _ q39⟩ ⟨Pre.blind _ _ _ _, va_recv (q0 := (3 + 2 * r)) (ci := 2) (fs := [.int (M 4 r), .int (M 5 r), .int (M 6 r), .int (M 7 r), .ref (b + (4 + 2 * r)), .int (M 8 r)]) C.2.2.2.2.1 hW rfl ((wl_get (Z := Z) (b := b) (M := M) (k := (3 + 2 * r)) (by omega)).trans (congrArg (fun E => some (b + (3 + 2 * r), E)) (en_R Z b M hr))), fun U hU hWU => ⟨rfl, C.2.2.2.2.call hS hU hWU, by rw [hU]; exact hW⟩⟩ rfl rfl hsz rfl (lv_room hroom) hdg hc) hS kk
theorem kX4_215 {r : Nat} (hr : r < 60) {a1 : Int32} {nL : Nat} {M' : Mem} (C : Cx p s m args c cc RX4 Z b) (hml : c.maxLocals = nL) (hsz : ls.size = nL) (hM : Ct l yX2_takeVersion cX2_takeVersion 2 (none : Option Jvm.ClassFile.FieldType) rm_X2_takeVersion Z b [.ref (b + (3 + 2 * r)), .int a1] M none M') (hR : rm_X2_takeVersion.frames + 1 ≤ R.frames ∧ 8 + (2 + 11) + rm_X2_takeVersion.locals ≤ R.locals) (hc : cells ≤ R.cells ∧ slots ≤ R.slots) (hroom : (rest.map fun v => v.category).sum ≤ 8) (hS : va_S (A0 b) s.heap H locs) (hW : Wd Z b M H) (hdg : decode cc pc = .ok (.invokevirtual 215, 3))
    (kk : ∀ (H1 : Heap) (locs1 : List Loc), Wd Z b M' H1 → va_S (A0 b) s.heap H1 locs1 → W p l e R s m args below meth c H1 locs1 cells slots Q (F0 m (pc + 3) ls rest)) : W p l e R s m args below meth c H locs cells slots Q (F0 m pc ls (.int a1 :: .ref (b + (3 + 2 * r)) :: rest)) :=
  cl_go (v := none) (va_runVN (As := [.int a1]) (b := b + (3 + 2 * r)) ⟨C.1, C.2.1, hml, C.2.2.1, C.2.2.2.1⟩ hM ⟨va_cnB 1 C.2.2.2.1 (gN q645) rfl rfl rfl (C.2.2.2.2.2.1 _ (List.mem_append_left _ (List.mem_of_getElem? (i := 54) rfl))) (C.2.2.2.1 _ q66) (by decide +kernel) hR, C.2.2.2.1 _ q644, C.2.2.2.1 _ q40⟩ ⟨Pre.blind _ _ _ _, va_recv (q0 := (3 + 2 * r)) (ci := 2) (fs := [.int (M 4 r), .int (M 5 r), .int (M 6 r), .int (M 7 r), .ref (b + (4 + 2 * r)), .int (M 8 r)]) C.2.2.2.2.1 hW rfl ((wl_get (Z := Z) (b := b) (M := M) (k := (3 + 2 * r)) (by omega)).trans (congrArg (fun E => some (b + (3 + 2 * r), E)) (en_R Z b M hr))), fun U hU hWU => ⟨rfl, C.2.2.2.2.call hS hU hWU, by rw [hU]; exact hW⟩⟩ rfl rfl hsz rfl (lv_room hroom) hdg hc) hS kk
theorem kX4_225 {a1 : Int32} {v : Int32} {nL : Nat} {M' : Mem} (C : Cx p s m args c cc RX4 Z b) (hml : c.maxLocals = nL) (hsz : ls.size = nL) (hM : Ct l yX4_isPath cX4_isPath 3 (some .boolean) rm_X4_isPath Z b [.int a1] M (some (.int v)) M') (hR : rm_X4_isPath.frames + 1 ≤ R.frames ∧ 8 + (3 + 11) + rm_X4_isPath.locals ≤ R.locals) (hc : cells ≤ R.cells ∧ slots ≤ R.slots) (hroom : (rest.map fun v => v.category).sum ≤ 8) (hS : va_S (A0 b) s.heap H locs) (hW : Wd Z b M H) (hdg : decode cc pc = .ok (.invokestatic 225, 3))
    (kk : ∀ (H1 : Heap) (locs1 : List Loc), Wd Z b M' H1 → va_S (A0 b) s.heap H1 locs1 → W p l e R s m args below meth c H1 locs1 cells slots Q (F0 m (pc + 3) ls (.int v :: rest))) : W p l e R s m args below meth c H locs cells slots Q (F0 m pc ls (.int a1 :: rest)) :=
  cl_go (v := (some (.int v))) (va_runS (As := [.int a1]) ⟨C.1, C.2.1, hml, C.2.2.1, C.2.2.2.1⟩ hM (cwS 1 C.2.2.2.1 (gS q288 q289 q64 q290) rfl rfl rfl (by decide +kernel) hR) ⟨Pre.blind _ _ _ _, fun U hU hWU => ⟨rfl, C.2.2.2.2.call hS hU hWU, by rw [hU]; exact hW⟩⟩ rfl rfl hsz rfl (lv_room hroom) hdg hc) hS kk
theorem kX4_232 {a1 a2 : Int32} {v : Int32} {nL : Nat} {M' : Mem} (C : Cx p s m args c cc RX4 Z b) (hml : c.maxLocals = nL) (hsz : ls.size = nL) (hM : Ct l yX4_isIn cX4_isIn 2 (some .boolean) rm_X4_isIn Z b [.int a1, .int a2] M (some (.int v)) M') (hR : rm_X4_isIn.frames + 1 ≤ R.frames ∧ 8 + (2 + 11) + rm_X4_isIn.locals ≤ R.locals) (hc : cells ≤ R.cells ∧ slots ≤ R.slots) (hroom : (rest.map fun v => v.category).sum ≤ 8) (hS : va_S (A0 b) s.heap H locs) (hW : Wd Z b M H) (hdg : decode cc pc = .ok (.invokestatic 232, 3))
    (kk : ∀ (H1 : Heap) (locs1 : List Loc), Wd Z b M' H1 → va_S (A0 b) s.heap H1 locs1 → W p l e R s m args below meth c H1 locs1 cells slots Q (F0 m (pc + 3) ls (.int v :: rest))) : W p l e R s m args below meth c H locs cells slots Q (F0 m pc ls (.int a2 :: .int a1 :: rest)) :=
  cl_go (v := (some (.int v))) (va_runS (As := [.int a1, .int a2]) ⟨C.1, C.2.1, hml, C.2.2.1, C.2.2.2.1⟩ hM (cwS 2 C.2.2.2.1 (gS q444 q388 q64 q389) rfl rfl rfl (by decide +kernel) hR) ⟨Pre.blind _ _ _ _, fun U hU hWU => ⟨rfl, C.2.2.2.2.call hS hU hWU, by rw [hU]; exact hW⟩⟩ rfl rfl hsz rfl (lv_room hroom) hdg hc) hS kk
theorem kX4_238 {a1 a2 : Int32} {v : Int32} {nL : Nat} {M' : Mem} (C : Cx p s m args c cc RX4 Z b) (hml : c.maxLocals = nL) (hsz : ls.size = nL) (hM : Ct l yX4_isAbove cX4_isAbove 4 (some .boolean) rm_X4_isAbove Z b [.int a1, .int a2] M (some (.int v)) M') (hR : rm_X4_isAbove.frames + 1 ≤ R.frames ∧ 8 + (4 + 11) + rm_X4_isAbove.locals ≤ R.locals) (hc : cells ≤ R.cells ∧ slots ≤ R.slots) (hroom : (rest.map fun v => v.category).sum ≤ 8) (hS : va_S (A0 b) s.heap H locs) (hW : Wd Z b M H) (hdg : decode cc pc = .ok (.invokestatic 238, 3))
    (kk : ∀ (H1 : Heap) (locs1 : List Loc), Wd Z b M' H1 → va_S (A0 b) s.heap H1 locs1 → W p l e R s m args below meth c H1 locs1 cells slots Q (F0 m (pc + 3) ls (.int v :: rest))) : W p l e R s m args below meth c H locs cells slots Q (F0 m pc ls (.int a2 :: .int a1 :: rest)) :=
  cl_go (v := (some (.int v))) (va_runS (As := [.int a1, .int a2]) ⟨C.1, C.2.1, hml, C.2.2.1, C.2.2.2.1⟩ hM (cwS 2 C.2.2.2.1 (gS q378 q338 q64 q339) rfl rfl rfl (by decide +kernel) hR) ⟨Pre.blind _ _ _ _, fun U hU hWU => ⟨rfl, C.2.2.2.2.call hS hU hWU, by rw [hU]; exact hW⟩⟩ rfl rfl hsz rfl (lv_room hroom) hdg hc) hS kk
theorem kX4_241 {a1 a2 : Int32} {v : Int32} {nL : Nat} {M' : Mem} (C : Cx p s m args c cc RX4 Z b) (hml : c.maxLocals = nL) (hsz : ls.size = nL) (hM : Ct l yX3_fits cX3_fits 4 (some .boolean) rm_X3_fits Z b [.ref (b + 1), .int a1, .int a2] M (some (.int v)) M') (hR : rm_X3_fits.frames + 1 ≤ R.frames ∧ 8 + (4 + 11) + rm_X3_fits.locals ≤ R.locals) (hc : cells ≤ R.cells ∧ slots ≤ R.slots) (hroom : (rest.map fun v => v.category).sum ≤ 8) (hS : va_S (A0 b) s.heap H locs) (hW : Wd Z b M H) (hdg : decode cc pc = .ok (.invokevirtual 241, 3))
    (kk : ∀ (H1 : Heap) (locs1 : List Loc), Wd Z b M' H1 → va_S (A0 b) s.heap H1 locs1 → W p l e R s m args below meth c H1 locs1 cells slots Q (F0 m (pc + 3) ls (.int v :: rest))) : W p l e R s m args below meth c H locs cells slots Q (F0 m pc ls (.int a2 :: .int a1 :: .ref (b + 1) :: rest)) :=
  cl_go (v := (some (.int v))) (va_runVN (As := [.int a1, .int a2]) (b := b + 1) ⟨C.1, C.2.1, hml, C.2.2.1, C.2.2.2.1⟩ hM ⟨va_cnB 2 C.2.2.2.1 (gN q453) rfl rfl rfl (C.2.2.2.2.2.1 _ (List.mem_append_left _ (List.mem_of_getElem? (i := 36) rfl))) (C.2.2.2.1 _ q65) (by decide +kernel) hR, C.2.2.2.1 _ q452, C.2.2.2.1 _ q24⟩ ⟨Pre.blind _ _ _ _, va_recv (q0 := 1) (ci := 3) (fs := [.ref (b + 2), .int (M 2 0)]) C.2.2.2.2.1 hW rfl ((wl_get (Z := Z) (b := b) (M := M) (k := 1) (by decide)).trans (congrArg (fun E => some (b + 1, E)) (en_1 Z b M))), fun U hU hWU => ⟨rfl, C.2.2.2.2.call hS hU hWU, by rw [hU]; exact hW⟩⟩ rfl rfl hsz rfl (lv_room hroom) hdg hc) hS kk
theorem kX4_244 {a1 : Int32} {nL : Nat} {M' : Mem} (C : Cx p s m args c cc RX4 Z b) (hml : c.maxLocals = nL) (hsz : ls.size = nL) (hM : Ct l yX4_insertFailure cX4_insertFailure 3 (none : Option Jvm.ClassFile.FieldType) rm_X4_insertFailure Z b [.ref (b + 0), .int a1] M none M') (hR : rm_X4_insertFailure.frames + 1 ≤ R.frames ∧ 8 + (3 + 11) + rm_X4_insertFailure.locals ≤ R.locals) (hc : cells ≤ R.cells ∧ slots ≤ R.slots) (hroom : (rest.map fun v => v.category).sum ≤ 8) (hS : va_S (A0 b) s.heap H locs) (hW : Wd Z b M H) (hdg : decode cc pc = .ok (.invokevirtual 244, 3))
    (kk : ∀ (H1 : Heap) (locs1 : List Loc), Wd Z b M' H1 → va_S (A0 b) s.heap H1 locs1 → W p l e R s m args below meth c H1 locs1 cells slots Q (F0 m (pc + 3) ls rest)) : W p l e R s m args below meth c H locs cells slots Q (F0 m pc ls (.int a1 :: .ref (b + 0) :: rest)) :=
  cl_go (v := none) (va_runV (As := [.int a1]) (b := b + 0) ⟨C.1, C.2.1, hml, C.2.2.1, C.2.2.2.1⟩ hM (cwV 1 C.2.2.2.1 (gV q379 q381 q16 q64 q382) rfl rfl rfl (by decide +kernel) hR) ⟨Pre.blind _ _ _ _, va_recv (q0 := 0) (ci := 4) (fs := [.ref (b + 1), .ref (b + 123), .ref (b + 155), .int (M 0 0)]) C.2.2.2.2.1 hW rfl ((wl_get (Z := Z) (b := b) (M := M) (k := 0) (by decide)).trans (congrArg (fun E => some (b + 0, E)) (en_0 Z b M))), fun U hU hWU => ⟨rfl, C.2.2.2.2.call hS hU hWU, by rw [hU]; exact hW⟩⟩ rfl rfl hsz rfl (lv_room hroom) hdg hc) hS kk
theorem kX4_247 {a1 : Int32} {nL : Nat} {M' : Mem} (C : Cx p s m args c cc RX4 Z b) (hml : c.maxLocals = nL) (hsz : ls.size = nL) (hM : Ct l yX3_spareUpFrom cX3_spareUpFrom 3 (none : Option Jvm.ClassFile.FieldType) rm_X3_spareUpFrom Z b [.ref (b + 1), .int a1] M none M') (hR : rm_X3_spareUpFrom.frames + 1 ≤ R.frames ∧ 8 + (3 + 11) + rm_X3_spareUpFrom.locals ≤ R.locals) (hc : cells ≤ R.cells ∧ slots ≤ R.slots) (hroom : (rest.map fun v => v.category).sum ≤ 8) (hS : va_S (A0 b) s.heap H locs) (hW : Wd Z b M H) (hdg : decode cc pc = .ok (.invokevirtual 247, 3))
    (kk : ∀ (H1 : Heap) (locs1 : List Loc), Wd Z b M' H1 → va_S (A0 b) s.heap H1 locs1 → W p l e R s m args below meth c H1 locs1 cells slots Q (F0 m (pc + 3) ls rest)) : W p l e R s m args below meth c H locs cells slots Q (F0 m pc ls (.int a1 :: .ref (b + 1) :: rest)) :=
  cl_go (v := none) (va_runVN (As := [.int a1]) (b := b + 1) ⟨C.1, C.2.1, hml, C.2.2.1, C.2.2.2.1⟩ hM ⟨va_cnB 1 C.2.2.2.1 (gN q397) rfl rfl rfl (C.2.2.2.2.2.1 _ (List.mem_append_left _ (List.mem_of_getElem? (i := 33) rfl))) (C.2.2.2.1 _ q65) (by decide +kernel) hR, C.2.2.2.1 _ q396, C.2.2.2.1 _ q19⟩ ⟨Pre.blind _ _ _ _, va_recv (q0 := 1) (ci := 3) (fs := [.ref (b + 2), .int (M 2 0)]) C.2.2.2.2.1 hW rfl ((wl_get (Z := Z) (b := b) (M := M) (k := 1) (by decide)).trans (congrArg (fun E => some (b + 1, E)) (en_1 Z b M))), fun U hU hWU => ⟨rfl, C.2.2.2.2.call hS hU hWU, by rw [hU]; exact hW⟩⟩ rfl rfl hsz rfl (lv_room hroom) hdg hc) hS kk
theorem kX4_254 {a1 : Int32} {nL : Nat} {M' : Mem} (C : Cx p s m args c cc RX4 Z b) (hml : c.maxLocals = nL) (hsz : ls.size = nL) (hM : Ct l yX1_dropAt cX1_dropAt 4 (none : Option Jvm.ClassFile.FieldType) rm_X1_dropAt Z b [.ref (b + 123), .int a1] M none M') (hR : rm_X1_dropAt.frames + 1 ≤ R.frames ∧ 8 + (4 + 11) + rm_X1_dropAt.locals ≤ R.locals) (hc : cells ≤ R.cells ∧ slots ≤ R.slots) (hroom : (rest.map fun v => v.category).sum ≤ 8) (hS : va_S (A0 b) s.heap H locs) (hW : Wd Z b M H) (hdg : decode cc pc = .ok (.invokevirtual 254, 3))
    (kk : ∀ (H1 : Heap) (locs1 : List Loc), Wd Z b M' H1 → va_S (A0 b) s.heap H1 locs1 → W p l e R s m args below meth c H1 locs1 cells slots Q (F0 m (pc + 3) ls rest)) : W p l e R s m args below meth c H locs cells slots Q (F0 m pc ls (.int a1 :: .ref (b + 123) :: rest)) :=
  cl_go (v := none) (va_runVN (As := [.int a1]) (b := b + 123) ⟨C.1, C.2.1, hml, C.2.2.1, C.2.2.2.1⟩ hM ⟨va_cnB 1 C.2.2.2.1 (gN q405) rfl rfl rfl (C.2.2.2.2.2.1 _ (List.mem_append_left _ (List.mem_of_getElem? (i := 34) rfl))) (C.2.2.2.1 _ q67) (by decide +kernel) hR, C.2.2.2.1 _ q404, C.2.2.2.1 _ q21⟩ ⟨Pre.blind _ _ _ _, va_recv (q0 := 123) (ci := 1) (fs := [.ref (b + 124), .int (M 10 0), .int (M 11 0)]) C.2.2.2.2.1 hW rfl ((wl_get (Z := Z) (b := b) (M := M) (k := 123) (by decide)).trans (congrArg (fun E => some (b + 123, E)) (en_123 Z b M))), fun U hU hWU => ⟨rfl, C.2.2.2.2.call hS hU hWU, by rw [hU]; exact hW⟩⟩ rfl rfl hsz rfl (lv_room hroom) hdg hc) hS kk
theorem kX4_257 {nL : Nat} {M' : Mem} (C : Cx p s m args c cc RX4 Z b) (hml : c.maxLocals = nL) (hsz : ls.size = nL) (hM : Ct l yX3_removeMarked cX3_removeMarked 4 (none : Option Jvm.ClassFile.FieldType) rm_X3_removeMarked Z b [.ref (b + 1)] M none M') (hR : rm_X3_removeMarked.frames + 1 ≤ R.frames ∧ 8 + (4 + 11) + rm_X3_removeMarked.locals ≤ R.locals) (hc : cells ≤ R.cells ∧ slots ≤ R.slots) (hroom : (rest.map fun v => v.category).sum ≤ 8) (hS : va_S (A0 b) s.heap H locs) (hW : Wd Z b M H) (hdg : decode cc pc = .ok (.invokevirtual 257, 3))
    (kk : ∀ (H1 : Heap) (locs1 : List Loc), Wd Z b M' H1 → va_S (A0 b) s.heap H1 locs1 → W p l e R s m args below meth c H1 locs1 cells slots Q (F0 m (pc + 3) ls rest)) : W p l e R s m args below meth c H locs cells slots Q (F0 m pc ls (.ref (b + 1) :: rest)) :=
  cl_go (v := none) (va_runVN (As := []) (b := b + 1) ⟨C.1, C.2.1, hml, C.2.2.1, C.2.2.2.1⟩ hM ⟨va_cnB 0 C.2.2.2.1 (gN q409) rfl rfl rfl (C.2.2.2.2.2.1 _ (List.mem_append_left _ (List.mem_of_getElem? (i := 35) rfl))) (C.2.2.2.1 _ q65) (by decide +kernel) hR, C.2.2.2.1 _ q408, C.2.2.2.1 _ q22⟩ ⟨Pre.blind _ _ _ _, va_recv (q0 := 1) (ci := 3) (fs := [.ref (b + 2), .int (M 2 0)]) C.2.2.2.2.1 hW rfl ((wl_get (Z := Z) (b := b) (M := M) (k := 1) (by decide)).trans (congrArg (fun E => some (b + 1, E)) (en_1 Z b M))), fun U hU hWU => ⟨rfl, C.2.2.2.2.call hS hU hWU, by rw [hU]; exact hW⟩⟩ rfl rfl hsz rfl (lv_room hroom) hdg hc) hS kk
theorem kX5_60 {a1 a2 a3 : Int32} {v : Int32} {nL : Nat} {M' : Mem} (C : Cx p s m args c cc RX5 Z b) (hml : c.maxLocals = nL) (hsz : ls.size = nL) (hM : Ct l yX5_isIn cX5_isIn 3 (some .boolean) rm_X5_isIn Z b [.int a1, .int a2, .int a3] M (some (.int v)) M') (hR : rm_X5_isIn.frames + 1 ≤ R.frames ∧ 8 + (3 + 11) + rm_X5_isIn.locals ≤ R.locals) (hc : cells ≤ R.cells ∧ slots ≤ R.slots) (hroom : (rest.map fun v => v.category).sum ≤ 8) (hS : va_S (A0 b) s.heap H locs) (hW : Wd Z b M H) (hdg : decode cc pc = .ok (.invokestatic 60, 3))
    (kk : ∀ (H1 : Heap) (locs1 : List Loc), Wd Z b M' H1 → va_S (A0 b) s.heap H1 locs1 → W p l e R s m args below meth c H1 locs1 cells slots Q (F0 m (pc + 3) ls (.int v :: rest))) : W p l e R s m args below meth c H locs cells slots Q (F0 m pc ls (.int a3 :: .int a2 :: .int a1 :: rest)) :=
  cl_go (v := (some (.int v))) (va_runS (As := [.int a1, .int a2, .int a3]) ⟨C.1, C.2.1, hml, C.2.2.1, C.2.2.2.1⟩ hM (cwS 3 C.2.2.2.1 (gS q730 q731 q69 q732) rfl rfl rfl (by decide +kernel) hR) ⟨Pre.blind _ _ _ _, fun U hU hWU => ⟨rfl, C.2.2.2.2.call hS hU hWU, by rw [hU]; exact hW⟩⟩ rfl rfl hsz rfl (lv_room hroom) hdg hc) hS kk
theorem kX5_64 {a1 : Int32} {v : Int32} {nL : Nat} {M' : Mem} (C : Cx p s m args c cc RX5 Z b) (hml : c.maxLocals = nL) (hsz : ls.size = nL) (hM : Ct l yX5_isPath cX5_isPath 3 (some .boolean) rm_X5_isPath Z b [.int a1] M (some (.int v)) M') (hR : rm_X5_isPath.frames + 1 ≤ R.frames ∧ 8 + (3 + 11) + rm_X5_isPath.locals ≤ R.locals) (hc : cells ≤ R.cells ∧ slots ≤ R.slots) (hroom : (rest.map fun v => v.category).sum ≤ 8) (hS : va_S (A0 b) s.heap H locs) (hW : Wd Z b M H) (hdg : decode cc pc = .ok (.invokestatic 64, 3))
    (kk : ∀ (H1 : Heap) (locs1 : List Loc), Wd Z b M' H1 → va_S (A0 b) s.heap H1 locs1 → W p l e R s m args below meth c H1 locs1 cells slots Q (F0 m (pc + 3) ls (.int v :: rest))) : W p l e R s m args below meth c H locs cells slots Q (F0 m pc ls (.int a1 :: rest)) :=
  cl_go (v := (some (.int v))) (va_runS (As := [.int a1]) ⟨C.1, C.2.1, hml, C.2.2.1, C.2.2.2.1⟩ hM (cwS 1 C.2.2.2.1 (gS q736 q737 q69 q738) rfl rfl rfl (by decide +kernel) hR) ⟨Pre.blind _ _ _ _, fun U hU hWU => ⟨rfl, C.2.2.2.2.call hS hU hWU, by rw [hU]; exact hW⟩⟩ rfl rfl hsz rfl (lv_room hroom) hdg hc) hS kk
theorem kX5_68 {a1 : Int32} {v : Int32} {nL : Nat} {M' : Mem} (C : Cx p s m args c cc RX5 Z b) (hml : c.maxLocals = nL) (hsz : ls.size = nL) (hM : Ct l yX5_isClient cX5_isClient 1 (some .boolean) rm_X5_isClient Z b [.int a1] M (some (.int v)) M') (hR : rm_X5_isClient.frames + 1 ≤ R.frames ∧ 8 + (1 + 11) + rm_X5_isClient.locals ≤ R.locals) (hc : cells ≤ R.cells ∧ slots ≤ R.slots) (hroom : (rest.map fun v => v.category).sum ≤ 8) (hS : va_S (A0 b) s.heap H locs) (hW : Wd Z b M H) (hdg : decode cc pc = .ok (.invokestatic 68, 3))
    (kk : ∀ (H1 : Heap) (locs1 : List Loc), Wd Z b M' H1 → va_S (A0 b) s.heap H1 locs1 → W p l e R s m args below meth c H1 locs1 cells slots Q (F0 m (pc + 3) ls (.int v :: rest))) : W p l e R s m args below meth c H locs cells slots Q (F0 m pc ls (.int a1 :: rest)) :=
  cl_go (v := (some (.int v))) (va_runS (As := [.int a1]) ⟨C.1, C.2.1, hml, C.2.2.1, C.2.2.2.1⟩ hM (cwS 1 C.2.2.2.1 (gS q727 q728 q69 q729) rfl rfl rfl (by decide +kernel) hR) ⟨Pre.blind _ _ _ _, fun U hU hWU => ⟨rfl, C.2.2.2.2.call hS hU hWU, by rw [hU]; exact hW⟩⟩ rfl rfl hsz rfl (lv_room hroom) hdg hc) hS kk
theorem kX5_71 {a1 : Int32} {v : Int32} {nL : Nat} {M' : Mem} (C : Cx p s m args c cc RX5 Z b) (hml : c.maxLocals = nL) (hsz : ls.size = nL) (hM : Ct l yX5_isName cX5_isName 1 (some .boolean) rm_X5_isName Z b [.int a1] M (some (.int v)) M') (hR : rm_X5_isName.frames + 1 ≤ R.frames ∧ 8 + (1 + 11) + rm_X5_isName.locals ≤ R.locals) (hc : cells ≤ R.cells ∧ slots ≤ R.slots) (hroom : (rest.map fun v => v.category).sum ≤ 8) (hS : va_S (A0 b) s.heap H locs) (hW : Wd Z b M H) (hdg : decode cc pc = .ok (.invokestatic 71, 3))
    (kk : ∀ (H1 : Heap) (locs1 : List Loc), Wd Z b M' H1 → va_S (A0 b) s.heap H1 locs1 → W p l e R s m args below meth c H1 locs1 cells slots Q (F0 m (pc + 3) ls (.int v :: rest))) : W p l e R s m args below meth c H locs cells slots Q (F0 m pc ls (.int a1 :: rest)) :=
  cl_go (v := (some (.int v))) (va_runS (As := [.int a1]) ⟨C.1, C.2.1, hml, C.2.2.1, C.2.2.2.1⟩ hM (cwS 1 C.2.2.2.1 (gS q733 q734 q69 q735) rfl rfl rfl (by decide +kernel) hR) ⟨Pre.blind _ _ _ _, fun U hU hWU => ⟨rfl, C.2.2.2.2.call hS hU hWU, by rw [hU]; exact hW⟩⟩ rfl rfl hsz rfl (lv_room hroom) hdg hc) hS kk
theorem kX5_74 {a1 : Int32} {v : Int32} {nL : Nat} {M' : Mem} (C : Cx p s m args c cc RX5 Z b) (hml : c.maxLocals = nL) (hsz : ls.size = nL) (hM : Ct l yX5_place cX5_place 4 (some .int) rm_X5_place Z b [.ref (b + 156), .int a1] M (some (.int v)) M') (hR : rm_X5_place.frames + 1 ≤ R.frames ∧ 8 + (4 + 11) + rm_X5_place.locals ≤ R.locals) (hc : cells ≤ R.cells ∧ slots ≤ R.slots) (hroom : (rest.map fun v => v.category).sum ≤ 8) (hS : va_S (A0 b) s.heap H locs) (hW : Wd Z b M H) (hdg : decode cc pc = .ok (.invokevirtual 74, 3))
    (kk : ∀ (H1 : Heap) (locs1 : List Loc), Wd Z b M' H1 → va_S (A0 b) s.heap H1 locs1 → W p l e R s m args below meth c H1 locs1 cells slots Q (F0 m (pc + 3) ls (.int v :: rest))) : W p l e R s m args below meth c H locs cells slots Q (F0 m pc ls (.int a1 :: .ref (b + 156) :: rest)) :=
  cl_go (v := (some (.int v))) (va_runV (As := [.int a1]) (b := b + 156) ⟨C.1, C.2.1, hml, C.2.2.1, C.2.2.2.1⟩ hM (cwV 1 C.2.2.2.1 (gV q743 q745 q43 q69 q746) rfl rfl rfl (by decide +kernel) hR) ⟨Pre.blind _ _ _ _, va_recv (q0 := 156) (ci := 5) (fs := [.ref (b + 157), .ref (b + 158), .ref (b + 159), .ref (b + 160), .ref (b + 161), .int (M 25 0), .ref (b + 162), .ref (b + 163), .int (M 28 0), .int (M 29 0), .ref (b + 164), .ref (b + 165), .ref (b + 166), .ref (b + 167), .ref (b + 168), .int (M 35 0), .ref (b + 169), .ref (b + 170), .ref (b + 171), .int (M 39 0)]) C.2.2.2.2.1 hW rfl ((wl_get (Z := Z) (b := b) (M := M) (k := 156) (by decide)).trans (congrArg (fun E => some (b + 156, E)) (en_156 Z b M))), fun U hU hWU => ⟨rfl, C.2.2.2.2.call hS hU hWU, by rw [hU]; exact hW⟩⟩ rfl rfl hsz rfl (lv_room hroom) hdg hc) hS kk
theorem kX5_78 {a1 a2 : Int32} {v : Int32} {nL : Nat} {M' : Mem} (C : Cx p s m args c cc RX5 Z b) (hml : c.maxLocals = nL) (hsz : ls.size = nL) (hM : Ct l yX5_isAbove cX5_isAbove 3 (some .boolean) rm_X5_isAbove Z b [.int a1, .int a2] M (some (.int v)) M') (hR : rm_X5_isAbove.frames + 1 ≤ R.frames ∧ 8 + (3 + 11) + rm_X5_isAbove.locals ≤ R.locals) (hc : cells ≤ R.cells ∧ slots ≤ R.slots) (hroom : (rest.map fun v => v.category).sum ≤ 8) (hS : va_S (A0 b) s.heap H locs) (hW : Wd Z b M H) (hdg : decode cc pc = .ok (.invokestatic 78, 3))
    (kk : ∀ (H1 : Heap) (locs1 : List Loc), Wd Z b M' H1 → va_S (A0 b) s.heap H1 locs1 → W p l e R s m args below meth c H1 locs1 cells slots Q (F0 m (pc + 3) ls (.int v :: rest))) : W p l e R s m args below meth c H locs cells slots Q (F0 m pc ls (.int a2 :: .int a1 :: rest)) :=
  cl_go (v := (some (.int v))) (va_runS (As := [.int a1, .int a2]) ⟨C.1, C.2.1, hml, C.2.2.1, C.2.2.2.1⟩ hM (cwS 2 C.2.2.2.1 (gS q767 q768 q69 q769) rfl rfl rfl (by decide +kernel) hR) ⟨Pre.blind _ _ _ _, fun U hU hWU => ⟨rfl, C.2.2.2.2.call hS hU hWU, by rw [hU]; exact hW⟩⟩ rfl rfl hsz rfl (lv_room hroom) hdg hc) hS kk
theorem kX5_91 {a1 : Int32} {v : Int32} {nL : Nat} {M' : Mem} (C : Cx p s m args c cc RX5 Z b) (hml : c.maxLocals = nL) (hsz : ls.size = nL) (hM : Ct l yX5_isOn cX5_isOn 2 (some .boolean) rm_X5_isOn Z b [.ref (b + 156), .int a1] M (some (.int v)) M') (hR : rm_X5_isOn.frames + 1 ≤ R.frames ∧ 8 + (2 + 11) + rm_X5_isOn.locals ≤ R.locals) (hc : cells ≤ R.cells ∧ slots ≤ R.slots) (hroom : (rest.map fun v => v.category).sum ≤ 8) (hS : va_S (A0 b) s.heap H locs) (hW : Wd Z b M H) (hdg : decode cc pc = .ok (.invokevirtual 91, 3))
    (kk : ∀ (H1 : Heap) (locs1 : List Loc), Wd Z b M' H1 → va_S (A0 b) s.heap H1 locs1 → W p l e R s m args below meth c H1 locs1 cells slots Q (F0 m (pc + 3) ls (.int v :: rest))) : W p l e R s m args below meth c H locs cells slots Q (F0 m pc ls (.int a1 :: .ref (b + 156) :: rest)) :=
  cl_go (v := (some (.int v))) (va_runV (As := [.int a1]) (b := b + 156) ⟨C.1, C.2.1, hml, C.2.2.1, C.2.2.2.1⟩ hM (cwV 1 C.2.2.2.1 (gV q763 q765 q48 q69 q766) rfl rfl rfl (by decide +kernel) hR) ⟨Pre.blind _ _ _ _, va_recv (q0 := 156) (ci := 5) (fs := [.ref (b + 157), .ref (b + 158), .ref (b + 159), .ref (b + 160), .ref (b + 161), .int (M 25 0), .ref (b + 162), .ref (b + 163), .int (M 28 0), .int (M 29 0), .ref (b + 164), .ref (b + 165), .ref (b + 166), .ref (b + 167), .ref (b + 168), .int (M 35 0), .ref (b + 169), .ref (b + 170), .ref (b + 171), .int (M 39 0)]) C.2.2.2.2.1 hW rfl ((wl_get (Z := Z) (b := b) (M := M) (k := 156) (by decide)).trans (congrArg (fun E => some (b + 156, E)) (en_156 Z b M))), fun U hU hWU => ⟨rfl, C.2.2.2.2.call hS hU hWU, by rw [hU]; exact hW⟩⟩ rfl rfl hsz rfl (lv_room hroom) hdg hc) hS kk
theorem kX5_94 {a1 a2 : Int32} {v : Int32} {nL : Nat} {M' : Mem} (C : Cx p s m args c cc RX5 Z b) (hml : c.maxLocals = nL) (hsz : ls.size = nL) (hM : Ct l yX5_covers cX5_covers 3 (some .boolean) rm_X5_covers Z b [.ref (b + 156), .int a1, .int a2] M (some (.int v)) M') (hR : rm_X5_covers.frames + 1 ≤ R.frames ∧ 8 + (3 + 11) + rm_X5_covers.locals ≤ R.locals) (hc : cells ≤ R.cells ∧ slots ≤ R.slots) (hroom : (rest.map fun v => v.category).sum ≤ 8) (hS : va_S (A0 b) s.heap H locs) (hW : Wd Z b M H) (hdg : decode cc pc = .ok (.invokevirtual 94, 3))
    (kk : ∀ (H1 : Heap) (locs1 : List Loc), Wd Z b M' H1 → va_S (A0 b) s.heap H1 locs1 → W p l e R s m args below meth c H1 locs1 cells slots Q (F0 m (pc + 3) ls (.int v :: rest))) : W p l e R s m args below meth c H locs cells slots Q (F0 m pc ls (.int a2 :: .int a1 :: .ref (b + 156) :: rest)) :=
  cl_go (v := (some (.int v))) (va_runV (As := [.int a1, .int a2]) (b := b + 156) ⟨C.1, C.2.1, hml, C.2.2.1, C.2.2.2.1⟩ hM (cwV 2 C.2.2.2.1 (gV q759 q761 q47 q69 q762) rfl rfl rfl (by decide +kernel) hR) ⟨Pre.blind _ _ _ _, va_recv (q0 := 156) (ci := 5) (fs := [.ref (b + 157), .ref (b + 158), .ref (b + 159), .ref (b + 160), .ref (b + 161), .int (M 25 0), .ref (b + 162), .ref (b + 163), .int (M 28 0), .int (M 29 0), .ref (b + 164), .ref (b + 165), .ref (b + 166), .ref (b + 167), .ref (b + 168), .int (M 35 0), .ref (b + 169), .ref (b + 170), .ref (b + 171), .int (M 39 0)]) C.2.2.2.2.1 hW rfl ((wl_get (Z := Z) (b := b) (M := M) (k := 156) (by decide)).trans (congrArg (fun E => some (b + 156, E)) (en_156 Z b M))), fun U hU hWU => ⟨rfl, C.2.2.2.2.call hS hU hWU, by rw [hU]; exact hW⟩⟩ rfl rfl hsz rfl (lv_room hroom) hdg hc) hS kk
theorem kX5_97 {a1 : Int32} {v : Int32} {nL : Nat} {M' : Mem} (C : Cx p s m args c cc RX5 Z b) (hml : c.maxLocals = nL) (hsz : ls.size = nL) (hM : Ct l yX5_set cX5_set 4 (some .int) rm_X5_set Z b [.ref (b + 156), .int a1] M (some (.int v)) M') (hR : rm_X5_set.frames + 1 ≤ R.frames ∧ 8 + (4 + 11) + rm_X5_set.locals ≤ R.locals) (hc : cells ≤ R.cells ∧ slots ≤ R.slots) (hroom : (rest.map fun v => v.category).sum ≤ 8) (hS : va_S (A0 b) s.heap H locs) (hW : Wd Z b M H) (hdg : decode cc pc = .ok (.invokevirtual 97, 3))
    (kk : ∀ (H1 : Heap) (locs1 : List Loc), Wd Z b M' H1 → va_S (A0 b) s.heap H1 locs1 → W p l e R s m args below meth c H1 locs1 cells slots Q (F0 m (pc + 3) ls (.int v :: rest))) : W p l e R s m args below meth c H locs cells slots Q (F0 m pc ls (.int a1 :: .ref (b + 156) :: rest)) :=
  cl_go (v := (some (.int v))) (va_runV (As := [.int a1]) (b := b + 156) ⟨C.1, C.2.1, hml, C.2.2.1, C.2.2.2.1⟩ hM (cwV 1 C.2.2.2.1 (gV q755 q757 q46 q69 q758) rfl rfl rfl (by decide +kernel) hR) ⟨Pre.blind _ _ _ _, va_recv (q0 := 156) (ci := 5) (fs := [.ref (b + 157), .ref (b + 158), .ref (b + 159), .ref (b + 160), .ref (b + 161), .int (M 25 0), .ref (b + 162), .ref (b + 163), .int (M 28 0), .int (M 29 0), .ref (b + 164), .ref (b + 165), .ref (b + 166), .ref (b + 167), .ref (b + 168), .int (M 35 0), .ref (b + 169), .ref (b + 170), .ref (b + 171), .int (M 39 0)]) C.2.2.2.2.1 hW rfl ((wl_get (Z := Z) (b := b) (M := M) (k := 156) (by decide)).trans (congrArg (fun E => some (b + 156, E)) (en_156 Z b M))), fun U hU hWU => ⟨rfl, C.2.2.2.2.call hS hU hWU, by rw [hU]; exact hW⟩⟩ rfl rfl hsz rfl (lv_room hroom) hdg hc) hS kk
theorem kX5_100 {a1 a2 : Int32} {v : Int32} {nL : Nat} {M' : Mem} (C : Cx p s m args c cc RX5 Z b) (hml : c.maxLocals = nL) (hsz : ls.size = nL) (hM : Ct l yX5_isOf cX5_isOf 3 (some .boolean) rm_X5_isOf Z b [.ref (b + 156), .int a1, .int a2] M (some (.int v)) M') (hR : rm_X5_isOf.frames + 1 ≤ R.frames ∧ 8 + (3 + 11) + rm_X5_isOf.locals ≤ R.locals) (hc : cells ≤ R.cells ∧ slots ≤ R.slots) (hroom : (rest.map fun v => v.category).sum ≤ 8) (hS : va_S (A0 b) s.heap H locs) (hW : Wd Z b M H) (hdg : decode cc pc = .ok (.invokevirtual 100, 3))
    (kk : ∀ (H1 : Heap) (locs1 : List Loc), Wd Z b M' H1 → va_S (A0 b) s.heap H1 locs1 → W p l e R s m args below meth c H1 locs1 cells slots Q (F0 m (pc + 3) ls (.int v :: rest))) : W p l e R s m args below meth c H locs cells slots Q (F0 m pc ls (.int a2 :: .int a1 :: .ref (b + 156) :: rest)) :=
  cl_go (v := (some (.int v))) (va_runV (As := [.int a1, .int a2]) (b := b + 156) ⟨C.1, C.2.1, hml, C.2.2.1, C.2.2.2.1⟩ hM (cwV 2 C.2.2.2.1 (gV q790 q792 q52 q69 q793) rfl rfl rfl (by decide +kernel) hR) ⟨Pre.blind _ _ _ _, va_recv (q0 := 156) (ci := 5) (fs := [.ref (b + 157), .ref (b + 158), .ref (b + 159), .ref (b + 160), .ref (b + 161), .int (M 25 0), .ref (b + 162), .ref (b + 163), .int (M 28 0), .int (M 29 0), .ref (b + 164), .ref (b + 165), .ref (b + 166), .ref (b + 167), .ref (b + 168), .int (M 35 0), .ref (b + 169), .ref (b + 170), .ref (b + 171), .int (M 39 0)]) C.2.2.2.2.1 hW rfl ((wl_get (Z := Z) (b := b) (M := M) (k := 156) (by decide)).trans (congrArg (fun E => some (b + 156, E)) (en_156 Z b M))), fun U hU hWU => ⟨rfl, C.2.2.2.2.call hS hU hWU, by rw [hU]; exact hW⟩⟩ rfl rfl hsz rfl (lv_room hroom) hdg hc) hS kk
theorem kX5_103 {a1 a2 a3 : Int32} {v : Int32} {nL : Nat} {M' : Mem} (C : Cx p s m args c cc RX5 Z b) (hml : c.maxLocals = nL) (hsz : ls.size = nL) (hM : Ct l yX5_may cX5_may 7 (some .boolean) rm_X5_may Z b [.ref (b + 156), .int a1, .int a2, .int a3] M (some (.int v)) M') (hR : rm_X5_may.frames + 1 ≤ R.frames ∧ 8 + (7 + 11) + rm_X5_may.locals ≤ R.locals) (hc : cells ≤ R.cells ∧ slots ≤ R.slots) (hroom : (rest.map fun v => v.category).sum ≤ 8) (hS : va_S (A0 b) s.heap H locs) (hW : Wd Z b M H) (hdg : decode cc pc = .ok (.invokevirtual 103, 3))
    (kk : ∀ (H1 : Heap) (locs1 : List Loc), Wd Z b M' H1 → va_S (A0 b) s.heap H1 locs1 → W p l e R s m args below meth c H1 locs1 cells slots Q (F0 m (pc + 3) ls (.int v :: rest))) : W p l e R s m args below meth c H locs cells slots Q (F0 m pc ls (.int a3 :: .int a2 :: .int a1 :: .ref (b + 156) :: rest)) :=
  cl_go (v := (some (.int v))) (va_runV (As := [.int a1, .int a2, .int a3]) (b := b + 156) ⟨C.1, C.2.1, hml, C.2.2.1, C.2.2.2.1⟩ hM (cwV 3 C.2.2.2.1 (gV q751 q753 q45 q69 q754) rfl rfl rfl (by decide +kernel) hR) ⟨Pre.blind _ _ _ _, va_recv (q0 := 156) (ci := 5) (fs := [.ref (b + 157), .ref (b + 158), .ref (b + 159), .ref (b + 160), .ref (b + 161), .int (M 25 0), .ref (b + 162), .ref (b + 163), .int (M 28 0), .int (M 29 0), .ref (b + 164), .ref (b + 165), .ref (b + 166), .ref (b + 167), .ref (b + 168), .int (M 35 0), .ref (b + 169), .ref (b + 170), .ref (b + 171), .int (M 39 0)]) C.2.2.2.2.1 hW rfl ((wl_get (Z := Z) (b := b) (M := M) (k := 156) (by decide)).trans (congrArg (fun E => some (b + 156, E)) (en_156 Z b M))), fun U hU hWU => ⟨rfl, C.2.2.2.2.call hS hU hWU, by rw [hU]; exact hW⟩⟩ rfl rfl hsz rfl (lv_room hroom) hdg hc) hS kk
theorem kX5_106 {a1 a2 a3 : Int32} {v : Int32} {nL : Nat} {M' : Mem} (C : Cx p s m args c cc RX5 Z b) (hml : c.maxLocals = nL) (hsz : ls.size = nL) (hM : Ct l yX5_isRight cX5_isRight 4 (some .boolean) rm_X5_isRight Z b [.ref (b + 156), .int a1, .int a2, .int a3] M (some (.int v)) M') (hR : rm_X5_isRight.frames + 1 ≤ R.frames ∧ 8 + (4 + 11) + rm_X5_isRight.locals ≤ R.locals) (hc : cells ≤ R.cells ∧ slots ≤ R.slots) (hroom : (rest.map fun v => v.category).sum ≤ 8) (hS : va_S (A0 b) s.heap H locs) (hW : Wd Z b M H) (hdg : decode cc pc = .ok (.invokevirtual 106, 3))
    (kk : ∀ (H1 : Heap) (locs1 : List Loc), Wd Z b M' H1 → va_S (A0 b) s.heap H1 locs1 → W p l e R s m args below meth c H1 locs1 cells slots Q (F0 m (pc + 3) ls (.int v :: rest))) : W p l e R s m args below meth c H locs cells slots Q (F0 m pc ls (.int a3 :: .int a2 :: .int a1 :: .ref (b + 156) :: rest)) :=
  cl_go (v := (some (.int v))) (va_runV (As := [.int a1, .int a2, .int a3]) (b := b + 156) ⟨C.1, C.2.1, hml, C.2.2.1, C.2.2.2.1⟩ hM (cwV 3 C.2.2.2.1 (gV q723 q725 q41 q69 q726) rfl rfl rfl (by decide +kernel) hR) ⟨Pre.blind _ _ _ _, va_recv (q0 := 156) (ci := 5) (fs := [.ref (b + 157), .ref (b + 158), .ref (b + 159), .ref (b + 160), .ref (b + 161), .int (M 25 0), .ref (b + 162), .ref (b + 163), .int (M 28 0), .int (M 29 0), .ref (b + 164), .ref (b + 165), .ref (b + 166), .ref (b + 167), .ref (b + 168), .int (M 35 0), .ref (b + 169), .ref (b + 170), .ref (b + 171), .int (M 39 0)]) C.2.2.2.2.1 hW rfl ((wl_get (Z := Z) (b := b) (M := M) (k := 156) (by decide)).trans (congrArg (fun E => some (b + 156, E)) (en_156 Z b M))), fun U hU hWU => ⟨rfl, C.2.2.2.2.call hS hU hWU, by rw [hU]; exact hW⟩⟩ rfl rfl hsz rfl (lv_room hroom) hdg hc) hS kk
theorem kX5_109 {a1 : Int32} {v : Int32} {nL : Nat} {M' : Mem} (C : Cx p s m args c cc RX5 Z b) (hml : c.maxLocals = nL) (hsz : ls.size = nL) (hM : Ct l yX5_kinds cX5_kinds 3 (some .int) rm_X5_kinds Z b [.ref (b + 156), .int a1] M (some (.int v)) M') (hR : rm_X5_kinds.frames + 1 ≤ R.frames ∧ 8 + (3 + 11) + rm_X5_kinds.locals ≤ R.locals) (hc : cells ≤ R.cells ∧ slots ≤ R.slots) (hroom : (rest.map fun v => v.category).sum ≤ 8) (hS : va_S (A0 b) s.heap H locs) (hW : Wd Z b M H) (hdg : decode cc pc = .ok (.invokevirtual 109, 3))
    (kk : ∀ (H1 : Heap) (locs1 : List Loc), Wd Z b M' H1 → va_S (A0 b) s.heap H1 locs1 → W p l e R s m args below meth c H1 locs1 cells slots Q (F0 m (pc + 3) ls (.int v :: rest))) : W p l e R s m args below meth c H locs cells slots Q (F0 m pc ls (.int a1 :: .ref (b + 156) :: rest)) :=
  cl_go (v := (some (.int v))) (va_runV (As := [.int a1]) (b := b + 156) ⟨C.1, C.2.1, hml, C.2.2.1, C.2.2.2.1⟩ hM (cwV 1 C.2.2.2.1 (gV q739 q741 q42 q69 q742) rfl rfl rfl (by decide +kernel) hR) ⟨Pre.blind _ _ _ _, va_recv (q0 := 156) (ci := 5) (fs := [.ref (b + 157), .ref (b + 158), .ref (b + 159), .ref (b + 160), .ref (b + 161), .int (M 25 0), .ref (b + 162), .ref (b + 163), .int (M 28 0), .int (M 29 0), .ref (b + 164), .ref (b + 165), .ref (b + 166), .ref (b + 167), .ref (b + 168), .int (M 35 0), .ref (b + 169), .ref (b + 170), .ref (b + 171), .int (M 39 0)]) C.2.2.2.2.1 hW rfl ((wl_get (Z := Z) (b := b) (M := M) (k := 156) (by decide)).trans (congrArg (fun E => some (b + 156, E)) (en_156 Z b M))), fun U hU hWU => ⟨rfl, C.2.2.2.2.call hS hU hWU, by rw [hU]; exact hW⟩⟩ rfl rfl hsz rfl (lv_room hroom) hdg hc) hS kk
theorem kX5_112 {a1 a2 a3 : Int32} {v : Int32} {nL : Nat} {M' : Mem} (C : Cx p s m args c cc RX5 Z b) (hml : c.maxLocals = nL) (hsz : ls.size = nL) (hM : Ct l yX5_mayMake cX5_mayMake 4 (some .boolean) rm_X5_mayMake Z b [.ref (b + 156), .int a1, .int a2, .int a3] M (some (.int v)) M') (hR : rm_X5_mayMake.frames + 1 ≤ R.frames ∧ 8 + (4 + 11) + rm_X5_mayMake.locals ≤ R.locals) (hc : cells ≤ R.cells ∧ slots ≤ R.slots) (hroom : (rest.map fun v => v.category).sum ≤ 8) (hS : va_S (A0 b) s.heap H locs) (hW : Wd Z b M H) (hdg : decode cc pc = .ok (.invokevirtual 112, 3))
    (kk : ∀ (H1 : Heap) (locs1 : List Loc), Wd Z b M' H1 → va_S (A0 b) s.heap H1 locs1 → W p l e R s m args below meth c H1 locs1 cells slots Q (F0 m (pc + 3) ls (.int v :: rest))) : W p l e R s m args below meth c H locs cells slots Q (F0 m pc ls (.int a3 :: .int a2 :: .int a1 :: .ref (b + 156) :: rest)) :=
  cl_go (v := (some (.int v))) (va_runV (As := [.int a1, .int a2, .int a3]) (b := b + 156) ⟨C.1, C.2.1, hml, C.2.2.1, C.2.2.2.1⟩ hM (cwV 3 C.2.2.2.1 (gV q747 q749 q44 q69 q750) rfl rfl rfl (by decide +kernel) hR) ⟨Pre.blind _ _ _ _, va_recv (q0 := 156) (ci := 5) (fs := [.ref (b + 157), .ref (b + 158), .ref (b + 159), .ref (b + 160), .ref (b + 161), .int (M 25 0), .ref (b + 162), .ref (b + 163), .int (M 28 0), .int (M 29 0), .ref (b + 164), .ref (b + 165), .ref (b + 166), .ref (b + 167), .ref (b + 168), .int (M 35 0), .ref (b + 169), .ref (b + 170), .ref (b + 171), .int (M 39 0)]) C.2.2.2.2.1 hW rfl ((wl_get (Z := Z) (b := b) (M := M) (k := 156) (by decide)).trans (congrArg (fun E => some (b + 156, E)) (en_156 Z b M))), fun U hU hWU => ⟨rfl, C.2.2.2.2.call hS hU hWU, by rw [hU]; exact hW⟩⟩ rfl rfl hsz rfl (lv_room hroom) hdg hc) hS kk
theorem kX5_115 {v : Int32} {nL : Nat} {M' : Mem} (C : Cx p s m args c cc RX5 Z b) (hml : c.maxLocals = nL) (hsz : ls.size = nL) (hM : Ct l yX5_count cX5_count 3 (some .int) rm_X5_count Z b [.ref (b + 156)] M (some (.int v)) M') (hR : rm_X5_count.frames + 1 ≤ R.frames ∧ 8 + (3 + 11) + rm_X5_count.locals ≤ R.locals) (hc : cells ≤ R.cells ∧ slots ≤ R.slots) (hroom : (rest.map fun v => v.category).sum ≤ 8) (hS : va_S (A0 b) s.heap H locs) (hW : Wd Z b M H) (hdg : decode cc pc = .ok (.invokevirtual 115, 3))
    (kk : ∀ (H1 : Heap) (locs1 : List Loc), Wd Z b M' H1 → va_S (A0 b) s.heap H1 locs1 → W p l e R s m args below meth c H1 locs1 cells slots Q (F0 m (pc + 3) ls (.int v :: rest))) : W p l e R s m args below meth c H locs cells slots Q (F0 m pc ls (.ref (b + 156) :: rest)) :=
  cl_go (v := (some (.int v))) (va_runV (As := []) (b := b + 156) ⟨C.1, C.2.1, hml, C.2.2.1, C.2.2.2.1⟩ hM (cwV 0 C.2.2.2.1 (gV q770 q772 q49 q69 q773) rfl rfl rfl (by decide +kernel) hR) ⟨Pre.blind _ _ _ _, va_recv (q0 := 156) (ci := 5) (fs := [.ref (b + 157), .ref (b + 158), .ref (b + 159), .ref (b + 160), .ref (b + 161), .int (M 25 0), .ref (b + 162), .ref (b + 163), .int (M 28 0), .int (M 29 0), .ref (b + 164), .ref (b + 165), .ref (b + 166), .ref (b + 167), .ref (b + 168), .int (M 35 0), .ref (b + 169), .ref (b + 170), .ref (b + 171), .int (M 39 0)]) C.2.2.2.2.1 hW rfl ((wl_get (Z := Z) (b := b) (M := M) (k := 156) (by decide)).trans (congrArg (fun E => some (b + 156, E)) (en_156 Z b M))), fun U hU hWU => ⟨rfl, C.2.2.2.2.call hS hU hWU, by rw [hU]; exact hW⟩⟩ rfl rfl hsz rfl (lv_room hroom) hdg hc) hS kk
theorem kX5_119 {a1 a2 a3 : Int32} {v : Int32} {nL : Nat} {M' : Mem} (C : Cx p s m args c cc RX5 Z b) (hml : c.maxLocals = nL) (hsz : ls.size = nL) (hM : Ct l yX5_makes cX5_makes 5 (some .int) rm_X5_makes Z b [.ref (b + 156), .int a1, .int a2, .int a3] M (some (.int v)) M') (hR : rm_X5_makes.frames + 1 ≤ R.frames ∧ 8 + (5 + 11) + rm_X5_makes.locals ≤ R.locals) (hc : cells ≤ R.cells ∧ slots ≤ R.slots) (hroom : (rest.map fun v => v.category).sum ≤ 8) (hS : va_S (A0 b) s.heap H locs) (hW : Wd Z b M H) (hdg : decode cc pc = .ok (.invokevirtual 119, 3))
    (kk : ∀ (H1 : Heap) (locs1 : List Loc), Wd Z b M' H1 → va_S (A0 b) s.heap H1 locs1 → W p l e R s m args below meth c H1 locs1 cells slots Q (F0 m (pc + 3) ls (.int v :: rest))) : W p l e R s m args below meth c H locs cells slots Q (F0 m pc ls (.int a3 :: .int a2 :: .int a1 :: .ref (b + 156) :: rest)) :=
  cl_go (v := (some (.int v))) (va_runV (As := [.int a1, .int a2, .int a3]) (b := b + 156) ⟨C.1, C.2.1, hml, C.2.2.1, C.2.2.2.1⟩ hM (cwV 3 C.2.2.2.1 (gV q774 q776 q50 q69 q777) rfl rfl rfl (by decide +kernel) hR) ⟨Pre.blind _ _ _ _, va_recv (q0 := 156) (ci := 5) (fs := [.ref (b + 157), .ref (b + 158), .ref (b + 159), .ref (b + 160), .ref (b + 161), .int (M 25 0), .ref (b + 162), .ref (b + 163), .int (M 28 0), .int (M 29 0), .ref (b + 164), .ref (b + 165), .ref (b + 166), .ref (b + 167), .ref (b + 168), .int (M 35 0), .ref (b + 169), .ref (b + 170), .ref (b + 171), .int (M 39 0)]) C.2.2.2.2.1 hW rfl ((wl_get (Z := Z) (b := b) (M := M) (k := 156) (by decide)).trans (congrArg (fun E => some (b + 156, E)) (en_156 Z b M))), fun U hU hWU => ⟨rfl, C.2.2.2.2.call hS hU hWU, by rw [hU]; exact hW⟩⟩ rfl rfl hsz rfl (lv_room hroom) hdg hc) hS kk
theorem kX5_123 {a1 a2 a3 a4 : Int32} {v : Int32} {nL : Nat} {M' : Mem} (C : Cx p s m args c cc RX5 Z b) (hml : c.maxLocals = nL) (hsz : ls.size = nL) (hM : Ct l yX5_puts cX5_puts 8 (some .int) rm_X5_puts Z b [.ref (b + 156), .int a1, .int a2, .int a3, .int a4] M (some (.int v)) M') (hR : rm_X5_puts.frames + 1 ≤ R.frames ∧ 8 + (8 + 11) + rm_X5_puts.locals ≤ R.locals) (hc : cells ≤ R.cells ∧ slots ≤ R.slots) (hroom : (rest.map fun v => v.category).sum ≤ 8) (hS : va_S (A0 b) s.heap H locs) (hW : Wd Z b M H) (hdg : decode cc pc = .ok (.invokevirtual 123, 3))
    (kk : ∀ (H1 : Heap) (locs1 : List Loc), Wd Z b M' H1 → va_S (A0 b) s.heap H1 locs1 → W p l e R s m args below meth c H1 locs1 cells slots Q (F0 m (pc + 3) ls (.int v :: rest))) : W p l e R s m args below meth c H locs cells slots Q (F0 m pc ls (.int a4 :: .int a3 :: .int a2 :: .int a1 :: .ref (b + 156) :: rest)) :=
  cl_go (v := (some (.int v))) (va_runV (As := [.int a1, .int a2, .int a3, .int a4]) (b := b + 156) ⟨C.1, C.2.1, hml, C.2.2.1, C.2.2.2.1⟩ hM (cwV 4 C.2.2.2.1 (gV q782 q784 q51 q69 q785) rfl rfl rfl (by decide +kernel) hR) ⟨Pre.blind _ _ _ _, va_recv (q0 := 156) (ci := 5) (fs := [.ref (b + 157), .ref (b + 158), .ref (b + 159), .ref (b + 160), .ref (b + 161), .int (M 25 0), .ref (b + 162), .ref (b + 163), .int (M 28 0), .int (M 29 0), .ref (b + 164), .ref (b + 165), .ref (b + 166), .ref (b + 167), .ref (b + 168), .int (M 35 0), .ref (b + 169), .ref (b + 170), .ref (b + 171), .int (M 39 0)]) C.2.2.2.2.1 hW rfl ((wl_get (Z := Z) (b := b) (M := M) (k := 156) (by decide)).trans (congrArg (fun E => some (b + 156, E)) (en_156 Z b M))), fun U hU hWU => ⟨rfl, C.2.2.2.2.call hS hU hWU, by rw [hU]; exact hW⟩⟩ rfl rfl hsz rfl (lv_room hroom) hdg hc) hS kk
theorem kX5_130 {a1 : Int32} {nL : Nat} {M' : Mem} (C : Cx p s m args c cc RX5 Z b) (hml : c.maxLocals = nL) (hsz : ls.size = nL) (hM : Ct l yX5_goes cX5_goes 3 (none : Option Jvm.ClassFile.FieldType) rm_X5_goes Z b [.ref (b + 156), .int a1] M none M') (hR : rm_X5_goes.frames + 1 ≤ R.frames ∧ 8 + (3 + 11) + rm_X5_goes.locals ≤ R.locals) (hc : cells ≤ R.cells ∧ slots ≤ R.slots) (hroom : (rest.map fun v => v.category).sum ≤ 8) (hS : va_S (A0 b) s.heap H locs) (hW : Wd Z b M H) (hdg : decode cc pc = .ok (.invokevirtual 130, 3))
    (kk : ∀ (H1 : Heap) (locs1 : List Loc), Wd Z b M' H1 → va_S (A0 b) s.heap H1 locs1 → W p l e R s m args below meth c H1 locs1 cells slots Q (F0 m (pc + 3) ls rest)) : W p l e R s m args below meth c H locs cells slots Q (F0 m pc ls (.int a1 :: .ref (b + 156) :: rest)) :=
  cl_go (v := none) (va_runV (As := [.int a1]) (b := b + 156) ⟨C.1, C.2.1, hml, C.2.2.1, C.2.2.2.1⟩ hM (cwV 1 C.2.2.2.1 (gV q794 q796 q53 q69 q797) rfl rfl rfl (by decide +kernel) hR) ⟨Pre.blind _ _ _ _, va_recv (q0 := 156) (ci := 5) (fs := [.ref (b + 157), .ref (b + 158), .ref (b + 159), .ref (b + 160), .ref (b + 161), .int (M 25 0), .ref (b + 162), .ref (b + 163), .int (M 28 0), .int (M 29 0), .ref (b + 164), .ref (b + 165), .ref (b + 166), .ref (b + 167), .ref (b + 168), .int (M 35 0), .ref (b + 169), .ref (b + 170), .ref (b + 171), .int (M 39 0)]) C.2.2.2.2.1 hW rfl ((wl_get (Z := Z) (b := b) (M := M) (k := 156) (by decide)).trans (congrArg (fun E => some (b + 156, E)) (en_156 Z b M))), fun U hU hWU => ⟨rfl, C.2.2.2.2.call hS hU hWU, by rw [hU]; exact hW⟩⟩ rfl rfl hsz rfl (lv_room hroom) hdg hc) hS kk
theorem kX5_134 {a1 : Int32} {v : Int32} {nL : Nat} {M' : Mem} (C : Cx p s m args c cc RX5 Z b) (hml : c.maxLocals = nL) (hsz : ls.size = nL) (hM : Ct l yX5_digits cX5_digits 1 (some .int) rm_X5_digits Z b [.int a1] M (some (.int v)) M') (hR : rm_X5_digits.frames + 1 ≤ R.frames ∧ 8 + (1 + 11) + rm_X5_digits.locals ≤ R.locals) (hc : cells ≤ R.cells ∧ slots ≤ R.slots) (hroom : (rest.map fun v => v.category).sum ≤ 8) (hS : va_S (A0 b) s.heap H locs) (hW : Wd Z b M H) (hdg : decode cc pc = .ok (.invokestatic 134, 3))
    (kk : ∀ (H1 : Heap) (locs1 : List Loc), Wd Z b M' H1 → va_S (A0 b) s.heap H1 locs1 → W p l e R s m args below meth c H1 locs1 cells slots Q (F0 m (pc + 3) ls (.int v :: rest))) : W p l e R s m args below meth c H locs cells slots Q (F0 m pc ls (.int a1 :: rest)) :=
  cl_go (v := (some (.int v))) (va_runS (As := [.int a1]) ⟨C.1, C.2.1, hml, C.2.2.1, C.2.2.2.1⟩ hM (cwS 1 C.2.2.2.1 (gS q814 q815 q69 q816) rfl rfl rfl (by decide +kernel) hR) ⟨Pre.blind _ _ _ _, fun U hU hWU => ⟨rfl, C.2.2.2.2.call hS hU hWU, by rw [hU]; exact hW⟩⟩ rfl rfl hsz rfl (lv_room hroom) hdg hc) hS kk
theorem kX5_137 {a1 a2 a3 : Int32} {v : Int32} {nL : Nat} {M' : Mem} (C : Cx p s m args c cc RX5 Z b) (hml : c.maxLocals = nL) (hsz : ls.size = nL) (hM : Ct l yX5_mayAll cX5_mayAll 6 (some .boolean) rm_X5_mayAll Z b [.ref (b + 156), .int a1, .int a2, .int a3] M (some (.int v)) M') (hR : rm_X5_mayAll.frames + 1 ≤ R.frames ∧ 8 + (6 + 11) + rm_X5_mayAll.locals ≤ R.locals) (hc : cells ≤ R.cells ∧ slots ≤ R.slots) (hroom : (rest.map fun v => v.category).sum ≤ 8) (hS : va_S (A0 b) s.heap H locs) (hW : Wd Z b M H) (hdg : decode cc pc = .ok (.invokevirtual 137, 3))
    (kk : ∀ (H1 : Heap) (locs1 : List Loc), Wd Z b M' H1 → va_S (A0 b) s.heap H1 locs1 → W p l e R s m args below meth c H1 locs1 cells slots Q (F0 m (pc + 3) ls (.int v :: rest))) : W p l e R s m args below meth c H locs cells slots Q (F0 m pc ls (.int a3 :: .int a2 :: .int a1 :: .ref (b + 156) :: rest)) :=
  cl_go (v := (some (.int v))) (va_runV (As := [.int a1, .int a2, .int a3]) (b := b + 156) ⟨C.1, C.2.1, hml, C.2.2.1, C.2.2.2.1⟩ hM (cwV 3 C.2.2.2.1 (gV q817 q819 q55 q69 q820) rfl rfl rfl (by decide +kernel) hR) ⟨Pre.blind _ _ _ _, va_recv (q0 := 156) (ci := 5) (fs := [.ref (b + 157), .ref (b + 158), .ref (b + 159), .ref (b + 160), .ref (b + 161), .int (M 25 0), .ref (b + 162), .ref (b + 163), .int (M 28 0), .int (M 29 0), .ref (b + 164), .ref (b + 165), .ref (b + 166), .ref (b + 167), .ref (b + 168), .int (M 35 0), .ref (b + 169), .ref (b + 170), .ref (b + 171), .int (M 39 0)]) C.2.2.2.2.1 hW rfl ((wl_get (Z := Z) (b := b) (M := M) (k := 156) (by decide)).trans (congrArg (fun E => some (b + 156, E)) (en_156 Z b M))), fun U hU hWU => ⟨rfl, C.2.2.2.2.call hS hU hWU, by rw [hU]; exact hW⟩⟩ rfl rfl hsz rfl (lv_room hroom) hdg hc) hS kk
theorem kX5_140 {a1 a2 a3 : Int32} {nL : Nat} {M' : Mem} (C : Cx p s m args c cc RX5 Z b) (hml : c.maxLocals = nL) (hsz : ls.size = nL) (hM : Ct l yX5_carries cX5_carries 7 (none : Option Jvm.ClassFile.FieldType) rm_X5_carries Z b [.ref (b + 156), .int a1, .int a2, .int a3] M none M') (hR : rm_X5_carries.frames + 1 ≤ R.frames ∧ 8 + (7 + 11) + rm_X5_carries.locals ≤ R.locals) (hc : cells ≤ R.cells ∧ slots ≤ R.slots) (hroom : (rest.map fun v => v.category).sum ≤ 8) (hS : va_S (A0 b) s.heap H locs) (hW : Wd Z b M H) (hdg : decode cc pc = .ok (.invokevirtual 140, 3))
    (kk : ∀ (H1 : Heap) (locs1 : List Loc), Wd Z b M' H1 → va_S (A0 b) s.heap H1 locs1 → W p l e R s m args below meth c H1 locs1 cells slots Q (F0 m (pc + 3) ls rest)) : W p l e R s m args below meth c H locs cells slots Q (F0 m pc ls (.int a3 :: .int a2 :: .int a1 :: .ref (b + 156) :: rest)) :=
  cl_go (v := none) (va_runV (As := [.int a1, .int a2, .int a3]) (b := b + 156) ⟨C.1, C.2.1, hml, C.2.2.1, C.2.2.2.1⟩ hM (cwV 3 C.2.2.2.1 (gV q821 q823 q56 q69 q824) rfl rfl rfl (by decide +kernel) hR) ⟨Pre.blind _ _ _ _, va_recv (q0 := 156) (ci := 5) (fs := [.ref (b + 157), .ref (b + 158), .ref (b + 159), .ref (b + 160), .ref (b + 161), .int (M 25 0), .ref (b + 162), .ref (b + 163), .int (M 28 0), .int (M 29 0), .ref (b + 164), .ref (b + 165), .ref (b + 166), .ref (b + 167), .ref (b + 168), .int (M 35 0), .ref (b + 169), .ref (b + 170), .ref (b + 171), .int (M 39 0)]) C.2.2.2.2.1 hW rfl ((wl_get (Z := Z) (b := b) (M := M) (k := 156) (by decide)).trans (congrArg (fun E => some (b + 156, E)) (en_156 Z b M))), fun U hU hWU => ⟨rfl, C.2.2.2.2.call hS hU hWU, by rw [hU]; exact hW⟩⟩ rfl rfl hsz rfl (lv_room hroom) hdg hc) hS kk
theorem kX5_144 {v : Int32} {nL : Nat} {M' : Mem} (C : Cx p s m args c cc RX5 Z b) (hml : c.maxLocals = nL) (hsz : ls.size = nL) (hM : Ct l yX5_lowest cX5_lowest 3 (some .int) rm_X5_lowest Z b [.ref (b + 156)] M (some (.int v)) M') (hR : rm_X5_lowest.frames + 1 ≤ R.frames ∧ 8 + (3 + 11) + rm_X5_lowest.locals ≤ R.locals) (hc : cells ≤ R.cells ∧ slots ≤ R.slots) (hroom : (rest.map fun v => v.category).sum ≤ 8) (hS : va_S (A0 b) s.heap H locs) (hW : Wd Z b M H) (hdg : decode cc pc = .ok (.invokevirtual 144, 3))
    (kk : ∀ (H1 : Heap) (locs1 : List Loc), Wd Z b M' H1 → va_S (A0 b) s.heap H1 locs1 → W p l e R s m args below meth c H1 locs1 cells slots Q (F0 m (pc + 3) ls (.int v :: rest))) : W p l e R s m args below meth c H locs cells slots Q (F0 m pc ls (.ref (b + 156) :: rest)) :=
  cl_go (v := (some (.int v))) (va_runV (As := []) (b := b + 156) ⟨C.1, C.2.1, hml, C.2.2.1, C.2.2.2.1⟩ hM (cwV 0 C.2.2.2.1 (gV q825 q827 q57 q69 q828) rfl rfl rfl (by decide +kernel) hR) ⟨Pre.blind _ _ _ _, va_recv (q0 := 156) (ci := 5) (fs := [.ref (b + 157), .ref (b + 158), .ref (b + 159), .ref (b + 160), .ref (b + 161), .int (M 25 0), .ref (b + 162), .ref (b + 163), .int (M 28 0), .int (M 29 0), .ref (b + 164), .ref (b + 165), .ref (b + 166), .ref (b + 167), .ref (b + 168), .int (M 35 0), .ref (b + 169), .ref (b + 170), .ref (b + 171), .int (M 39 0)]) C.2.2.2.2.1 hW rfl ((wl_get (Z := Z) (b := b) (M := M) (k := 156) (by decide)).trans (congrArg (fun E => some (b + 156, E)) (en_156 Z b M))), fun U hU hWU => ⟨rfl, C.2.2.2.2.call hS hU hWU, by rw [hU]; exact hW⟩⟩ rfl rfl hsz rfl (lv_room hroom) hdg hc) hS kk
theorem kX5_147 {a1 a2 : Int32} {v : Int32} {nL : Nat} {M' : Mem} (C : Cx p s m args c cc RX5 Z b) (hml : c.maxLocals = nL) (hsz : ls.size = nL) (hM : Ct l yX5_power cX5_power 4 (some .int) rm_X5_power Z b [.int a1, .int a2] M (some (.int v)) M') (hR : rm_X5_power.frames + 1 ≤ R.frames ∧ 8 + (4 + 11) + rm_X5_power.locals ≤ R.locals) (hc : cells ≤ R.cells ∧ slots ≤ R.slots) (hroom : (rest.map fun v => v.category).sum ≤ 8) (hS : va_S (A0 b) s.heap H locs) (hW : Wd Z b M H) (hdg : decode cc pc = .ok (.invokestatic 147, 3))
    (kk : ∀ (H1 : Heap) (locs1 : List Loc), Wd Z b M' H1 → va_S (A0 b) s.heap H1 locs1 → W p l e R s m args below meth c H1 locs1 cells slots Q (F0 m (pc + 3) ls (.int v :: rest))) : W p l e R s m args below meth c H locs cells slots Q (F0 m pc ls (.int a2 :: .int a1 :: rest)) :=
  cl_go (v := (some (.int v))) (va_runS (As := [.int a1, .int a2]) ⟨C.1, C.2.1, hml, C.2.2.1, C.2.2.2.1⟩ hM (cwS 2 C.2.2.2.1 (gS q829 q830 q69 q831) rfl rfl rfl (by decide +kernel) hR) ⟨Pre.blind _ _ _ _, fun U hU hWU => ⟨rfl, C.2.2.2.2.call hS hU hWU, by rw [hU]; exact hW⟩⟩ rfl rfl hsz rfl (lv_room hroom) hdg hc) hS kk
theorem kX5_151 {a1 a2 a3 a4 a5 a6 : Int32} {v : Int32} {nL : Nat} {M' : Mem} (C : Cx p s m args c cc RX5 Z b) (hml : c.maxLocals = nL) (hsz : ls.size = nL) (hM : Ct l yX5_brings cX5_brings 13 (some .int) rm_X5_brings Z b [.ref (b + 156), .int a1, .int a2, .int a3, .int a4, .int a5, .int a6] M (some (.int v)) M') (hR : rm_X5_brings.frames + 1 ≤ R.frames ∧ 8 + (13 + 11) + rm_X5_brings.locals ≤ R.locals) (hc : cells ≤ R.cells ∧ slots ≤ R.slots) (hroom : (rest.map fun v => v.category).sum ≤ 8) (hS : va_S (A0 b) s.heap H locs) (hW : Wd Z b M H) (hdg : decode cc pc = .ok (.invokevirtual 151, 3))
    (kk : ∀ (H1 : Heap) (locs1 : List Loc), Wd Z b M' H1 → va_S (A0 b) s.heap H1 locs1 → W p l e R s m args below meth c H1 locs1 cells slots Q (F0 m (pc + 3) ls (.int v :: rest))) : W p l e R s m args below meth c H locs cells slots Q (F0 m pc ls (.int a6 :: .int a5 :: .int a4 :: .int a3 :: .int a2 :: .int a1 :: .ref (b + 156) :: rest)) :=
  cl_go (v := (some (.int v))) (va_runV (As := [.int a1, .int a2, .int a3, .int a4, .int a5, .int a6]) (b := b + 156) ⟨C.1, C.2.1, hml, C.2.2.1, C.2.2.2.1⟩ hM (cwV 6 C.2.2.2.1 (gV q810 q812 q54 q69 q813) rfl rfl rfl (by decide +kernel) hR) ⟨Pre.blind _ _ _ _, va_recv (q0 := 156) (ci := 5) (fs := [.ref (b + 157), .ref (b + 158), .ref (b + 159), .ref (b + 160), .ref (b + 161), .int (M 25 0), .ref (b + 162), .ref (b + 163), .int (M 28 0), .int (M 29 0), .ref (b + 164), .ref (b + 165), .ref (b + 166), .ref (b + 167), .ref (b + 168), .int (M 35 0), .ref (b + 169), .ref (b + 170), .ref (b + 171), .int (M 39 0)]) C.2.2.2.2.1 hW rfl ((wl_get (Z := Z) (b := b) (M := M) (k := 156) (by decide)).trans (congrArg (fun E => some (b + 156, E)) (en_156 Z b M))), fun U hU hWU => ⟨rfl, C.2.2.2.2.call hS hU hWU, by rw [hU]; exact hW⟩⟩ rfl rfl hsz rfl (lv_room hroom) hdg hc) hS kk
theorem kX5_155 {a1 : Int32} {v : Int32} {nL : Nat} {M' : Mem} (C : Cx p s m args c cc RX5 Z b) (hml : c.maxLocals = nL) (hsz : ls.size = nL) (hM : Ct l yX5_asks cX5_asks 2 (some .boolean) rm_X5_asks Z b [.ref (b + 156), .int a1] M (some (.int v)) M') (hR : rm_X5_asks.frames + 1 ≤ R.frames ∧ 8 + (2 + 11) + rm_X5_asks.locals ≤ R.locals) (hc : cells ≤ R.cells ∧ slots ≤ R.slots) (hroom : (rest.map fun v => v.category).sum ≤ 8) (hS : va_S (A0 b) s.heap H locs) (hW : Wd Z b M H) (hdg : decode cc pc = .ok (.invokevirtual 155, 3))
    (kk : ∀ (H1 : Heap) (locs1 : List Loc), Wd Z b M' H1 → va_S (A0 b) s.heap H1 locs1 → W p l e R s m args below meth c H1 locs1 cells slots Q (F0 m (pc + 3) ls (.int v :: rest))) : W p l e R s m args below meth c H locs cells slots Q (F0 m pc ls (.int a1 :: .ref (b + 156) :: rest)) :=
  cl_go (v := (some (.int v))) (va_runV (As := [.int a1]) (b := b + 156) ⟨C.1, C.2.1, hml, C.2.2.1, C.2.2.2.1⟩ hM (cwV 1 C.2.2.2.1 (gV q840 q842 q58 q69 q843) rfl rfl rfl (by decide +kernel) hR) ⟨Pre.blind _ _ _ _, va_recv (q0 := 156) (ci := 5) (fs := [.ref (b + 157), .ref (b + 158), .ref (b + 159), .ref (b + 160), .ref (b + 161), .int (M 25 0), .ref (b + 162), .ref (b + 163), .int (M 28 0), .int (M 29 0), .ref (b + 164), .ref (b + 165), .ref (b + 166), .ref (b + 167), .ref (b + 168), .int (M 35 0), .ref (b + 169), .ref (b + 170), .ref (b + 171), .int (M 39 0)]) C.2.2.2.2.1 hW rfl ((wl_get (Z := Z) (b := b) (M := M) (k := 156) (by decide)).trans (congrArg (fun E => some (b + 156, E)) (en_156 Z b M))), fun U hU hWU => ⟨rfl, C.2.2.2.2.call hS hU hWU, by rw [hU]; exact hW⟩⟩ rfl rfl hsz rfl (lv_room hroom) hdg hc) hS kk
theorem kX5_158 {a1 a2 : Int32} {v : Int32} {nL : Nat} {M' : Mem} (C : Cx p s m args c cc RX5 Z b) (hml : c.maxLocals = nL) (hsz : ls.size = nL) (hM : Ct l yX5_isMember cX5_isMember 3 (some .boolean) rm_X5_isMember Z b [.ref (b + 156), .int a1, .int a2] M (some (.int v)) M') (hR : rm_X5_isMember.frames + 1 ≤ R.frames ∧ 8 + (3 + 11) + rm_X5_isMember.locals ≤ R.locals) (hc : cells ≤ R.cells ∧ slots ≤ R.slots) (hroom : (rest.map fun v => v.category).sum ≤ 8) (hS : va_S (A0 b) s.heap H locs) (hW : Wd Z b M H) (hdg : decode cc pc = .ok (.invokevirtual 158, 3))
    (kk : ∀ (H1 : Heap) (locs1 : List Loc), Wd Z b M' H1 → va_S (A0 b) s.heap H1 locs1 → W p l e R s m args below meth c H1 locs1 cells slots Q (F0 m (pc + 3) ls (.int v :: rest))) : W p l e R s m args below meth c H locs cells slots Q (F0 m pc ls (.int a2 :: .int a1 :: .ref (b + 156) :: rest)) :=
  cl_go (v := (some (.int v))) (va_runV (As := [.int a1, .int a2]) (b := b + 156) ⟨C.1, C.2.1, hml, C.2.2.1, C.2.2.2.1⟩ hM (cwV 2 C.2.2.2.1 (gV q860 q862 q60 q69 q863) rfl rfl rfl (by decide +kernel) hR) ⟨Pre.blind _ _ _ _, va_recv (q0 := 156) (ci := 5) (fs := [.ref (b + 157), .ref (b + 158), .ref (b + 159), .ref (b + 160), .ref (b + 161), .int (M 25 0), .ref (b + 162), .ref (b + 163), .int (M 28 0), .int (M 29 0), .ref (b + 164), .ref (b + 165), .ref (b + 166), .ref (b + 167), .ref (b + 168), .int (M 35 0), .ref (b + 169), .ref (b + 170), .ref (b + 171), .int (M 39 0)]) C.2.2.2.2.1 hW rfl ((wl_get (Z := Z) (b := b) (M := M) (k := 156) (by decide)).trans (congrArg (fun E => some (b + 156, E)) (en_156 Z b M))), fun U hU hWU => ⟨rfl, C.2.2.2.2.call hS hU hWU, by rw [hU]; exact hW⟩⟩ rfl rfl hsz rfl (lv_room hroom) hdg hc) hS kk
theorem kX5_161 {a1 : Int32} {v : Int32} {nL : Nat} {M' : Mem} (C : Cx p s m args c cc RX5 Z b) (hml : c.maxLocals = nL) (hsz : ls.size = nL) (hM : Ct l yX5_membersOf cX5_membersOf 4 (some .int) rm_X5_membersOf Z b [.ref (b + 156), .int a1] M (some (.int v)) M') (hR : rm_X5_membersOf.frames + 1 ≤ R.frames ∧ 8 + (4 + 11) + rm_X5_membersOf.locals ≤ R.locals) (hc : cells ≤ R.cells ∧ slots ≤ R.slots) (hroom : (rest.map fun v => v.category).sum ≤ 8) (hS : va_S (A0 b) s.heap H locs) (hW : Wd Z b M H) (hdg : decode cc pc = .ok (.invokevirtual 161, 3))
    (kk : ∀ (H1 : Heap) (locs1 : List Loc), Wd Z b M' H1 → va_S (A0 b) s.heap H1 locs1 → W p l e R s m args below meth c H1 locs1 cells slots Q (F0 m (pc + 3) ls (.int v :: rest))) : W p l e R s m args below meth c H locs cells slots Q (F0 m pc ls (.int a1 :: .ref (b + 156) :: rest)) :=
  cl_go (v := (some (.int v))) (va_runV (As := [.int a1]) (b := b + 156) ⟨C.1, C.2.1, hml, C.2.2.1, C.2.2.2.1⟩ hM (cwV 1 C.2.2.2.1 (gV q856 q858 q59 q69 q859) rfl rfl rfl (by decide +kernel) hR) ⟨Pre.blind _ _ _ _, va_recv (q0 := 156) (ci := 5) (fs := [.ref (b + 157), .ref (b + 158), .ref (b + 159), .ref (b + 160), .ref (b + 161), .int (M 25 0), .ref (b + 162), .ref (b + 163), .int (M 28 0), .int (M 29 0), .ref (b + 164), .ref (b + 165), .ref (b + 166), .ref (b + 167), .ref (b + 168), .int (M 35 0), .ref (b + 169), .ref (b + 170), .ref (b + 171), .int (M 39 0)]) C.2.2.2.2.1 hW rfl ((wl_get (Z := Z) (b := b) (M := M) (k := 156) (by decide)).trans (congrArg (fun E => some (b + 156, E)) (en_156 Z b M))), fun U hU hWU => ⟨rfl, C.2.2.2.2.call hS hU hWU, by rw [hU]; exact hW⟩⟩ rfl rfl hsz rfl (lv_room hroom) hdg hc) hS kk
theorem kX5_164 {a1 a2 : Int32} {v : Int32} {nL : Nat} {M' : Mem} (C : Cx p s m args c cc RX5 Z b) (hml : c.maxLocals = nL) (hsz : ls.size = nL) (hM : Ct l yX5_memberOf cX5_memberOf 7 (some .int) rm_X5_memberOf Z b [.ref (b + 156), .int a1, .int a2] M (some (.int v)) M') (hR : rm_X5_memberOf.frames + 1 ≤ R.frames ∧ 8 + (7 + 11) + rm_X5_memberOf.locals ≤ R.locals) (hc : cells ≤ R.cells ∧ slots ≤ R.slots) (hroom : (rest.map fun v => v.category).sum ≤ 8) (hS : va_S (A0 b) s.heap H locs) (hW : Wd Z b M H) (hdg : decode cc pc = .ok (.invokevirtual 164, 3))
    (kk : ∀ (H1 : Heap) (locs1 : List Loc), Wd Z b M' H1 → va_S (A0 b) s.heap H1 locs1 → W p l e R s m args below meth c H1 locs1 cells slots Q (F0 m (pc + 3) ls (.int v :: rest))) : W p l e R s m args below meth c H locs cells slots Q (F0 m pc ls (.int a2 :: .int a1 :: .ref (b + 156) :: rest)) :=
  cl_go (v := (some (.int v))) (va_runV (As := [.int a1, .int a2]) (b := b + 156) ⟨C.1, C.2.1, hml, C.2.2.1, C.2.2.2.1⟩ hM (cwV 2 C.2.2.2.1 (gV q868 q870 q61 q69 q871) rfl rfl rfl (by decide +kernel) hR) ⟨Pre.blind _ _ _ _, va_recv (q0 := 156) (ci := 5) (fs := [.ref (b + 157), .ref (b + 158), .ref (b + 159), .ref (b + 160), .ref (b + 161), .int (M 25 0), .ref (b + 162), .ref (b + 163), .int (M 28 0), .int (M 29 0), .ref (b + 164), .ref (b + 165), .ref (b + 166), .ref (b + 167), .ref (b + 168), .int (M 35 0), .ref (b + 169), .ref (b + 170), .ref (b + 171), .int (M 39 0)]) C.2.2.2.2.1 hW rfl ((wl_get (Z := Z) (b := b) (M := M) (k := 156) (by decide)).trans (congrArg (fun E => some (b + 156, E)) (en_156 Z b M))), fun U hU hWU => ⟨rfl, C.2.2.2.2.call hS hU hWU, by rw [hU]; exact hW⟩⟩ rfl rfl hsz rfl (lv_room hroom) hdg hc) hS kk
theorem kX5_167 {a1 a2 a3 : Int32} {v : Int32} {nL : Nat} {M' : Mem} (C : Cx p s m args c cc RX5 Z b) (hml : c.maxLocals = nL) (hsz : ls.size = nL) (hM : Ct l yX5_clashes cX5_clashes 7 (some .boolean) rm_X5_clashes Z b [.ref (b + 156), .int a1, .int a2, .int a3] M (some (.int v)) M') (hR : rm_X5_clashes.frames + 1 ≤ R.frames ∧ 8 + (7 + 11) + rm_X5_clashes.locals ≤ R.locals) (hc : cells ≤ R.cells ∧ slots ≤ R.slots) (hroom : (rest.map fun v => v.category).sum ≤ 8) (hS : va_S (A0 b) s.heap H locs) (hW : Wd Z b M H) (hdg : decode cc pc = .ok (.invokevirtual 167, 3))
    (kk : ∀ (H1 : Heap) (locs1 : List Loc), Wd Z b M' H1 → va_S (A0 b) s.heap H1 locs1 → W p l e R s m args below meth c H1 locs1 cells slots Q (F0 m (pc + 3) ls (.int v :: rest))) : W p l e R s m args below meth c H locs cells slots Q (F0 m pc ls (.int a3 :: .int a2 :: .int a1 :: .ref (b + 156) :: rest)) :=
  cl_go (v := (some (.int v))) (va_runV (As := [.int a1, .int a2, .int a3]) (b := b + 156) ⟨C.1, C.2.1, hml, C.2.2.1, C.2.2.2.1⟩ hM (cwV 3 C.2.2.2.1 (gV q880 q882 q62 q69 q883) rfl rfl rfl (by decide +kernel) hR) ⟨Pre.blind _ _ _ _, va_recv (q0 := 156) (ci := 5) (fs := [.ref (b + 157), .ref (b + 158), .ref (b + 159), .ref (b + 160), .ref (b + 161), .int (M 25 0), .ref (b + 162), .ref (b + 163), .int (M 28 0), .int (M 29 0), .ref (b + 164), .ref (b + 165), .ref (b + 166), .ref (b + 167), .ref (b + 168), .int (M 35 0), .ref (b + 169), .ref (b + 170), .ref (b + 171), .int (M 39 0)]) C.2.2.2.2.1 hW rfl ((wl_get (Z := Z) (b := b) (M := M) (k := 156) (by decide)).trans (congrArg (fun E => some (b + 156, E)) (en_156 Z b M))), fun U hU hWU => ⟨rfl, C.2.2.2.2.call hS hU hWU, by rw [hU]; exact hW⟩⟩ rfl rfl hsz rfl (lv_room hroom) hdg hc) hS kk
theorem kX0_17 {a1 a2 : Int32} {v : Int32} {nL : Nat} {M' : Mem} (C : Cx p s m args c cc RX0 Z b) (hml : c.maxLocals = nL) (hsz : ls.size = nL) (hM : Ct l yX4_isAbove cX4_isAbove 4 (some .boolean) rm_X4_isAbove Z b [.int a1, .int a2] M (some (.int v)) M') (hR : rm_X4_isAbove.frames + 1 ≤ R.frames ∧ 8 + (4 + 11) + rm_X4_isAbove.locals ≤ R.locals) (hc : cells ≤ R.cells ∧ slots ≤ R.slots) (hroom : (rest.map fun v => v.category).sum ≤ 8) (hS : va_S (A0 b) s.heap H locs) (hW : Wd Z b M H) (hdg : decode cc pc = .ok (.invokestatic 17, 3))
    (kk : ∀ (H1 : Heap) (locs1 : List Loc), Wd Z b M' H1 → va_S (A0 b) s.heap H1 locs1 → W p l e R s m args below meth c H1 locs1 cells slots Q (F0 m (pc + 3) ls (.int v :: rest))) : W p l e R s m args below meth c H locs cells slots Q (F0 m pc ls (.int a2 :: .int a1 :: rest)) :=
  cl_go (v := (some (.int v))) (va_runSN (As := [.int a1, .int a2]) ⟨C.1, C.2.1, hml, C.2.2.1, C.2.2.2.1⟩ hM ⟨va_cnB 2 C.2.2.2.1 (gN q339) rfl rfl rfl (C.2.2.2.2.2.1 _ (List.mem_append_left _ (List.mem_of_getElem? (i := 27) rfl))) (C.2.2.2.1 _ q64) (by decide +kernel) hR, C.2.2.2.1 _ q338, trivial⟩ ⟨Pre.blind _ _ _ _, fun U hU hWU => ⟨rfl, C.2.2.2.2.call hS hU hWU, by rw [hU]; exact hW⟩⟩ rfl rfl hsz rfl (lv_room hroom) hdg hc) hS kk
theorem kX1_28 {a1 : Int32} {q : Option Nat} {nL : Nat} {M' : Mem} (C : Cx p s m args c cc RX1 Z b) (hml : c.maxLocals = nL) (hsz : ls.size = nL) (hM : Ct l yX1_find cX1_find 2 (some (.object "ShelfServer$Lock")) rm_X1_find Z b [.ref (b + 123), .int a1] M (some (rL b q)) M') (hR : rm_X1_find.frames + 1 ≤ R.frames ∧ 8 + (2 + 11) + rm_X1_find.locals ≤ R.locals) (hc : cells ≤ R.cells ∧ slots ≤ R.slots) (hroom : (rest.map fun v => v.category).sum ≤ 8) (hS : va_S (A0 b) s.heap H locs) (hW : Wd Z b M H) (hdg : decode cc pc = .ok (.invokevirtual 28, 3))
    (kk : ∀ (H1 : Heap) (locs1 : List Loc), Wd Z b M' H1 → va_S (A0 b) s.heap H1 locs1 → W p l e R s m args below meth c H1 locs1 cells slots Q (F0 m (pc + 3) ls (rL b q :: rest))) : W p l e R s m args below meth c H locs cells slots Q (F0 m pc ls (.int a1 :: .ref (b + 123) :: rest)) :=
  cl_go (v := (some (rL b q))) (va_runV (As := [.int a1]) (b := b + 123) ⟨C.1, C.2.1, hml, C.2.2.1, C.2.2.2.1⟩ hM (cwV 1 C.2.2.2.1 (gV q329 q331 q8 q67 q332) rfl rfl rfl (by decide +kernel) hR) ⟨Pre.blind _ _ _ _, va_recv (q0 := 123) (ci := 1) (fs := [.ref (b + 124), .int (M 10 0), .int (M 11 0)]) C.2.2.2.2.1 hW rfl ((wl_get (Z := Z) (b := b) (M := M) (k := 123) (by decide)).trans (congrArg (fun E => some (b + 123, E)) (en_123 Z b M))), fun U hU hWU => ⟨rfl, C.2.2.2.2.call hS hU hWU, by rw [hU]; exact hW⟩⟩ rfl rfl hsz rfl (lv_room hroom) hdg hc) hS kk
theorem kX1_32 {r : Nat} (hr : r < 30) {a1 : Int32} {v : Int32} {nL : Nat} {M' : Mem} (C : Cx p s m args c cc RX1 Z b) (hml : c.maxLocals = nL) (hsz : ls.size = nL) (hM : Ct l yX0_covers cX0_covers 2 (some .boolean) rm_X0_covers Z b [.ref (b + (125 + r)), .int a1] M (some (.int v)) M') (hR : rm_X0_covers.frames + 1 ≤ R.frames ∧ 8 + (2 + 11) + rm_X0_covers.locals ≤ R.locals) (hc : cells ≤ R.cells ∧ slots ≤ R.slots) (hroom : (rest.map fun v => v.category).sum ≤ 8) (hS : va_S (A0 b) s.heap H locs) (hW : Wd Z b M H) (hdg : decode cc pc = .ok (.invokevirtual 32, 3))
    (kk : ∀ (H1 : Heap) (locs1 : List Loc), Wd Z b M' H1 → va_S (A0 b) s.heap H1 locs1 → W p l e R s m args below meth c H1 locs1 cells slots Q (F0 m (pc + 3) ls (.int v :: rest))) : W p l e R s m args below meth c H locs cells slots Q (F0 m pc ls (.int a1 :: .ref (b + (125 + r)) :: rest)) :=
  cl_go (v := (some (.int v))) (va_runVN (As := [.int a1]) (b := b + (125 + r)) ⟨C.1, C.2.1, hml, C.2.2.1, C.2.2.2.1⟩ hM ⟨va_cnB 1 C.2.2.2.1 (gN q336) rfl rfl rfl (C.2.2.2.2.2.1 _ (List.mem_append_left _ (List.mem_of_getElem? (i := 26) rfl))) (C.2.2.2.1 _ q68) (by decide +kernel) hR, C.2.2.2.1 _ q335, C.2.2.2.1 _ q9⟩ ⟨Pre.blind _ _ _ _, va_recv (q0 := (125 + r)) (ci := 0) (fs := [.int (M 12 r), .int (M 13 r), .int (M 14 r), .int (M 15 r), .int (M 16 r)]) C.2.2.2.2.1 hW rfl ((wl_get (Z := Z) (b := b) (M := M) (k := (125 + r)) (by omega)).trans (congrArg (fun E => some (b + (125 + r), E)) (en_L Z b M hr))), fun U hU hWU => ⟨rfl, C.2.2.2.2.call hS hU hWU, by rw [hU]; exact hW⟩⟩ rfl rfl hsz rfl (lv_room hroom) hdg hc) hS kk
theorem kX1_36 {a1 : Int32} {v : Int32} {nL : Nat} {M' : Mem} (C : Cx p s m args c cc RX1 Z b) (hml : c.maxLocals = nL) (hsz : ls.size = nL) (hM : Ct l yX1_tokensOver cX1_tokensOver 5 (some .int) rm_X1_tokensOver Z b [.ref (b + 123), .int a1] M (some (.int v)) M') (hR : rm_X1_tokensOver.frames + 1 ≤ R.frames ∧ 8 + (5 + 11) + rm_X1_tokensOver.locals ≤ R.locals) (hc : cells ≤ R.cells ∧ slots ≤ R.slots) (hroom : (rest.map fun v => v.category).sum ≤ 8) (hS : va_S (A0 b) s.heap H locs) (hW : Wd Z b M H) (hdg : decode cc pc = .ok (.invokevirtual 36, 3))
    (kk : ∀ (H1 : Heap) (locs1 : List Loc), Wd Z b M' H1 → va_S (A0 b) s.heap H1 locs1 → W p l e R s m args below meth c H1 locs1 cells slots Q (F0 m (pc + 3) ls (.int v :: rest))) : W p l e R s m args below meth c H locs cells slots Q (F0 m pc ls (.int a1 :: .ref (b + 123) :: rest)) :=
  cl_go (v := (some (.int v))) (va_runV (As := [.int a1]) (b := b + 123) ⟨C.1, C.2.1, hml, C.2.2.1, C.2.2.2.1⟩ hM (cwV 1 C.2.2.2.1 (gV q325 q327 q7 q67 q328) rfl rfl rfl (by decide +kernel) hR) ⟨Pre.blind _ _ _ _, va_recv (q0 := 123) (ci := 1) (fs := [.ref (b + 124), .int (M 10 0), .int (M 11 0)]) C.2.2.2.2.1 hW rfl ((wl_get (Z := Z) (b := b) (M := M) (k := 123) (by decide)).trans (congrArg (fun E => some (b + 123, E)) (en_123 Z b M))), fun U hU hWU => ⟨rfl, C.2.2.2.2.call hS hU hWU, by rw [hU]; exact hW⟩⟩ rfl rfl hsz rfl (lv_room hroom) hdg hc) hS kk
theorem kX1_50 {a1 a2 : Int32} {v : Int32} {nL : Nat} {M' : Mem} (C : Cx p s m args c cc RX1 Z b) (hml : c.maxLocals = nL) (hsz : ls.size = nL) (hM : Ct l yX4_isAbove cX4_isAbove 4 (some .boolean) rm_X4_isAbove Z b [.int a1, .int a2] M (some (.int v)) M') (hR : rm_X4_isAbove.frames + 1 ≤ R.frames ∧ 8 + (4 + 11) + rm_X4_isAbove.locals ≤ R.locals) (hc : cells ≤ R.cells ∧ slots ≤ R.slots) (hroom : (rest.map fun v => v.category).sum ≤ 8) (hS : va_S (A0 b) s.heap H locs) (hW : Wd Z b M H) (hdg : decode cc pc = .ok (.invokestatic 50, 3))
    (kk : ∀ (H1 : Heap) (locs1 : List Loc), Wd Z b M' H1 → va_S (A0 b) s.heap H1 locs1 → W p l e R s m args below meth c H1 locs1 cells slots Q (F0 m (pc + 3) ls (.int v :: rest))) : W p l e R s m args below meth c H locs cells slots Q (F0 m pc ls (.int a2 :: .int a1 :: rest)) :=
  cl_go (v := (some (.int v))) (va_runSN (As := [.int a1, .int a2]) ⟨C.1, C.2.1, hml, C.2.2.1, C.2.2.2.1⟩ hM ⟨va_cnB 2 C.2.2.2.1 (gN q339) rfl rfl rfl (C.2.2.2.2.2.1 _ (List.mem_append_left _ (List.mem_of_getElem? (i := 47) rfl))) (C.2.2.2.1 _ q64) (by decide +kernel) hR, C.2.2.2.1 _ q338, trivial⟩ ⟨Pre.blind _ _ _ _, fun U hU hWU => ⟨rfl, C.2.2.2.2.call hS hU hWU, by rw [hU]; exact hW⟩⟩ rfl rfl hsz rfl (lv_room hroom) hdg hc) hS kk
theorem kX2_32 {r : Nat} (hr : r < 60) {a1 : Int32} {v : Int32} {nL : Nat} {M' : Mem} (C : Cx p s m args c cc RX2 Z b) (hml : c.maxLocals = nL) (hsz : ls.size = nL) (hM : Ct l yX2_hasVersion cX2_hasVersion 2 (some .boolean) rm_X2_hasVersion Z b [.ref (b + (3 + 2 * r)), .int a1] M (some (.int v)) M') (hR : rm_X2_hasVersion.frames + 1 ≤ R.frames ∧ 8 + (2 + 11) + rm_X2_hasVersion.locals ≤ R.locals) (hc : cells ≤ R.cells ∧ slots ≤ R.slots) (hroom : (rest.map fun v => v.category).sum ≤ 8) (hS : va_S (A0 b) s.heap H locs) (hW : Wd Z b M H) (hdg : decode cc pc = .ok (.invokevirtual 32, 3))
    (kk : ∀ (H1 : Heap) (locs1 : List Loc), Wd Z b M' H1 → va_S (A0 b) s.heap H1 locs1 → W p l e R s m args below meth c H1 locs1 cells slots Q (F0 m (pc + 3) ls (.int v :: rest))) : W p l e R s m args below meth c H locs cells slots Q (F0 m pc ls (.int a1 :: .ref (b + (3 + 2 * r)) :: rest)) :=
  cl_go (v := (some (.int v))) (va_runV (As := [.int a1]) (b := b + (3 + 2 * r)) ⟨C.1, C.2.1, hml, C.2.2.1, C.2.2.2.1⟩ hM (cwV 1 C.2.2.2.1 (gV q646 q640 q39 q66 q641) rfl rfl rfl (by decide +kernel) hR) ⟨Pre.blind _ _ _ _, va_recv (q0 := (3 + 2 * r)) (ci := 2) (fs := [.int (M 4 r), .int (M 5 r), .int (M 6 r), .int (M 7 r), .ref (b + (4 + 2 * r)), .int (M 8 r)]) C.2.2.2.2.1 hW rfl ((wl_get (Z := Z) (b := b) (M := M) (k := (3 + 2 * r)) (by omega)).trans (congrArg (fun E => some (b + (3 + 2 * r), E)) (en_R Z b M hr))), fun U hU hWU => ⟨rfl, C.2.2.2.2.call hS hU hWU, by rw [hU]; exact hW⟩⟩ rfl rfl hsz rfl (lv_room hroom) hdg hc) hS kk
theorem kX3_25 {a1 : Int32} {v : Int32} {nL : Nat} {M' : Mem} (C : Cx p s m args c cc RX3 Z b) (hml : c.maxLocals = nL) (hsz : ls.size = nL) (hM : Ct l yX3_indexOf cX3_indexOf 3 (some .int) rm_X3_indexOf Z b [.ref (b + 1), .int a1] M (some (.int v)) M') (hR : rm_X3_indexOf.frames + 1 ≤ R.frames ∧ 8 + (3 + 11) + rm_X3_indexOf.locals ≤ R.locals) (hc : cells ≤ R.cells ∧ slots ≤ R.slots) (hroom : (rest.map fun v => v.category).sum ≤ 8) (hS : va_S (A0 b) s.heap H locs) (hW : Wd Z b M H) (hdg : decode cc pc = .ok (.invokevirtual 25, 3))
    (kk : ∀ (H1 : Heap) (locs1 : List Loc), Wd Z b M' H1 → va_S (A0 b) s.heap H1 locs1 → W p l e R s m args below meth c H1 locs1 cells slots Q (F0 m (pc + 3) ls (.int v :: rest))) : W p l e R s m args below meth c H locs cells slots Q (F0 m pc ls (.int a1 :: .ref (b + 1) :: rest)) :=
  cl_go (v := (some (.int v))) (va_runV (As := [.int a1]) (b := b + 1) ⟨C.1, C.2.1, hml, C.2.2.1, C.2.2.2.1⟩ hM (cwV 1 C.2.2.2.1 (gV q312 q314 q4 q65 q315) rfl rfl rfl (by decide +kernel) hR) ⟨Pre.blind _ _ _ _, va_recv (q0 := 1) (ci := 3) (fs := [.ref (b + 2), .int (M 2 0)]) C.2.2.2.2.1 hW rfl ((wl_get (Z := Z) (b := b) (M := M) (k := 1) (by decide)).trans (congrArg (fun E => some (b + 1, E)) (en_1 Z b M))), fun U hU hWU => ⟨rfl, C.2.2.2.2.call hS hU hWU, by rw [hU]; exact hW⟩⟩ rfl rfl hsz rfl (lv_room hroom) hdg hc) hS kk
theorem kX3_29 {a1 : Int32} {q : Option Nat} {nL : Nat} {M' : Mem} (C : Cx p s m args c cc RX3 Z b) (hml : c.maxLocals = nL) (hsz : ls.size = nL) (hM : Ct l yX3_find cX3_find 3 (some (.object "ShelfServer$Resource")) rm_X3_find Z b [.ref (b + 1), .int a1] M (some (rR b q)) M') (hR : rm_X3_find.frames + 1 ≤ R.frames ∧ 8 + (3 + 11) + rm_X3_find.locals ≤ R.locals) (hc : cells ≤ R.cells ∧ slots ≤ R.slots) (hroom : (rest.map fun v => v.category).sum ≤ 8) (hS : va_S (A0 b) s.heap H locs) (hW : Wd Z b M H) (hdg : decode cc pc = .ok (.invokevirtual 29, 3))
    (kk : ∀ (H1 : Heap) (locs1 : List Loc), Wd Z b M' H1 → va_S (A0 b) s.heap H1 locs1 → W p l e R s m args below meth c H1 locs1 cells slots Q (F0 m (pc + 3) ls (rR b q :: rest))) : W p l e R s m args below meth c H locs cells slots Q (F0 m pc ls (.int a1 :: .ref (b + 1) :: rest)) :=
  cl_go (v := (some (rR b q))) (va_runV (As := [.int a1]) (b := b + 1) ⟨C.1, C.2.1, hml, C.2.2.1, C.2.2.2.1⟩ hM (cwV 1 C.2.2.2.1 (gV q308 q310 q3 q65 q311) rfl rfl rfl (by decide +kernel) hR) ⟨Pre.blind _ _ _ _, va_recv (q0 := 1) (ci := 3) (fs := [.ref (b + 2), .int (M 2 0)]) C.2.2.2.2.1 hW rfl ((wl_get (Z := Z) (b := b) (M := M) (k := 1) (by decide)).trans (congrArg (fun E => some (b + 1, E)) (en_1 Z b M))), fun U hU hWU => ⟨rfl, C.2.2.2.2.call hS hU hWU, by rw [hU]; exact hW⟩⟩ rfl rfl hsz rfl (lv_room hroom) hdg hc) hS kk
theorem kX3_36 {a1 : Int32} {v : Int32} {nL : Nat} {M' : Mem} (C : Cx p s m args c cc RX3 Z b) (hml : c.maxLocals = nL) (hsz : ls.size = nL) (hM : Ct l yX3_kindAt cX3_kindAt 3 (some .int) rm_X3_kindAt Z b [.ref (b + 1), .int a1] M (some (.int v)) M') (hR : rm_X3_kindAt.frames + 1 ≤ R.frames ∧ 8 + (3 + 11) + rm_X3_kindAt.locals ≤ R.locals) (hc : cells ≤ R.cells ∧ slots ≤ R.slots) (hroom : (rest.map fun v => v.category).sum ≤ 8) (hS : va_S (A0 b) s.heap H locs) (hW : Wd Z b M H) (hdg : decode cc pc = .ok (.invokevirtual 36, 3))
    (kk : ∀ (H1 : Heap) (locs1 : List Loc), Wd Z b M' H1 → va_S (A0 b) s.heap H1 locs1 → W p l e R s m args below meth c H1 locs1 cells slots Q (F0 m (pc + 3) ls (.int v :: rest))) : W p l e R s m args below meth c H locs cells slots Q (F0 m pc ls (.int a1 :: .ref (b + 1) :: rest)) :=
  cl_go (v := (some (.int v))) (va_runV (As := [.int a1]) (b := b + 1) ⟨C.1, C.2.1, hml, C.2.2.1, C.2.2.2.1⟩ hM (cwV 1 C.2.2.2.1 (gV q304 q306 q2 q65 q307) rfl rfl rfl (by decide +kernel) hR) ⟨Pre.blind _ _ _ _, va_recv (q0 := 1) (ci := 3) (fs := [.ref (b + 2), .int (M 2 0)]) C.2.2.2.2.1 hW rfl ((wl_get (Z := Z) (b := b) (M := M) (k := 1) (by decide)).trans (congrArg (fun E => some (b + 1, E)) (en_1 Z b M))), fun U hU hWU => ⟨rfl, C.2.2.2.2.call hS hU hWU, by rw [hU]; exact hW⟩⟩ rfl rfl hsz rfl (lv_room hroom) hdg hc) hS kk
theorem kX3_39 {r : Nat} (hr : r < 60) {a1 a2 a3 : Int32} {nL : Nat} {M' : Mem} (C : Cx p s m args c cc RX3 Z b) (hml : c.maxLocals = nL) (hsz : ls.size = nL) (hM : Ct l yX2_begin cX2_begin 4 (none : Option Jvm.ClassFile.FieldType) rm_X2_begin Z b [.ref (b + (3 + 2 * r)), .int a1, .int a2, .int a3] M none M') (hR : rm_X2_begin.frames + 1 ≤ R.frames ∧ 8 + (4 + 11) + rm_X2_begin.locals ≤ R.locals) (hc : cells ≤ R.cells ∧ slots ≤ R.slots) (hroom : (rest.map fun v => v.category).sum ≤ 8) (hS : va_S (A0 b) s.heap H locs) (hW : Wd Z b M H) (hdg : decode cc pc = .ok (.invokevirtual 39, 3))
    (kk : ∀ (H1 : Heap) (locs1 : List Loc), Wd Z b M' H1 → va_S (A0 b) s.heap H1 locs1 → W p l e R s m args below meth c H1 locs1 cells slots Q (F0 m (pc + 3) ls rest)) : W p l e R s m args below meth c H locs cells slots Q (F0 m pc ls (.int a3 :: .int a2 :: .int a1 :: .ref (b + (3 + 2 * r)) :: rest)) :=
  cl_go (v := none) (va_runVN (As := [.int a1, .int a2, .int a3]) (b := b + (3 + 2 * r)) ⟨C.1, C.2.1, hml, C.2.2.1, C.2.2.2.1⟩ hM ⟨va_cnB 3 C.2.2.2.1 (gN q347) rfl rfl rfl (C.2.2.2.2.2.1 _ (List.mem_append_left _ (List.mem_of_getElem? (i := 29) rfl))) (C.2.2.2.1 _ q66) (by decide +kernel) hR, C.2.2.2.1 _ q346, C.2.2.2.1 _ q11⟩ ⟨Pre.blind _ _ _ _, va_recv (q0 := (3 + 2 * r)) (ci := 2) (fs := [.int (M 4 r), .int (M 5 r), .int (M 6 r), .int (M 7 r), .ref (b + (4 + 2 * r)), .int (M 8 r)]) C.2.2.2.2.1 hW rfl ((wl_get (Z := Z) (b := b) (M := M) (k := (3 + 2 * r)) (by omega)).trans (congrArg (fun E => some (b + (3 + 2 * r), E)) (en_R Z b M hr))), fun U hU hWU => ⟨rfl, C.2.2.2.2.call hS hU hWU, by rw [hU]; exact hW⟩⟩ rfl rfl hsz rfl (lv_room hroom) hdg hc) hS kk
theorem kX3_43 {a1 a2 : Int32} {v : Int32} {nL : Nat} {M' : Mem} (C : Cx p s m args c cc RX3 Z b) (hml : c.maxLocals = nL) (hsz : ls.size = nL) (hM : Ct l yX4_isIn cX4_isIn 2 (some .boolean) rm_X4_isIn Z b [.int a1, .int a2] M (some (.int v)) M') (hR : rm_X4_isIn.frames + 1 ≤ R.frames ∧ 8 + (2 + 11) + rm_X4_isIn.locals ≤ R.locals) (hc : cells ≤ R.cells ∧ slots ≤ R.slots) (hroom : (rest.map fun v => v.category).sum ≤ 8) (hS : va_S (A0 b) s.heap H locs) (hW : Wd Z b M H) (hdg : decode cc pc = .ok (.invokestatic 43, 3))
    (kk : ∀ (H1 : Heap) (locs1 : List Loc), Wd Z b M' H1 → va_S (A0 b) s.heap H1 locs1 → W p l e R s m args below meth c H1 locs1 cells slots Q (F0 m (pc + 3) ls (.int v :: rest))) : W p l e R s m args below meth c H locs cells slots Q (F0 m pc ls (.int a2 :: .int a1 :: rest)) :=
  cl_go (v := (some (.int v))) (va_runSN (As := [.int a1, .int a2]) ⟨C.1, C.2.1, hml, C.2.2.1, C.2.2.2.1⟩ hM ⟨va_cnB 2 C.2.2.2.1 (gN q389) rfl rfl rfl (C.2.2.2.2.2.1 _ (List.mem_append_left _ (List.mem_of_getElem? (i := 32) rfl))) (C.2.2.2.1 _ q64) (by decide +kernel) hR, C.2.2.2.1 _ q388, trivial⟩ ⟨Pre.blind _ _ _ _, fun U hU hWU => ⟨rfl, C.2.2.2.2.call hS hU hWU, by rw [hU]; exact hW⟩⟩ rfl rfl hsz rfl (lv_room hroom) hdg hc) hS kk
theorem kX3_47 {a1 a2 a3 : Int32} {v : Int32} {nL : Nat} {M' : Mem} (C : Cx p s m args c cc RX3 Z b) (hml : c.maxLocals = nL) (hsz : ls.size = nL) (hM : Ct l yX4_moved cX4_moved 6 (some .int) rm_X4_moved Z b [.int a1, .int a2, .int a3] M (some (.int v)) M') (hR : rm_X4_moved.frames + 1 ≤ R.frames ∧ 8 + (6 + 11) + rm_X4_moved.locals ≤ R.locals) (hc : cells ≤ R.cells ∧ slots ≤ R.slots) (hroom : (rest.map fun v => v.category).sum ≤ 8) (hS : va_S (A0 b) s.heap H locs) (hW : Wd Z b M H) (hdg : decode cc pc = .ok (.invokestatic 47, 3))
    (kk : ∀ (H1 : Heap) (locs1 : List Loc), Wd Z b M' H1 → va_S (A0 b) s.heap H1 locs1 → W p l e R s m args below meth c H1 locs1 cells slots Q (F0 m (pc + 3) ls (.int v :: rest))) : W p l e R s m args below meth c H locs cells slots Q (F0 m pc ls (.int a3 :: .int a2 :: .int a1 :: rest)) :=
  cl_go (v := (some (.int v))) (va_runSN (As := [.int a1, .int a2, .int a3]) ⟨C.1, C.2.1, hml, C.2.2.1, C.2.2.2.1⟩ hM ⟨va_cnB 3 C.2.2.2.1 (gN q456) rfl rfl rfl (C.2.2.2.2.2.1 _ (List.mem_append_left _ (List.mem_of_getElem? (i := 37) rfl))) (C.2.2.2.1 _ q64) (by decide +kernel) hR, C.2.2.2.1 _ q455, trivial⟩ ⟨Pre.blind _ _ _ _, fun U hU hWU => ⟨rfl, C.2.2.2.2.call hS hU hWU, by rw [hU]; exact hW⟩⟩ rfl rfl hsz rfl (lv_room hroom) hdg hc) hS kk
theorem kX3_54 {a1 a2 a3 : Int32} {nL : Nat} {M' : Mem} (C : Cx p s m args c cc RX3 Z b) (hml : c.maxLocals = nL) (hsz : ls.size = nL) (hM : Ct l yX3_append cX3_append 4 (none : Option Jvm.ClassFile.FieldType) rm_X3_append Z b [.ref (b + 1), .int a1, .int a2, .int a3] M none M') (hR : rm_X3_append.frames + 1 ≤ R.frames ∧ 8 + (4 + 11) + rm_X3_append.locals ≤ R.locals) (hc : cells ≤ R.cells ∧ slots ≤ R.slots) (hroom : (rest.map fun v => v.category).sum ≤ 8) (hS : va_S (A0 b) s.heap H locs) (hW : Wd Z b M H) (hdg : decode cc pc = .ok (.invokevirtual 54, 3))
    (kk : ∀ (H1 : Heap) (locs1 : List Loc), Wd Z b M' H1 → va_S (A0 b) s.heap H1 locs1 → W p l e R s m args below meth c H1 locs1 cells slots Q (F0 m (pc + 3) ls rest)) : W p l e R s m args below meth c H locs cells slots Q (F0 m pc ls (.int a3 :: .int a2 :: .int a1 :: .ref (b + 1) :: rest)) :=
  cl_go (v := none) (va_runV (As := [.int a1, .int a2, .int a3]) (b := b + 1) ⟨C.1, C.2.1, hml, C.2.2.1, C.2.2.2.1⟩ hM (cwV 3 C.2.2.2.1 (gV q473 q342 q10 q65 q343) rfl rfl rfl (by decide +kernel) hR) ⟨Pre.blind _ _ _ _, va_recv (q0 := 1) (ci := 3) (fs := [.ref (b + 2), .int (M 2 0)]) C.2.2.2.2.1 hW rfl ((wl_get (Z := Z) (b := b) (M := M) (k := 1) (by decide)).trans (congrArg (fun E => some (b + 1, E)) (en_1 Z b M))), fun U hU hWU => ⟨rfl, C.2.2.2.2.call hS hU hWU, by rw [hU]; exact hW⟩⟩ rfl rfl hsz rfl (lv_room hroom) hdg hc) hS kk
theorem kX3_57 {a1 a2 : Int32} {nL : Nat} {M' : Mem} (C : Cx p s m args c cc RX3 Z b) (hml : c.maxLocals = nL) (hsz : ls.size = nL) (hM : Ct l yX3_placeMember cX3_placeMember 5 (none : Option Jvm.ClassFile.FieldType) rm_X3_placeMember Z b [.ref (b + 1), .int a1, .int a2] M none M') (hR : rm_X3_placeMember.frames + 1 ≤ R.frames ∧ 8 + (5 + 11) + rm_X3_placeMember.locals ≤ R.locals) (hc : cells ≤ R.cells ∧ slots ≤ R.slots) (hroom : (rest.map fun v => v.category).sum ≤ 8) (hS : va_S (A0 b) s.heap H locs) (hW : Wd Z b M H) (hdg : decode cc pc = .ok (.invokevirtual 57, 3))
    (kk : ∀ (H1 : Heap) (locs1 : List Loc), Wd Z b M' H1 → va_S (A0 b) s.heap H1 locs1 → W p l e R s m args below meth c H1 locs1 cells slots Q (F0 m (pc + 3) ls rest)) : W p l e R s m args below meth c H locs cells slots Q (F0 m pc ls (.int a2 :: .int a1 :: .ref (b + 1) :: rest)) :=
  cl_go (v := none) (va_runV (As := [.int a1, .int a2]) (b := b + 1) ⟨C.1, C.2.1, hml, C.2.2.1, C.2.2.2.1⟩ hM (cwV 2 C.2.2.2.1 (gV q489 q491 q31 q65 q492) rfl rfl rfl (by decide +kernel) hR) ⟨Pre.blind _ _ _ _, va_recv (q0 := 1) (ci := 3) (fs := [.ref (b + 2), .int (M 2 0)]) C.2.2.2.2.1 hW rfl ((wl_get (Z := Z) (b := b) (M := M) (k := 1) (by decide)).trans (congrArg (fun E => some (b + 1, E)) (en_1 Z b M))), fun U hU hWU => ⟨rfl, C.2.2.2.2.call hS hU hWU, by rw [hU]; exact hW⟩⟩ rfl rfl hsz rfl (lv_room hroom) hdg hc) hS kk
theorem kX3_65 {a1 : Int32} {v : Int32} {nL : Nat} {M' : Mem} (C : Cx p s m args c cc RX3 Z b) (hml : c.maxLocals = nL) (hsz : ls.size = nL) (hM : Ct l yX4_parentOf cX4_parentOf 1 (some .int) rm_X4_parentOf Z b [.int a1] M (some (.int v)) M') (hR : rm_X4_parentOf.frames + 1 ≤ R.frames ∧ 8 + (1 + 11) + rm_X4_parentOf.locals ≤ R.locals) (hc : cells ≤ R.cells ∧ slots ≤ R.slots) (hroom : (rest.map fun v => v.category).sum ≤ 8) (hS : va_S (A0 b) s.heap H locs) (hW : Wd Z b M H) (hdg : decode cc pc = .ok (.invokestatic 65, 3))
    (kk : ∀ (H1 : Heap) (locs1 : List Loc), Wd Z b M' H1 → va_S (A0 b) s.heap H1 locs1 → W p l e R s m args below meth c H1 locs1 cells slots Q (F0 m (pc + 3) ls (.int v :: rest))) : W p l e R s m args below meth c H locs cells slots Q (F0 m pc ls (.int a1 :: rest)) :=
  cl_go (v := (some (.int v))) (va_runSN (As := [.int a1]) ⟨C.1, C.2.1, hml, C.2.2.1, C.2.2.2.1⟩ hM ⟨va_cnB 1 C.2.2.2.1 (gN q299) rfl rfl rfl (C.2.2.2.2.2.1 _ (List.mem_append_left _ (List.mem_of_getElem? (i := 41) rfl))) (C.2.2.2.1 _ q64) (by decide +kernel) hR, C.2.2.2.1 _ q298, trivial⟩ ⟨Pre.blind _ _ _ _, fun U hU hWU => ⟨rfl, C.2.2.2.2.call hS hU hWU, by rw [hU]; exact hW⟩⟩ rfl rfl hsz rfl (lv_room hroom) hdg hc) hS kk
theorem kX3_68 {a1 a2 : Int32} {nL : Nat} {M' : Mem} (C : Cx p s m args c cc RX3 Z b) (hml : c.maxLocals = nL) (hsz : ls.size = nL) (hM : Ct l yX3_shift cX3_shift 5 (none : Option Jvm.ClassFile.FieldType) rm_X3_shift Z b [.ref (b + 1), .int a1, .int a2] M none M') (hR : rm_X3_shift.frames + 1 ≤ R.frames ∧ 8 + (5 + 11) + rm_X3_shift.locals ≤ R.locals) (hc : cells ≤ R.cells ∧ slots ≤ R.slots) (hroom : (rest.map fun v => v.category).sum ≤ 8) (hS : va_S (A0 b) s.heap H locs) (hW : Wd Z b M H) (hdg : decode cc pc = .ok (.invokevirtual 68, 3))
    (kk : ∀ (H1 : Heap) (locs1 : List Loc), Wd Z b M' H1 → va_S (A0 b) s.heap H1 locs1 → W p l e R s m args below meth c H1 locs1 cells slots Q (F0 m (pc + 3) ls rest)) : W p l e R s m args below meth c H locs cells slots Q (F0 m pc ls (.int a2 :: .int a1 :: .ref (b + 1) :: rest)) :=
  cl_go (v := none) (va_runV (As := [.int a1, .int a2]) (b := b + 1) ⟨C.1, C.2.1, hml, C.2.2.1, C.2.2.2.1⟩ hM (cwV 2 C.2.2.2.1 (gV q493 q495 q32 q65 q496) rfl rfl rfl (by decide +kernel) hR) ⟨Pre.blind _ _ _ _, va_recv (q0 := 1) (ci := 3) (fs := [.ref (b + 2), .int (M 2 0)]) C.2.2.2.2.1 hW rfl ((wl_get (Z := Z) (b := b) (M := M) (k := 1) (by decide)).trans (congrArg (fun E => some (b + 1, E)) (en_1 Z b M))), fun U hU hWU => ⟨rfl, C.2.2.2.2.call hS hU hWU, by rw [hU]; exact hW⟩⟩ rfl rfl hsz rfl (lv_room hroom) hdg hc) hS kk
theorem kX3_71 {a1 a2 : Int32} {v : Int32} {nL : Nat} {M' : Mem} (C : Cx p s m args c cc RX3 Z b) (hml : c.maxLocals = nL) (hsz : ls.size = nL) (hM : Ct l yX3_memberIndex cX3_memberIndex 5 (some .int) rm_X3_memberIndex Z b [.ref (b + 1), .int a1, .int a2] M (some (.int v)) M') (hR : rm_X3_memberIndex.frames + 1 ≤ R.frames ∧ 8 + (5 + 11) + rm_X3_memberIndex.locals ≤ R.locals) (hc : cells ≤ R.cells ∧ slots ≤ R.slots) (hroom : (rest.map fun v => v.category).sum ≤ 8) (hS : va_S (A0 b) s.heap H locs) (hW : Wd Z b M H) (hdg : decode cc pc = .ok (.invokevirtual 71, 3))
    (kk : ∀ (H1 : Heap) (locs1 : List Loc), Wd Z b M' H1 → va_S (A0 b) s.heap H1 locs1 → W p l e R s m args below meth c H1 locs1 cells slots Q (F0 m (pc + 3) ls (.int v :: rest))) : W p l e R s m args below meth c H locs cells slots Q (F0 m pc ls (.int a2 :: .int a1 :: .ref (b + 1) :: rest)) :=
  cl_go (v := (some (.int v))) (va_runV (As := [.int a1, .int a2]) (b := b + 1) ⟨C.1, C.2.1, hml, C.2.2.1, C.2.2.2.1⟩ hM (cwV 2 C.2.2.2.1 (gV q498 q500 q33 q65 q501) rfl rfl rfl (by decide +kernel) hR) ⟨Pre.blind _ _ _ _, va_recv (q0 := 1) (ci := 3) (fs := [.ref (b + 2), .int (M 2 0)]) C.2.2.2.2.1 hW rfl ((wl_get (Z := Z) (b := b) (M := M) (k := 1) (by decide)).trans (congrArg (fun E => some (b + 1, E)) (en_1 Z b M))), fun U hU hWU => ⟨rfl, C.2.2.2.2.call hS hU hWU, by rw [hU]; exact hW⟩⟩ rfl rfl hsz rfl (lv_room hroom) hdg hc) hS kk
end LINKS
end
section
theorem zz_last : True := trivial
end
