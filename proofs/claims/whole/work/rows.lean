section
-- ===== PART A: goes FIRST, ahead of the names: the tables' words, and 'selects' of the private methods out of them =====
/-- a private method of a class that the tables say can be made, by its rows of tables_1 -/
def lw_okq (q : MethodName × Nat) : Prop := (q.1.cls ≠ "java/lang/invoke/MethodHandle" ∧ q.1.cls ≠ "java/lang/invoke/VarHandle") ∧ Cond.instantiable q.1.cls q.2 ∈ tables_1 ∧ Cond.privateMethod q.1 ∈ tables_1 ∧ Cond.instanceMethod q.1 ∈ tables_1
theorem lw_p0 : lw_okq (⟨"MirrorNet$Shelf", "addFile", "(I)I"⟩, 8) := ⟨⟨by decide +kernel, by decide +kernel⟩, List.mem_of_getElem? (i := 22) (by decide +kernel), List.mem_of_getElem? (i := 190) (by decide +kernel), List.mem_of_getElem? (i := 191) (by decide +kernel)⟩
theorem lw_p1 : lw_okq (⟨"MirrorNet$Shelf", "addPut", "(III)I"⟩, 8) := ⟨⟨by decide +kernel, by decide +kernel⟩, List.mem_of_getElem? (i := 22) (by decide +kernel), List.mem_of_getElem? (i := 198) (by decide +kernel), List.mem_of_getElem? (i := 199) (by decide +kernel)⟩
theorem lw_p2 : lw_okq (⟨"MirrorNet$Shelf", "mayChange", "(I)Z"⟩, 8) := ⟨⟨by decide +kernel, by decide +kernel⟩, List.mem_of_getElem? (i := 22) (by decide +kernel), List.mem_of_getElem? (i := 203) (by decide +kernel), List.mem_of_getElem? (i := 204) (by decide +kernel)⟩
theorem lw_p3 : lw_okq (⟨"MirrorNet$Shelf", "hasFile", "(I)Z"⟩, 8) := ⟨⟨by decide +kernel, by decide +kernel⟩, List.mem_of_getElem? (i := 22) (by decide +kernel), List.mem_of_getElem? (i := 207) (by decide +kernel), List.mem_of_getElem? (i := 208) (by decide +kernel)⟩
theorem lw_p4 : lw_okq (⟨"MirrorNet$Shelf", "latestState", "()I"⟩, 8) := ⟨⟨by decide +kernel, by decide +kernel⟩, List.mem_of_getElem? (i := 22) (by decide +kernel), List.mem_of_getElem? (i := 214) (by decide +kernel), List.mem_of_getElem? (i := 215) (by decide +kernel)⟩
theorem lw_p5 : lw_okq (⟨"MirrorNet$Shelf", "namedBy", "(II)I"⟩, 8) := ⟨⟨by decide +kernel, by decide +kernel⟩, List.mem_of_getElem? (i := 22) (by decide +kernel), List.mem_of_getElem? (i := 218) (by decide +kernel), List.mem_of_getElem? (i := 219) (by decide +kernel)⟩
theorem lw_p6 : lw_okq (⟨"MirrorNet$Shelf", "hasState", "(I)Z"⟩, 8) := ⟨⟨by decide +kernel, by decide +kernel⟩, List.mem_of_getElem? (i := 22) (by decide +kernel), List.mem_of_getElem? (i := 222) (by decide +kernel), List.mem_of_getElem? (i := 223) (by decide +kernel)⟩
theorem lw_p7 : lw_okq (⟨"MirrorNet$Shelf", "addState", "(I)I"⟩, 8) := ⟨⟨by decide +kernel, by decide +kernel⟩, List.mem_of_getElem? (i := 22) (by decide +kernel), List.mem_of_getElem? (i := 226) (by decide +kernel), List.mem_of_getElem? (i := 227) (by decide +kernel)⟩
theorem lw_p8 : lw_okq (⟨"MirrorNet$Shelf", "gatherFiles", "(I)V"⟩, 8) := ⟨⟨by decide +kernel, by decide +kernel⟩, List.mem_of_getElem? (i := 22) (by decide +kernel), List.mem_of_getElem? (i := 233) (by decide +kernel), List.mem_of_getElem? (i := 234) (by decide +kernel)⟩
theorem lw_p9 : lw_okq (⟨"MirrorNet$Shelf", "addYank", "(II)I"⟩, 8) := ⟨⟨by decide +kernel, by decide +kernel⟩, List.mem_of_getElem? (i := 22) (by decide +kernel), List.mem_of_getElem? (i := 241) (by decide +kernel), List.mem_of_getElem? (i := 242) (by decide +kernel)⟩
theorem lw_p10 : lw_okq (⟨"MirrorNet$Shelf", "tickOf", "(I)I"⟩, 8) := ⟨⟨by decide +kernel, by decide +kernel⟩, List.mem_of_getElem? (i := 22) (by decide +kernel), List.mem_of_getElem? (i := 255) (by decide +kernel), List.mem_of_getElem? (i := 256) (by decide +kernel)⟩
theorem lw_p11 : lw_okq (⟨"MirrorNet$Shelf", "ageOf", "(II)I"⟩, 8) := ⟨⟨by decide +kernel, by decide +kernel⟩, List.mem_of_getElem? (i := 22) (by decide +kernel), List.mem_of_getElem? (i := 259) (by decide +kernel), List.mem_of_getElem? (i := 260) (by decide +kernel)⟩
theorem lw_p12 : lw_okq (⟨"MirrorNet$Shelf", "packagesNamedIn", "(I)I"⟩, 8) := ⟨⟨by decide +kernel, by decide +kernel⟩, List.mem_of_getElem? (i := 22) (by decide +kernel), List.mem_of_getElem? (i := 263) (by decide +kernel), List.mem_of_getElem? (i := 264) (by decide +kernel)⟩
theorem lw_p13 : lw_okq (⟨"MirrorNet$Shelf", "filesOf", "(I)J"⟩, 8) := ⟨⟨by decide +kernel, by decide +kernel⟩, List.mem_of_getElem? (i := 22) (by decide +kernel), List.mem_of_getElem? (i := 267) (by decide +kernel), List.mem_of_getElem? (i := 268) (by decide +kernel)⟩
theorem lw_p14 : lw_okq (⟨"MirrorNet$Shelf", "bytesOf", "(J)I"⟩, 8) := ⟨⟨by decide +kernel, by decide +kernel⟩, List.mem_of_getElem? (i := 22) (by decide +kernel), List.mem_of_getElem? (i := 271) (by decide +kernel), List.mem_of_getElem? (i := 272) (by decide +kernel)⟩
theorem lw_p15 : lw_okq (⟨"MirrorNet", "mirrorAt", "(I)LMirrorNet$Mirror;"⟩, 8) := ⟨⟨by decide +kernel, by decide +kernel⟩, List.mem_of_getElem? (i := 14) (by decide +kernel), List.mem_of_getElem? (i := 327) (by decide +kernel), List.mem_of_getElem? (i := 328) (by decide +kernel)⟩
def lw_privs_1 : List (MethodName × Nat) := [(⟨"MirrorNet$Shelf", "addFile", "(I)I"⟩, 8), (⟨"MirrorNet$Shelf", "addPut", "(III)I"⟩, 8), (⟨"MirrorNet$Shelf", "mayChange", "(I)Z"⟩, 8), (⟨"MirrorNet$Shelf", "hasFile", "(I)Z"⟩, 8), (⟨"MirrorNet$Shelf", "latestState", "()I"⟩, 8), (⟨"MirrorNet$Shelf", "namedBy", "(II)I"⟩, 8), (⟨"MirrorNet$Shelf", "hasState", "(I)Z"⟩, 8), (⟨"MirrorNet$Shelf", "addState", "(I)I"⟩, 8), (⟨"MirrorNet$Shelf", "gatherFiles", "(I)V"⟩, 8), (⟨"MirrorNet$Shelf", "addYank", "(II)I"⟩, 8), (⟨"MirrorNet$Shelf", "tickOf", "(I)I"⟩, 8), (⟨"MirrorNet$Shelf", "ageOf", "(II)I"⟩, 8), (⟨"MirrorNet$Shelf", "packagesNamedIn", "(I)I"⟩, 8), (⟨"MirrorNet$Shelf", "filesOf", "(I)J"⟩, 8), (⟨"MirrorNet$Shelf", "bytesOf", "(J)I"⟩, 8), (⟨"MirrorNet", "mirrorAt", "(I)LMirrorNet$Mirror;"⟩, 8)]
theorem lw_r1 : ∀ q ∈ lw_privs_1, lw_okq q := List.forall_mem_cons.mpr ⟨lw_p0, List.forall_mem_cons.mpr ⟨lw_p1, List.forall_mem_cons.mpr ⟨lw_p2, List.forall_mem_cons.mpr ⟨lw_p3, List.forall_mem_cons.mpr ⟨lw_p4, List.forall_mem_cons.mpr ⟨lw_p5, List.forall_mem_cons.mpr ⟨lw_p6, List.forall_mem_cons.mpr ⟨lw_p7, List.forall_mem_cons.mpr ⟨lw_p8, List.forall_mem_cons.mpr ⟨lw_p9, List.forall_mem_cons.mpr ⟨lw_p10, List.forall_mem_cons.mpr ⟨lw_p11, List.forall_mem_cons.mpr ⟨lw_p12, List.forall_mem_cons.mpr ⟨lw_p13, List.forall_mem_cons.mpr ⟨lw_p14, List.forall_mem_cons.mpr ⟨lw_p15, fun _ h => absurd h List.not_mem_nil⟩⟩⟩⟩⟩⟩⟩⟩⟩⟩⟩⟩⟩⟩⟩⟩
theorem lw_p16 : lw_okq (⟨"MirrorNet$Falls", "add", "(III)I"⟩, 4) := ⟨⟨by decide +kernel, by decide +kernel⟩, List.mem_of_getElem? (i := 61) (by decide +kernel), List.mem_of_getElem? (i := 335) (by decide +kernel), List.mem_of_getElem? (i := 336) (by decide +kernel)⟩
theorem lw_p17 : lw_okq (⟨"MirrorNet", "stepAll", "()V"⟩, 8) := ⟨⟨by decide +kernel, by decide +kernel⟩, List.mem_of_getElem? (i := 14) (by decide +kernel), List.mem_of_getElem? (i := 347) (by decide +kernel), List.mem_of_getElem? (i := 348) (by decide +kernel)⟩
theorem lw_p18 : lw_okq (⟨"MirrorNet$Falls", "downAt", "(I)I"⟩, 4) := ⟨⟨by decide +kernel, by decide +kernel⟩, List.mem_of_getElem? (i := 61) (by decide +kernel), List.mem_of_getElem? (i := 351) (by decide +kernel), List.mem_of_getElem? (i := 352) (by decide +kernel)⟩
theorem lw_p19 : lw_okq (⟨"MirrorNet$Shelf", "allFiles", "()J"⟩, 8) := ⟨⟨by decide +kernel, by decide +kernel⟩, List.mem_of_getElem? (i := 22) (by decide +kernel), List.mem_of_getElem? (i := 360) (by decide +kernel), List.mem_of_getElem? (i := 361) (by decide +kernel)⟩
theorem lw_p20 : lw_okq (⟨"MirrorNet$Mirror", "step", "(LMirrorNet$Shelf;IJ)V"⟩, 10) := ⟨⟨by decide +kernel, by decide +kernel⟩, List.mem_of_getElem? (i := 278) (by decide +kernel), List.mem_of_getElem? (i := 364) (by decide +kernel), List.mem_of_getElem? (i := 365) (by decide +kernel)⟩
theorem lw_p21 : lw_okq (⟨"MirrorNet$Mirror", "copyFiles", "(LMirrorNet$Shelf;J)V"⟩, 10) := ⟨⟨by decide +kernel, by decide +kernel⟩, List.mem_of_getElem? (i := 278) (by decide +kernel), List.mem_of_getElem? (i := 368) (by decide +kernel), List.mem_of_getElem? (i := 369) (by decide +kernel)⟩
theorem lw_p22 : lw_okq (⟨"MirrorNet$Mirror", "missing", "(LMirrorNet$Shelf;)J"⟩, 10) := ⟨⟨by decide +kernel, by decide +kernel⟩, List.mem_of_getElem? (i := 278) (by decide +kernel), List.mem_of_getElem? (i := 372) (by decide +kernel), List.mem_of_getElem? (i := 373) (by decide +kernel)⟩
theorem lw_p23 : lw_okq (⟨"MirrorNet$Shelf", "sizeOf", "(I)I"⟩, 8) := ⟨⟨by decide +kernel, by decide +kernel⟩, List.mem_of_getElem? (i := 22) (by decide +kernel), List.mem_of_getElem? (i := 388) (by decide +kernel), List.mem_of_getElem? (i := 389) (by decide +kernel)⟩
theorem lw_p24 : lw_okq (⟨"MirrorNet$Mirror", "takeBytes", "(III)I"⟩, 10) := ⟨⟨by decide +kernel, by decide +kernel⟩, List.mem_of_getElem? (i := 278) (by decide +kernel), List.mem_of_getElem? (i := 392) (by decide +kernel), List.mem_of_getElem? (i := 393) (by decide +kernel)⟩
theorem lw_p25 : lw_okq (⟨"MirrorNet$Mirror", "takeIndex", "()V"⟩, 10) := ⟨⟨by decide +kernel, by decide +kernel⟩, List.mem_of_getElem? (i := 278) (by decide +kernel), List.mem_of_getElem? (i := 399) (by decide +kernel), List.mem_of_getElem? (i := 400) (by decide +kernel)⟩
theorem lw_p26 : lw_okq (⟨"MirrorNet$Mirror", "dropOld", "(LMirrorNet$Shelf;)V"⟩, 10) := ⟨⟨by decide +kernel, by decide +kernel⟩, List.mem_of_getElem? (i := 278) (by decide +kernel), List.mem_of_getElem? (i := 403) (by decide +kernel), List.mem_of_getElem? (i := 404) (by decide +kernel)⟩
theorem lw_p27 : lw_okq (⟨"MirrorNet$Mirror", "bytesWanted", "(LMirrorNet$Shelf;)I"⟩, 10) := ⟨⟨by decide +kernel, by decide +kernel⟩, List.mem_of_getElem? (i := 278) (by decide +kernel), List.mem_of_getElem? (i := 411) (by decide +kernel), List.mem_of_getElem? (i := 412) (by decide +kernel)⟩
theorem lw_p28 : lw_okq (⟨"MirrorNet$Mirror", "holds", "(I)Z"⟩, 10) := ⟨⟨by decide +kernel, by decide +kernel⟩, List.mem_of_getElem? (i := 278) (by decide +kernel), List.mem_of_getElem? (i := 421) (by decide +kernel), List.mem_of_getElem? (i := 422) (by decide +kernel)⟩
theorem lw_p29 : lw_okq (⟨"MirrorNet", "askerAt", "(I)LMirrorNet$Asker;"⟩, 8) := ⟨⟨by decide +kernel, by decide +kernel⟩, List.mem_of_getElem? (i := 14) (by decide +kernel), List.mem_of_getElem? (i := 429) (by decide +kernel), List.mem_of_getElem? (i := 430) (by decide +kernel)⟩
theorem lw_p30 : lw_okq (⟨"MirrorNet$Asker", "costOf", "(I)I"⟩, 6) := ⟨⟨by decide +kernel, by decide +kernel⟩, List.mem_of_getElem? (i := 84) (by decide +kernel), List.mem_of_getElem? (i := 433) (by decide +kernel), List.mem_of_getElem? (i := 434) (by decide +kernel)⟩
theorem lw_p31 : lw_okq (⟨"MirrorNet$Asker", "setCost", "(II)V"⟩, 6) := ⟨⟨by decide +kernel, by decide +kernel⟩, List.mem_of_getElem? (i := 84) (by decide +kernel), List.mem_of_getElem? (i := 438) (by decide +kernel), List.mem_of_getElem? (i := 439) (by decide +kernel)⟩
def lw_privs_2 : List (MethodName × Nat) := [(⟨"MirrorNet$Falls", "add", "(III)I"⟩, 4), (⟨"MirrorNet", "stepAll", "()V"⟩, 8), (⟨"MirrorNet$Falls", "downAt", "(I)I"⟩, 4), (⟨"MirrorNet$Shelf", "allFiles", "()J"⟩, 8), (⟨"MirrorNet$Mirror", "step", "(LMirrorNet$Shelf;IJ)V"⟩, 10), (⟨"MirrorNet$Mirror", "copyFiles", "(LMirrorNet$Shelf;J)V"⟩, 10), (⟨"MirrorNet$Mirror", "missing", "(LMirrorNet$Shelf;)J"⟩, 10), (⟨"MirrorNet$Shelf", "sizeOf", "(I)I"⟩, 8), (⟨"MirrorNet$Mirror", "takeBytes", "(III)I"⟩, 10), (⟨"MirrorNet$Mirror", "takeIndex", "()V"⟩, 10), (⟨"MirrorNet$Mirror", "dropOld", "(LMirrorNet$Shelf;)V"⟩, 10), (⟨"MirrorNet$Mirror", "bytesWanted", "(LMirrorNet$Shelf;)I"⟩, 10), (⟨"MirrorNet$Mirror", "holds", "(I)Z"⟩, 10), (⟨"MirrorNet", "askerAt", "(I)LMirrorNet$Asker;"⟩, 8), (⟨"MirrorNet$Asker", "costOf", "(I)I"⟩, 6), (⟨"MirrorNet$Asker", "setCost", "(II)V"⟩, 6)]
theorem lw_r2 : ∀ q ∈ lw_privs_2, lw_okq q := List.forall_mem_cons.mpr ⟨lw_p16, List.forall_mem_cons.mpr ⟨lw_p17, List.forall_mem_cons.mpr ⟨lw_p18, List.forall_mem_cons.mpr ⟨lw_p19, List.forall_mem_cons.mpr ⟨lw_p20, List.forall_mem_cons.mpr ⟨lw_p21, List.forall_mem_cons.mpr ⟨lw_p22, List.forall_mem_cons.mpr ⟨lw_p23, List.forall_mem_cons.mpr ⟨lw_p24, List.forall_mem_cons.mpr ⟨lw_p25, List.forall_mem_cons.mpr ⟨lw_p26, List.forall_mem_cons.mpr ⟨lw_p27, List.forall_mem_cons.mpr ⟨lw_p28, List.forall_mem_cons.mpr ⟨lw_p29, List.forall_mem_cons.mpr ⟨lw_p30, List.forall_mem_cons.mpr ⟨lw_p31, fun _ h => absurd h List.not_mem_nil⟩⟩⟩⟩⟩⟩⟩⟩⟩⟩⟩⟩⟩⟩⟩⟩
theorem lw_p32 : lw_okq (⟨"MirrorNet$Asking", "begin", "()V"⟩, 10) := ⟨⟨by decide +kernel, by decide +kernel⟩, List.mem_of_getElem? (i := 114) (by decide +kernel), List.mem_of_getElem? (i := 464) (by decide +kernel), List.mem_of_getElem? (i := 465) (by decide +kernel)⟩
theorem lw_p33 : lw_okq (⟨"MirrorNet$Asker", "lineUp", "()V"⟩, 6) := ⟨⟨by decide +kernel, by decide +kernel⟩, List.mem_of_getElem? (i := 84) (by decide +kernel), List.mem_of_getElem? (i := 468) (by decide +kernel), List.mem_of_getElem? (i := 469) (by decide +kernel)⟩
theorem lw_p34 : lw_okq (⟨"MirrorNet$Asker", "knowsAsBad", "(I)Z"⟩, 6) := ⟨⟨by decide +kernel, by decide +kernel⟩, List.mem_of_getElem? (i := 84) (by decide +kernel), List.mem_of_getElem? (i := 472) (by decide +kernel), List.mem_of_getElem? (i := 473) (by decide +kernel)⟩
theorem lw_p35 : lw_okq (⟨"MirrorNet$Asker", "putInLine", "(I)V"⟩, 6) := ⟨⟨by decide +kernel, by decide +kernel⟩, List.mem_of_getElem? (i := 84) (by decide +kernel), List.mem_of_getElem? (i := 477) (by decide +kernel), List.mem_of_getElem? (i := 478) (by decide +kernel)⟩
theorem lw_p36 : lw_okq (⟨"MirrorNet", "carryOut", "(LMirrorNet$Asker;II)I"⟩, 8) := ⟨⟨by decide +kernel, by decide +kernel⟩, List.mem_of_getElem? (i := 14) (by decide +kernel), List.mem_of_getElem? (i := 481) (by decide +kernel), List.mem_of_getElem? (i := 482) (by decide +kernel)⟩
theorem lw_p37 : lw_okq (⟨"MirrorNet", "findIndex", "(LMirrorNet$Asker;I)I"⟩, 8) := ⟨⟨by decide +kernel, by decide +kernel⟩, List.mem_of_getElem? (i := 14) (by decide +kernel), List.mem_of_getElem? (i := 485) (by decide +kernel), List.mem_of_getElem? (i := 486) (by decide +kernel)⟩
theorem lw_p38 : lw_okq (⟨"MirrorNet$Asker", "inLine", "(I)I"⟩, 6) := ⟨⟨by decide +kernel, by decide +kernel⟩, List.mem_of_getElem? (i := 84) (by decide +kernel), List.mem_of_getElem? (i := 489) (by decide +kernel), List.mem_of_getElem? (i := 490) (by decide +kernel)⟩
theorem lw_p39 : lw_okq (⟨"MirrorNet$Asking", "spend", "(I)V"⟩, 10) := ⟨⟨by decide +kernel, by decide +kernel⟩, List.mem_of_getElem? (i := 114) (by decide +kernel), List.mem_of_getElem? (i := 494) (by decide +kernel), List.mem_of_getElem? (i := 495) (by decide +kernel)⟩
theorem lw_p40 : lw_okq (⟨"MirrorNet$Asker", "markBad", "(I)V"⟩, 6) := ⟨⟨by decide +kernel, by decide +kernel⟩, List.mem_of_getElem? (i := 84) (by decide +kernel), List.mem_of_getElem? (i := 498) (by decide +kernel), List.mem_of_getElem? (i := 499) (by decide +kernel)⟩
theorem lw_p41 : lw_okq (⟨"MirrorNet", "suits", "(III)Z"⟩, 8) := ⟨⟨by decide +kernel, by decide +kernel⟩, List.mem_of_getElem? (i := 14) (by decide +kernel), List.mem_of_getElem? (i := 502) (by decide +kernel), List.mem_of_getElem? (i := 503) (by decide +kernel)⟩
theorem lw_p42 : lw_okq (⟨"MirrorNet$Shelf", "namesLongYanked", "(III)Z"⟩, 8) := ⟨⟨by decide +kernel, by decide +kernel⟩, List.mem_of_getElem? (i := 22) (by decide +kernel), List.mem_of_getElem? (i := 506) (by decide +kernel), List.mem_of_getElem? (i := 507) (by decide +kernel)⟩
theorem lw_p43 : lw_okq (⟨"MirrorNet", "firstNotNamed", "(II)I"⟩, 8) := ⟨⟨by decide +kernel, by decide +kernel⟩, List.mem_of_getElem? (i := 14) (by decide +kernel), List.mem_of_getElem? (i := 511) (by decide +kernel), List.mem_of_getElem? (i := 512) (by decide +kernel)⟩
theorem lw_p44 : lw_okq (⟨"MirrorNet", "getFiles", "(LMirrorNet$Asker;II)I"⟩, 8) := ⟨⟨by decide +kernel, by decide +kernel⟩, List.mem_of_getElem? (i := 14) (by decide +kernel), List.mem_of_getElem? (i := 515) (by decide +kernel), List.mem_of_getElem? (i := 516) (by decide +kernel)⟩
theorem lw_p45 : lw_okq (⟨"MirrorNet", "findGiver", "(LMirrorNet$Asker;II)I"⟩, 8) := ⟨⟨by decide +kernel, by decide +kernel⟩, List.mem_of_getElem? (i := 14) (by decide +kernel), List.mem_of_getElem? (i := 519) (by decide +kernel), List.mem_of_getElem? (i := 520) (by decide +kernel)⟩
theorem lw_p46 : lw_okq (⟨"MirrorNet$Asking", "keepGot", "(III)V"⟩, 10) := ⟨⟨by decide +kernel, by decide +kernel⟩, List.mem_of_getElem? (i := 114) (by decide +kernel), List.mem_of_getElem? (i := 523) (by decide +kernel), List.mem_of_getElem? (i := 524) (by decide +kernel)⟩
theorem lw_p47 : lw_okq (⟨"MirrorNet", "foresee", "(LMirrorNet$Asker;III)I"⟩, 8) := ⟨⟨by decide +kernel, by decide +kernel⟩, List.mem_of_getElem? (i := 14) (by decide +kernel), List.mem_of_getElem? (i := 527) (by decide +kernel), List.mem_of_getElem? (i := 528) (by decide +kernel)⟩
def lw_privs_3 : List (MethodName × Nat) := [(⟨"MirrorNet$Asking", "begin", "()V"⟩, 10), (⟨"MirrorNet$Asker", "lineUp", "()V"⟩, 6), (⟨"MirrorNet$Asker", "knowsAsBad", "(I)Z"⟩, 6), (⟨"MirrorNet$Asker", "putInLine", "(I)V"⟩, 6), (⟨"MirrorNet", "carryOut", "(LMirrorNet$Asker;II)I"⟩, 8), (⟨"MirrorNet", "findIndex", "(LMirrorNet$Asker;I)I"⟩, 8), (⟨"MirrorNet$Asker", "inLine", "(I)I"⟩, 6), (⟨"MirrorNet$Asking", "spend", "(I)V"⟩, 10), (⟨"MirrorNet$Asker", "markBad", "(I)V"⟩, 6), (⟨"MirrorNet", "suits", "(III)Z"⟩, 8), (⟨"MirrorNet$Shelf", "namesLongYanked", "(III)Z"⟩, 8), (⟨"MirrorNet", "firstNotNamed", "(II)I"⟩, 8), (⟨"MirrorNet", "getFiles", "(LMirrorNet$Asker;II)I"⟩, 8), (⟨"MirrorNet", "findGiver", "(LMirrorNet$Asker;II)I"⟩, 8), (⟨"MirrorNet$Asking", "keepGot", "(III)V"⟩, 10), (⟨"MirrorNet", "foresee", "(LMirrorNet$Asker;III)I"⟩, 8)]
theorem lw_r3 : ∀ q ∈ lw_privs_3, lw_okq q := List.forall_mem_cons.mpr ⟨lw_p32, List.forall_mem_cons.mpr ⟨lw_p33, List.forall_mem_cons.mpr ⟨lw_p34, List.forall_mem_cons.mpr ⟨lw_p35, List.forall_mem_cons.mpr ⟨lw_p36, List.forall_mem_cons.mpr ⟨lw_p37, List.forall_mem_cons.mpr ⟨lw_p38, List.forall_mem_cons.mpr ⟨lw_p39, List.forall_mem_cons.mpr ⟨lw_p40, List.forall_mem_cons.mpr ⟨lw_p41, List.forall_mem_cons.mpr ⟨lw_p42, List.forall_mem_cons.mpr ⟨lw_p43, List.forall_mem_cons.mpr ⟨lw_p44, List.forall_mem_cons.mpr ⟨lw_p45, List.forall_mem_cons.mpr ⟨lw_p46, List.forall_mem_cons.mpr ⟨lw_p47, fun _ h => absurd h List.not_mem_nil⟩⟩⟩⟩⟩⟩⟩⟩⟩⟩⟩⟩⟩⟩⟩⟩
theorem lw_p48 : lw_okq (⟨"MirrorNet", "leastForIndex", "(LMirrorNet$Asker;III)I"⟩, 8) := ⟨⟨by decide +kernel, by decide +kernel⟩, List.mem_of_getElem? (i := 14) (by decide +kernel), List.mem_of_getElem? (i := 531) (by decide +kernel), List.mem_of_getElem? (i := 532) (by decide +kernel)⟩
theorem lw_p49 : lw_okq (⟨"MirrorNet$Shelf", "namesAlike", "(III)Z"⟩, 8) := ⟨⟨by decide +kernel, by decide +kernel⟩, List.mem_of_getElem? (i := 22) (by decide +kernel), List.mem_of_getElem? (i := 538) (by decide +kernel), List.mem_of_getElem? (i := 539) (by decide +kernel)⟩
theorem lw_p50 : lw_okq (⟨"MirrorNet", "leastForFile", "(LMirrorNet$Asker;II)I"⟩, 8) := ⟨⟨by decide +kernel, by decide +kernel⟩, List.mem_of_getElem? (i := 14) (by decide +kernel), List.mem_of_getElem? (i := 544) (by decide +kernel), List.mem_of_getElem? (i := 545) (by decide +kernel)⟩
theorem lw_p51 : lw_okq (⟨"MirrorNet$Asking", "gotten", "(II)I"⟩, 10) := ⟨⟨by decide +kernel, by decide +kernel⟩, List.mem_of_getElem? (i := 114) (by decide +kernel), List.mem_of_getElem? (i := 556) (by decide +kernel), List.mem_of_getElem? (i := 557) (by decide +kernel)⟩
theorem lw_p52 : lw_okq (⟨"MirrorNetModel", "isFile", "(I)Z"⟩, 40) := ⟨⟨by decide +kernel, by decide +kernel⟩, List.mem_of_getElem? (i := 569) (by decide +kernel), List.mem_of_getElem? (i := 708) (by decide +kernel), List.mem_of_getElem? (i := 709) (by decide +kernel)⟩
theorem lw_p53 : lw_okq (⟨"MirrorNetModel", "comes", "()V"⟩, 40) := ⟨⟨by decide +kernel, by decide +kernel⟩, List.mem_of_getElem? (i := 569) (by decide +kernel), List.mem_of_getElem? (i := 712) (by decide +kernel), List.mem_of_getElem? (i := 713) (by decide +kernel)⟩
theorem lw_p54 : lw_okq (⟨"MirrorNetModel", "isMirror", "(I)Z"⟩, 40) := ⟨⟨by decide +kernel, by decide +kernel⟩, List.mem_of_getElem? (i := 569) (by decide +kernel), List.mem_of_getElem? (i := 728) (by decide +kernel), List.mem_of_getElem? (i := 729) (by decide +kernel)⟩
theorem lw_p55 : lw_okq (⟨"MirrorNetModel", "goes", "(I)V"⟩, 40) := ⟨⟨by decide +kernel, by decide +kernel⟩, List.mem_of_getElem? (i := 569) (by decide +kernel), List.mem_of_getElem? (i := 744) (by decide +kernel), List.mem_of_getElem? (i := 745) (by decide +kernel)⟩
theorem lw_p56 : lw_okq (⟨"MirrorNetModel", "isFallen", "(I)Z"⟩, 40) := ⟨⟨by decide +kernel, by decide +kernel⟩, List.mem_of_getElem? (i := 569) (by decide +kernel), List.mem_of_getElem? (i := 748) (by decide +kernel), List.mem_of_getElem? (i := 749) (by decide +kernel)⟩
theorem lw_p57 : lw_okq (⟨"MirrorNetModel", "copies", "(I)Z"⟩, 40) := ⟨⟨by decide +kernel, by decide +kernel⟩, List.mem_of_getElem? (i := 569) (by decide +kernel), List.mem_of_getElem? (i := 752) (by decide +kernel), List.mem_of_getElem? (i := 753) (by decide +kernel)⟩
theorem lw_p58 : lw_okq (⟨"MirrorNetModel", "lacking", "(I)I"⟩, 40) := ⟨⟨by decide +kernel, by decide +kernel⟩, List.mem_of_getElem? (i := 569) (by decide +kernel), List.mem_of_getElem? (i := 756) (by decide +kernel), List.mem_of_getElem? (i := 757) (by decide +kernel)⟩
theorem lw_p59 : lw_okq (⟨"MirrorNetModel", "isNamed", "(II)Z"⟩, 40) := ⟨⟨by decide +kernel, by decide +kernel⟩, List.mem_of_getElem? (i := 569) (by decide +kernel), List.mem_of_getElem? (i := 760) (by decide +kernel), List.mem_of_getElem? (i := 761) (by decide +kernel)⟩
theorem lw_p60 : lw_okq (⟨"MirrorNetModel", "turns", "(I)V"⟩, 40) := ⟨⟨by decide +kernel, by decide +kernel⟩, List.mem_of_getElem? (i := 569) (by decide +kernel), List.mem_of_getElem? (i := 764) (by decide +kernel), List.mem_of_getElem? (i := 765) (by decide +kernel)⟩
theorem lw_p61 : lw_okq (⟨"MirrorNetModel", "orders", "(I)V"⟩, 40) := ⟨⟨by decide +kernel, by decide +kernel⟩, List.mem_of_getElem? (i := 569) (by decide +kernel), List.mem_of_getElem? (i := 791) (by decide +kernel), List.mem_of_getElem? (i := 792) (by decide +kernel)⟩
theorem lw_p62 : lw_okq (⟨"MirrorNetModel", "indexFor", "(I)I"⟩, 40) := ⟨⟨by decide +kernel, by decide +kernel⟩, List.mem_of_getElem? (i := 569) (by decide +kernel), List.mem_of_getElem? (i := 795) (by decide +kernel), List.mem_of_getElem? (i := 796) (by decide +kernel)⟩
theorem lw_p63 : lw_okq (⟨"MirrorNetModel", "tells", "(II)Z"⟩, 40) := ⟨⟨by decide +kernel, by decide +kernel⟩, List.mem_of_getElem? (i := 569) (by decide +kernel), List.mem_of_getElem? (i := 799) (by decide +kernel), List.mem_of_getElem? (i := 800) (by decide +kernel)⟩
def lw_privs_4 : List (MethodName × Nat) := [(⟨"MirrorNet", "leastForIndex", "(LMirrorNet$Asker;III)I"⟩, 8), (⟨"MirrorNet$Shelf", "namesAlike", "(III)Z"⟩, 8), (⟨"MirrorNet", "leastForFile", "(LMirrorNet$Asker;II)I"⟩, 8), (⟨"MirrorNet$Asking", "gotten", "(II)I"⟩, 10), (⟨"MirrorNetModel", "isFile", "(I)Z"⟩, 40), (⟨"MirrorNetModel", "comes", "()V"⟩, 40), (⟨"MirrorNetModel", "isMirror", "(I)Z"⟩, 40), (⟨"MirrorNetModel", "goes", "(I)V"⟩, 40), (⟨"MirrorNetModel", "isFallen", "(I)Z"⟩, 40), (⟨"MirrorNetModel", "copies", "(I)Z"⟩, 40), (⟨"MirrorNetModel", "lacking", "(I)I"⟩, 40), (⟨"MirrorNetModel", "isNamed", "(II)Z"⟩, 40), (⟨"MirrorNetModel", "turns", "(I)V"⟩, 40), (⟨"MirrorNetModel", "orders", "(I)V"⟩, 40), (⟨"MirrorNetModel", "indexFor", "(I)I"⟩, 40), (⟨"MirrorNetModel", "tells", "(II)Z"⟩, 40)]
theorem lw_r4 : ∀ q ∈ lw_privs_4, lw_okq q := List.forall_mem_cons.mpr ⟨lw_p48, List.forall_mem_cons.mpr ⟨lw_p49, List.forall_mem_cons.mpr ⟨lw_p50, List.forall_mem_cons.mpr ⟨lw_p51, List.forall_mem_cons.mpr ⟨lw_p52, List.forall_mem_cons.mpr ⟨lw_p53, List.forall_mem_cons.mpr ⟨lw_p54, List.forall_mem_cons.mpr ⟨lw_p55, List.forall_mem_cons.mpr ⟨lw_p56, List.forall_mem_cons.mpr ⟨lw_p57, List.forall_mem_cons.mpr ⟨lw_p58, List.forall_mem_cons.mpr ⟨lw_p59, List.forall_mem_cons.mpr ⟨lw_p60, List.forall_mem_cons.mpr ⟨lw_p61, List.forall_mem_cons.mpr ⟨lw_p62, List.forall_mem_cons.mpr ⟨lw_p63, fun _ h => absurd h List.not_mem_nil⟩⟩⟩⟩⟩⟩⟩⟩⟩⟩⟩⟩⟩⟩⟩⟩
theorem lw_p64 : lw_okq (⟨"MirrorNetModel", "isGood", "(III)Z"⟩, 40) := ⟨⟨by decide +kernel, by decide +kernel⟩, List.mem_of_getElem? (i := 569) (by decide +kernel), List.mem_of_getElem? (i := 803) (by decide +kernel), List.mem_of_getElem? (i := 804) (by decide +kernel)⟩
theorem lw_p65 : lw_okq (⟨"MirrorNetModel", "ageOf", "(I)I"⟩, 40) := ⟨⟨by decide +kernel, by decide +kernel⟩, List.mem_of_getElem? (i := 569) (by decide +kernel), List.mem_of_getElem? (i := 807) (by decide +kernel), List.mem_of_getElem? (i := 808) (by decide +kernel)⟩
theorem lw_p66 : lw_okq (⟨"MirrorNetModel", "giver", "(II)I"⟩, 40) := ⟨⟨by decide +kernel, by decide +kernel⟩, List.mem_of_getElem? (i := 569) (by decide +kernel), List.mem_of_getElem? (i := 811) (by decide +kernel), List.mem_of_getElem? (i := 812) (by decide +kernel)⟩
theorem lw_p67 : lw_okq (⟨"MirrorNetModel", "least", "(III)I"⟩, 40) := ⟨⟨by decide +kernel, by decide +kernel⟩, List.mem_of_getElem? (i := 569) (by decide +kernel), List.mem_of_getElem? (i := 815) (by decide +kernel), List.mem_of_getElem? (i := 816) (by decide +kernel)⟩
def lw_privs_5 : List (MethodName × Nat) := [(⟨"MirrorNetModel", "isGood", "(III)Z"⟩, 40), (⟨"MirrorNetModel", "ageOf", "(I)I"⟩, 40), (⟨"MirrorNetModel", "giver", "(II)I"⟩, 40), (⟨"MirrorNetModel", "least", "(III)I"⟩, 40)]
theorem lw_r5 : ∀ q ∈ lw_privs_5, lw_okq q := List.forall_mem_cons.mpr ⟨lw_p64, List.forall_mem_cons.mpr ⟨lw_p65, List.forall_mem_cons.mpr ⟨lw_p66, List.forall_mem_cons.mpr ⟨lw_p67, fun _ h => absurd h List.not_mem_nil⟩⟩⟩⟩
def lw_privs : List (MethodName × Nat) := lw_privs_1 ++ (lw_privs_2 ++ (lw_privs_3 ++ (lw_privs_4 ++ (lw_privs_5))))
def lw_tbl : List Cond := k2_sels lw_privs ++ tables_1
theorem lw_privs_ok : ∀ q ∈ lw_privs, lw_okq q := by
  show ∀ q ∈ lw_privs_1 ++ (lw_privs_2 ++ (lw_privs_3 ++ (lw_privs_4 ++ (lw_privs_5)))), lw_okq q
  exact List.forall_mem_append.mpr ⟨lw_r1, List.forall_mem_append.mpr ⟨lw_r2, List.forall_mem_append.mpr ⟨lw_r3, List.forall_mem_append.mpr ⟨lw_r4, lw_r5⟩⟩⟩⟩
end
section
/-! ===== BEGIN words of one list among another's, by their places ===== -/
theorem goodIn_r {big : List Cond} (ws : List Cond) (ps : List Nat) (hp : ws = ps.filterMap (fun i => big[i]?)) (h : ws.all goodWord = true) : GoodIn big ws := by
  intro w hw
  have h1 := List.all_eq_true.mp h w hw
  rw [hp] at hw
  obtain ⟨i, -, hi⟩ := List.mem_filterMap.mp hw
  have hm : w ∈ big := by first | exact List.mem_of_getElem? hi | exact List.getElem?_mem hi
  exact ⟨hm, good_of_word h1⟩
theorem goodIn_app {big a b : List Cond} (ha : GoodIn big a) (hb : GoodIn big b) : GoodIn big (a ++ b) := fun w h => (List.mem_append.mp h).elim (ha w) (hb w)
theorem goodIn_ca {big a b : List Cond} {c : Cond} (ha : GoodIn big (c :: a)) (hb : GoodIn big b) : GoodIn big (c :: (a ++ b)) := fun w h => (List.mem_cons.mp h).elim (fun e => ha w (List.mem_cons.mpr (Or.inl e))) (fun h => (List.mem_append.mp h).elim (fun h => ha w (List.mem_cons.mpr (Or.inr h))) (hb w))
theorem goodIn_sub {big ws : List Cond} (hm : ∀ w ∈ ws, w ∈ big) (h : ws.all goodWord = true) : GoodIn big ws := fun w hw => ⟨hm w hw, good_of_word (List.all_eq_true.mp h w hw)⟩
/-! ===== END ===== -/

/-! ===== BEGIN printed: names, fields, word lists, decode rows ===== -/
def RX0 : String := "MirrorNet$Asker"
def TX0 : u_T := fun k => match k with
  | 0 => ("MirrorNet$Asker", "costs", "[I", true)
  | 1 => ("MirrorNet$Asker", "line", "[I", true)
  | 2 => ("MirrorNet$Asker", "lineLength", "I", false)
  | 3 => ("MirrorNet$Asker", "mostAge", "I", false)
  | 4 => ("MirrorNet$Asker", "last", "I", false)
  | _ => ("MirrorNet$Asker", "bad", "I", false)
def tyX0 : Nat → FieldType := fun k => match k with
  | 0 => .array .int
  | 1 => .array .int
  | 2 => .int
  | 3 => .int
  | 4 => .int
  | _ => .int
abbrev wsX00 : List Cond := u_ws RX0 TX0 6
theorem nmX0 : ∀ a, a < 6 → ∀ b, b < 6 → a ≠ b → (TX0 a).2.1 ≠ (TX0 b).2.1 := by decide +kernel
theorem tyX0_ok : ∀ k, k < 6 → parseFieldDescriptor (TX0 k).2.2.1 = some (tyX0 k) := by decide +kernel
abbrev cX0_init : ByteArray := prog_2_method_1_code
def yX0_init : MethodName := ⟨RX0, "<init>", "()V"⟩
abbrev cX0_costOf : ByteArray := prog_2_method_2_code
def yX0_costOf : MethodName := ⟨RX0, "costOf", "(I)I"⟩
abbrev cX0_setCost : ByteArray := prog_2_method_3_code
def yX0_setCost : MethodName := ⟨RX0, "setCost", "(II)V"⟩
abbrev cX0_knowsAsBad : ByteArray := prog_2_method_4_code
def yX0_knowsAsBad : MethodName := ⟨RX0, "knowsAsBad", "(I)Z"⟩
abbrev cX0_markBad : ByteArray := prog_2_method_5_code
def yX0_markBad : MethodName := ⟨RX0, "markBad", "(I)V"⟩
abbrev cX0_inLine : ByteArray := prog_2_method_6_code
def yX0_inLine : MethodName := ⟨RX0, "inLine", "(I)I"⟩
abbrev cX0_lineUp : ByteArray := prog_2_method_7_code
def yX0_lineUp : MethodName := ⟨RX0, "lineUp", "()V"⟩
abbrev cX0_putInLine : ByteArray := prog_2_method_8_code
def yX0_putInLine : MethodName := ⟨RX0, "putInLine", "(I)V"⟩
def RX1 : String := "MirrorNet$Asking"
def TX1 : u_T := fun k => match k with
  | 0 => ("MirrorNet$Asking", "gotFiles", "[I", true)
  | 1 => ("MirrorNet$Asking", "gotPackages", "[I", true)
  | 2 => ("MirrorNet$Asking", "gotMirrors", "[I", true)
  | 3 => ("MirrorNet$Asking", "isAny", "Z", false)
  | 4 => ("MirrorNet$Asking", "index", "I", false)
  | 5 => ("MirrorNet$Asking", "spent", "I", false)
  | 6 => ("MirrorNet$Asking", "askings", "I", false)
  | 7 => ("MirrorNet$Asking", "gotCount", "I", false)
  | 8 => ("MirrorNet$Asking", "lacking", "I", false)
  | _ => ("MirrorNet$Asking", "foresight", "I", false)
def tyX1 : Nat → FieldType := fun k => match k with
  | 0 => .array .int
  | 1 => .array .int
  | 2 => .array .int
  | 3 => .boolean
  | 4 => .int
  | 5 => .int
  | 6 => .int
  | 7 => .int
  | 8 => .int
  | _ => .int
abbrev wsX10 : List Cond := u_ws RX1 TX1 10
theorem nmX1 : ∀ a, a < 10 → ∀ b, b < 10 → a ≠ b → (TX1 a).2.1 ≠ (TX1 b).2.1 := by decide +kernel
theorem tyX1_ok : ∀ k, k < 10 → parseFieldDescriptor (TX1 k).2.2.1 = some (tyX1 k) := by decide +kernel
abbrev cX1_init : ByteArray := prog_3_method_1_code
def yX1_init : MethodName := ⟨RX1, "<init>", "()V"⟩
abbrev cX1_begin : ByteArray := prog_3_method_2_code
def yX1_begin : MethodName := ⟨RX1, "begin", "()V"⟩
abbrev cX1_spend : ByteArray := prog_3_method_3_code
def yX1_spend : MethodName := ⟨RX1, "spend", "(I)V"⟩
abbrev cX1_keepGot : ByteArray := prog_3_method_4_code
def yX1_keepGot : MethodName := ⟨RX1, "keepGot", "(III)V"⟩
abbrev cX1_gotten : ByteArray := prog_3_method_5_code
def yX1_gotten : MethodName := ⟨RX1, "gotten", "(II)I"⟩
def RX2 : String := "MirrorNet$Falls"
def TX2 : u_T := fun k => match k with
  | 0 => ("MirrorNet$Falls", "who", "[I", true)
  | 1 => ("MirrorNet$Falls", "firsts", "[I", true)
  | 2 => ("MirrorNet$Falls", "lasts", "[I", true)
  | _ => ("MirrorNet$Falls", "told", "I", false)
def tyX2 : Nat → FieldType := fun k => match k with
  | 0 => .array .int
  | 1 => .array .int
  | 2 => .array .int
  | _ => .int
abbrev wsX20 : List Cond := u_ws RX2 TX2 4
theorem nmX2 : ∀ a, a < 4 → ∀ b, b < 4 → a ≠ b → (TX2 a).2.1 ≠ (TX2 b).2.1 := by decide +kernel
theorem tyX2_ok : ∀ k, k < 4 → parseFieldDescriptor (TX2 k).2.2.1 = some (tyX2 k) := by decide +kernel
abbrev cX2_init : ByteArray := prog_4_method_1_code
def yX2_init : MethodName := ⟨RX2, "<init>", "()V"⟩
abbrev cX2_add : ByteArray := prog_4_method_2_code
def yX2_add : MethodName := ⟨RX2, "add", "(III)I"⟩
abbrev cX2_downAt : ByteArray := prog_4_method_3_code
def yX2_downAt : MethodName := ⟨RX2, "downAt", "(I)I"⟩
def RX3 : String := "MirrorNet$Mirror"
def TX3 : u_T := fun k => match k with
  | 0 => ("MirrorNet$Mirror", "source", "I", true)
  | 1 => ("MirrorNet$Mirror", "keep", "I", true)
  | 2 => ("MirrorNet$Mirror", "earlier", "[I", true)
  | 3 => ("MirrorNet$Mirror", "bytesATick", "I", false)
  | 4 => ("MirrorNet$Mirror", "index", "I", false)
  | 5 => ("MirrorNet$Mirror", "target", "I", false)
  | 6 => ("MirrorNet$Mirror", "files", "J", false)
  | 7 => ("MirrorNet$Mirror", "done", "I", false)
  | 8 => ("MirrorNet$Mirror", "taken", "I", false)
  | _ => ("MirrorNet$Mirror", "isLiar", "Z", false)
def tyX3 : Nat → FieldType := fun k => match k with
  | 0 => .int
  | 1 => .int
  | 2 => .array .int
  | 3 => .int
  | 4 => .int
  | 5 => .int
  | 6 => .long
  | 7 => .int
  | 8 => .int
  | _ => .boolean
abbrev wsX30 : List Cond := u_ws RX3 TX3 10
theorem nmX3 : ∀ a, a < 10 → ∀ b, b < 10 → a ≠ b → (TX3 a).2.1 ≠ (TX3 b).2.1 := by decide +kernel
theorem tyX3_ok : ∀ k, k < 10 → parseFieldDescriptor (TX3 k).2.2.1 = some (tyX3 k) := by decide +kernel
abbrev cX3_init : ByteArray := prog_5_method_1_code
def yX3_init : MethodName := ⟨RX3, "<init>", "(III)V"⟩
abbrev cX3_holds : ByteArray := prog_5_method_2_code
def yX3_holds : MethodName := ⟨RX3, "holds", "(I)Z"⟩
abbrev cX3_missing : ByteArray := prog_5_method_3_code
def yX3_missing : MethodName := ⟨RX3, "missing", "(LMirrorNet$Shelf;)J"⟩
abbrev cX3_bytesWanted : ByteArray := prog_5_method_4_code
def yX3_bytesWanted : MethodName := ⟨RX3, "bytesWanted", "(LMirrorNet$Shelf;)I"⟩
abbrev cX3_step : ByteArray := prog_5_method_5_code
def yX3_step : MethodName := ⟨RX3, "step", "(LMirrorNet$Shelf;IJ)V"⟩
abbrev cX3_copyFiles : ByteArray := prog_5_method_6_code
def yX3_copyFiles : MethodName := ⟨RX3, "copyFiles", "(LMirrorNet$Shelf;J)V"⟩
abbrev cX3_takeBytes : ByteArray := prog_5_method_7_code
def yX3_takeBytes : MethodName := ⟨RX3, "takeBytes", "(III)I"⟩
abbrev cX3_takeIndex : ByteArray := prog_5_method_8_code
def yX3_takeIndex : MethodName := ⟨RX3, "takeIndex", "()V"⟩
abbrev cX3_dropOld : ByteArray := prog_5_method_9_code
def yX3_dropOld : MethodName := ⟨RX3, "dropOld", "(LMirrorNet$Shelf;)V"⟩
def RX4 : String := "MirrorNet$Shelf"
def TX4 : u_T := fun k => match k with
  | 0 => ("MirrorNet$Shelf", "sizes", "[I", true)
  | 1 => ("MirrorNet$Shelf", "yankTicks", "[I", true)
  | 2 => ("MirrorNet$Shelf", "stateTicks", "[I", true)
  | 3 => ("MirrorNet$Shelf", "stateFiles", "[J", true)
  | 4 => ("MirrorNet$Shelf", "named", "[I", true)
  | 5 => ("MirrorNet$Shelf", "fileCount", "I", false)
  | 6 => ("MirrorNet$Shelf", "stateCount", "I", false)
  | _ => ("MirrorNet$Shelf", "yanked", "J", false)
def tyX4 : Nat → FieldType := fun k => match k with
  | 0 => .array .int
  | 1 => .array .int
  | 2 => .array .int
  | 3 => .array .long
  | 4 => .array .int
  | 5 => .int
  | 6 => .int
  | _ => .long
abbrev wsX40 : List Cond := u_ws RX4 TX4 8
theorem nmX4 : ∀ a, a < 8 → ∀ b, b < 8 → a ≠ b → (TX4 a).2.1 ≠ (TX4 b).2.1 := by decide +kernel
theorem tyX4_ok : ∀ k, k < 8 → parseFieldDescriptor (TX4 k).2.2.1 = some (tyX4 k) := by decide +kernel
abbrev cX4_init : ByteArray := prog_6_method_1_code
def yX4_init : MethodName := ⟨RX4, "<init>", "()V"⟩
abbrev cX4_hasFile : ByteArray := prog_6_method_2_code
def yX4_hasFile : MethodName := ⟨RX4, "hasFile", "(I)Z"⟩
abbrev cX4_hasState : ByteArray := prog_6_method_3_code
def yX4_hasState : MethodName := ⟨RX4, "hasState", "(I)Z"⟩
abbrev cX4_latestState : ByteArray := prog_6_method_4_code
def yX4_latestState : MethodName := ⟨RX4, "latestState", "()I"⟩
abbrev cX4_allFiles : ByteArray := prog_6_method_5_code
def yX4_allFiles : MethodName := ⟨RX4, "allFiles", "()J"⟩
abbrev cX4_addFile : ByteArray := prog_6_method_6_code
def yX4_addFile : MethodName := ⟨RX4, "addFile", "(I)I"⟩
abbrev cX4_addPut : ByteArray := prog_6_method_7_code
def yX4_addPut : MethodName := ⟨RX4, "addPut", "(III)I"⟩
abbrev cX4_addYank : ByteArray := prog_6_method_8_code
def yX4_addYank : MethodName := ⟨RX4, "addYank", "(II)I"⟩
abbrev cX4_mayChange : ByteArray := prog_6_method_9_code
def yX4_mayChange : MethodName := ⟨RX4, "mayChange", "(I)Z"⟩
abbrev cX4_addState : ByteArray := prog_6_method_10_code
def yX4_addState : MethodName := ⟨RX4, "addState", "(I)I"⟩
abbrev cX4_gatherFiles : ByteArray := prog_6_method_11_code
def yX4_gatherFiles : MethodName := ⟨RX4, "gatherFiles", "(I)V"⟩
abbrev cX4_namedBy : ByteArray := prog_6_method_12_code
def yX4_namedBy : MethodName := ⟨RX4, "namedBy", "(II)I"⟩
abbrev cX4_namesAlike : ByteArray := prog_6_method_13_code
def yX4_namesAlike : MethodName := ⟨RX4, "namesAlike", "(III)Z"⟩
abbrev cX4_namesLongYanked : ByteArray := prog_6_method_14_code
def yX4_namesLongYanked : MethodName := ⟨RX4, "namesLongYanked", "(III)Z"⟩
abbrev cX4_packagesNamedIn : ByteArray := prog_6_method_15_code
def yX4_packagesNamedIn : MethodName := ⟨RX4, "packagesNamedIn", "(I)I"⟩
abbrev cX4_filesOf : ByteArray := prog_6_method_16_code
def yX4_filesOf : MethodName := ⟨RX4, "filesOf", "(I)J"⟩
abbrev cX4_tickOf : ByteArray := prog_6_method_17_code
def yX4_tickOf : MethodName := ⟨RX4, "tickOf", "(I)I"⟩
abbrev cX4_ageOf : ByteArray := prog_6_method_18_code
def yX4_ageOf : MethodName := ⟨RX4, "ageOf", "(II)I"⟩
abbrev cX4_sizeOf : ByteArray := prog_6_method_19_code
def yX4_sizeOf : MethodName := ⟨RX4, "sizeOf", "(I)I"⟩
abbrev cX4_bytesOf : ByteArray := prog_6_method_20_code
def yX4_bytesOf : MethodName := ⟨RX4, "bytesOf", "(J)I"⟩
def RX5 : String := "MirrorNet"
def TX5 : u_T := fun k => match k with
  | 0 => ("MirrorNet", "shelf", "LMirrorNet$Shelf;", true)
  | 1 => ("MirrorNet", "falls", "LMirrorNet$Falls;", true)
  | 2 => ("MirrorNet", "mirrors", "[LMirrorNet$Mirror;", true)
  | 3 => ("MirrorNet", "askers", "[LMirrorNet$Asker;", true)
  | 4 => ("MirrorNet", "latest", "LMirrorNet$Asking;", true)
  | 5 => ("MirrorNet", "mirrorCount", "I", false)
  | 6 => ("MirrorNet", "now", "I", false)
  | _ => ("MirrorNet", "graceTicks", "I", false)
def tyX5 : Nat → FieldType := fun k => match k with
  | 0 => .object "MirrorNet$Shelf"
  | 1 => .object "MirrorNet$Falls"
  | 2 => .array (.object "MirrorNet$Mirror")
  | 3 => .array (.object "MirrorNet$Asker")
  | 4 => .object "MirrorNet$Asking"
  | 5 => .int
  | 6 => .int
  | _ => .int
abbrev wsX50 : List Cond := u_ws RX5 TX5 8
theorem nmX5 : ∀ a, a < 8 → ∀ b, b < 8 → a ≠ b → (TX5 a).2.1 ≠ (TX5 b).2.1 := by decide +kernel
theorem tyX5_ok : ∀ k, k < 8 → parseFieldDescriptor (TX5 k).2.2.1 = some (tyX5 k) := by decide +kernel
abbrev cX5_init : ByteArray := prog_1_method_1_code
def yX5_init : MethodName := ⟨RX5, "<init>", "()V"⟩
abbrev cX5_file : ByteArray := prog_1_method_2_code
def yX5_file : MethodName := ⟨RX5, "file", "(I)I"⟩
abbrev cX5_put : ByteArray := prog_1_method_3_code
def yX5_put : MethodName := ⟨RX5, "put", "(II)I"⟩
abbrev cX5_yank : ByteArray := prog_1_method_4_code
def yX5_yank : MethodName := ⟨RX5, "yank", "(I)I"⟩
abbrev cX5_names : ByteArray := prog_1_method_5_code
def yX5_names : MethodName := ⟨RX5, "names", "(II)I"⟩
abbrev cX5_state : ByteArray := prog_1_method_6_code
def yX5_state : MethodName := ⟨RX5, "state", "(II)I"⟩
abbrev cX5_mirror : ByteArray := prog_1_method_7_code
def yX5_mirror : MethodName := ⟨RX5, "mirror", "(III)I"⟩
abbrev cX5_speed : ByteArray := prog_1_method_8_code
def yX5_speed : MethodName := ⟨RX5, "speed", "(II)I"⟩
abbrev cX5_fall : ByteArray := prog_1_method_9_code
def yX5_fall : MethodName := ⟨RX5, "fall", "(III)I"⟩
abbrev cX5_lies : ByteArray := prog_1_method_10_code
def yX5_lies : MethodName := ⟨RX5, "lies", "(IZ)Z"⟩
abbrev cX5_pass : ByteArray := prog_1_method_11_code
def yX5_pass : MethodName := ⟨RX5, "pass", "(I)I"⟩
abbrev cX5_about : ByteArray := prog_1_method_12_code
def yX5_about : MethodName := ⟨RX5, "about", "(II)I"⟩
abbrev cX5_has : ByteArray := prog_1_method_13_code
def yX5_has : MethodName := ⟨RX5, "has", "(II)I"⟩
abbrev cX5_cost : ByteArray := prog_1_method_14_code
def yX5_cost : MethodName := ⟨RX5, "cost", "(III)I"⟩
abbrev cX5_bears : ByteArray := prog_1_method_15_code
def yX5_bears : MethodName := ⟨RX5, "bears", "(II)I"⟩
abbrev cX5_grace : ByteArray := prog_1_method_16_code
def yX5_grace : MethodName := ⟨RX5, "grace", "(I)I"⟩
abbrev cX5_forgives : ByteArray := prog_1_method_17_code
def yX5_forgives : MethodName := ⟨RX5, "forgives", "(I)I"⟩
abbrev cX5_ask : ByteArray := prog_1_method_18_code
def yX5_ask : MethodName := ⟨RX5, "ask", "(II)I"⟩
abbrev cX5_asked : ByteArray := prog_1_method_19_code
def yX5_asked : MethodName := ⟨RX5, "asked", "(I)I"⟩
abbrev cX5_got : ByteArray := prog_1_method_20_code
def yX5_got : MethodName := ⟨RX5, "got", "(II)I"⟩
abbrev cX5_asker : ByteArray := prog_1_method_21_code
def yX5_asker : MethodName := ⟨RX5, "asker", "(II)I"⟩
abbrev cX5_count : ByteArray := prog_1_method_22_code
def yX5_count : MethodName := ⟨RX5, "count", "(I)I"⟩
abbrev cX5_isWithin : ByteArray := prog_1_method_23_code
def yX5_isWithin : MethodName := ⟨RX5, "isWithin", "(III)Z"⟩
abbrev cX5_isIn : ByteArray := prog_1_method_24_code
def yX5_isIn : MethodName := ⟨RX5, "isIn", "(II)Z"⟩
abbrev cX5_bitOf : ByteArray := prog_1_method_25_code
def yX5_bitOf : MethodName := ⟨RX5, "bitOf", "(I)J"⟩
abbrev cX5_leastOf : ByteArray := prog_1_method_26_code
def yX5_leastOf : MethodName := ⟨RX5, "leastOf", "(J)I"⟩
abbrev cX5_mirrorAt : ByteArray := prog_1_method_27_code
def yX5_mirrorAt : MethodName := ⟨RX5, "mirrorAt", "(I)LMirrorNet$Mirror;"⟩
abbrev cX5_askerAt : ByteArray := prog_1_method_28_code
def yX5_askerAt : MethodName := ⟨RX5, "askerAt", "(I)LMirrorNet$Asker;"⟩
abbrev cX5_stepAll : ByteArray := prog_1_method_29_code
def yX5_stepAll : MethodName := ⟨RX5, "stepAll", "()V"⟩
abbrev cX5_carryOut : ByteArray := prog_1_method_30_code
def yX5_carryOut : MethodName := ⟨RX5, "carryOut", "(LMirrorNet$Asker;II)I"⟩
abbrev cX5_findIndex : ByteArray := prog_1_method_31_code
def yX5_findIndex : MethodName := ⟨RX5, "findIndex", "(LMirrorNet$Asker;I)I"⟩
abbrev cX5_suits : ByteArray := prog_1_method_32_code
def yX5_suits : MethodName := ⟨RX5, "suits", "(III)Z"⟩
abbrev cX5_firstNotNamed : ByteArray := prog_1_method_33_code
def yX5_firstNotNamed : MethodName := ⟨RX5, "firstNotNamed", "(II)I"⟩
abbrev cX5_getFiles : ByteArray := prog_1_method_34_code
def yX5_getFiles : MethodName := ⟨RX5, "getFiles", "(LMirrorNet$Asker;II)I"⟩
abbrev cX5_findGiver : ByteArray := prog_1_method_35_code
def yX5_findGiver : MethodName := ⟨RX5, "findGiver", "(LMirrorNet$Asker;II)I"⟩
abbrev cX5_foresee : ByteArray := prog_1_method_36_code
def yX5_foresee : MethodName := ⟨RX5, "foresee", "(LMirrorNet$Asker;III)I"⟩
abbrev cX5_leastForIndex : ByteArray := prog_1_method_37_code
def yX5_leastForIndex : MethodName := ⟨RX5, "leastForIndex", "(LMirrorNet$Asker;III)I"⟩
abbrev cX5_leastForFile : ByteArray := prog_1_method_38_code
def yX5_leastForFile : MethodName := ⟨RX5, "leastForFile", "(LMirrorNet$Asker;II)I"⟩
abbrev cX5_wouldAnswer : ByteArray := prog_1_method_39_code
def yX5_wouldAnswer : MethodName := ⟨RX5, "wouldAnswer", "(LMirrorNet$Asker;LMirrorNet$Mirror;II)Z"⟩
def RX6 : String := "MirrorNetModel"
def TX6 : u_T := fun k => match k with
  | 0 => ("MirrorNetModel", "now", "I", false)
  | 1 => ("MirrorNetModel", "files", "I", false)
  | 2 => ("MirrorNetModel", "size", "[I", true)
  | 3 => ("MirrorNetModel", "yankedAt", "[I", true)
  | 4 => ("MirrorNetModel", "states", "I", false)
  | 5 => ("MirrorNetModel", "stateTick", "[I", true)
  | 6 => ("MirrorNetModel", "named", "[I", true)
  | 7 => ("MirrorNetModel", "mirrors", "I", false)
  | 8 => ("MirrorNetModel", "from", "[I", true)
  | 9 => ("MirrorNetModel", "speed", "[I", true)
  | 10 => ("MirrorNetModel", "keep", "[I", true)
  | 11 => ("MirrorNetModel", "index", "[I", true)
  | 12 => ("MirrorNetModel", "target", "[I", true)
  | 13 => ("MirrorNetModel", "done", "[I", true)
  | 14 => ("MirrorNetModel", "taken", "[I", true)
  | 15 => ("MirrorNetModel", "isLying", "[Z", true)
  | 16 => ("MirrorNetModel", "hasFile", "[Z", true)
  | 17 => ("MirrorNetModel", "ahead", "[I", true)
  | 18 => ("MirrorNetModel", "aheadMany", "[I", true)
  | 19 => ("MirrorNetModel", "falls", "I", false)
  | 20 => ("MirrorNetModel", "fallOf", "[I", true)
  | 21 => ("MirrorNetModel", "fallFrom", "[I", true)
  | 22 => ("MirrorNetModel", "fallTo", "[I", true)
  | 23 => ("MirrorNetModel", "grace", "I", false)
  | 24 => ("MirrorNetModel", "costOf", "[I", true)
  | 25 => ("MirrorNetModel", "bears", "[I", true)
  | 26 => ("MirrorNetModel", "seen", "[I", true)
  | 27 => ("MirrorNetModel", "bad", "[I", true)
  | 28 => ("MirrorNetModel", "order", "[I", true)
  | 29 => ("MirrorNetModel", "ordered", "I", false)
  | 30 => ("MirrorNetModel", "hasAsked", "Z", false)
  | 31 => ("MirrorNetModel", "askedIndex", "I", false)
  | 32 => ("MirrorNetModel", "spent", "I", false)
  | 33 => ("MirrorNetModel", "askings", "I", false)
  | 34 => ("MirrorNetModel", "gotMany", "I", false)
  | 35 => ("MirrorNetModel", "lacks", "I", false)
  | 36 => ("MirrorNetModel", "foresight", "I", false)
  | 37 => ("MirrorNetModel", "gotFile", "[I", true)
  | 38 => ("MirrorNetModel", "gotPack", "[I", true)
  | _ => ("MirrorNetModel", "gotOf", "[I", true)
def tyX6 : Nat → FieldType := fun k => match k with
  | 0 => .int
  | 1 => .int
  | 2 => .array .int
  | 3 => .array .int
  | 4 => .int
  | 5 => .array .int
  | 6 => .array .int
  | 7 => .int
  | 8 => .array .int
  | 9 => .array .int
  | 10 => .array .int
  | 11 => .array .int
  | 12 => .array .int
  | 13 => .array .int
  | 14 => .array .int
  | 15 => .array .boolean
  | 16 => .array .boolean
  | 17 => .array .int
  | 18 => .array .int
  | 19 => .int
  | 20 => .array .int
  | 21 => .array .int
  | 22 => .array .int
  | 23 => .int
  | 24 => .array .int
  | 25 => .array .int
  | 26 => .array .int
  | 27 => .array .int
  | 28 => .array .int
  | 29 => .int
  | 30 => .boolean
  | 31 => .int
  | 32 => .int
  | 33 => .int
  | 34 => .int
  | 35 => .int
  | 36 => .int
  | 37 => .array .int
  | 38 => .array .int
  | _ => .array .int
abbrev wsX60 : List Cond := u_ws RX6 TX6 40
theorem nmX6 : ∀ a, a < 40 → ∀ b, b < 40 → a ≠ b → (TX6 a).2.1 ≠ (TX6 b).2.1 := by decide +kernel
theorem tyX6_ok : ∀ k, k < 40 → parseFieldDescriptor (TX6 k).2.2.1 = some (tyX6 k) := by decide +kernel
abbrev cX6_init : ByteArray := prog_8_method_1_code
def yX6_init : MethodName := ⟨RX6, "<init>", "()V"⟩
abbrev cX6_in : ByteArray := prog_8_method_2_code
def yX6_in : MethodName := ⟨RX6, "in", "(III)Z"⟩
abbrev cX6_file : ByteArray := prog_8_method_3_code
def yX6_file : MethodName := ⟨RX6, "file", "(I)I"⟩
abbrev cX6_isFile : ByteArray := prog_8_method_4_code
def yX6_isFile : MethodName := ⟨RX6, "isFile", "(I)Z"⟩
abbrev cX6_comes : ByteArray := prog_8_method_5_code
def yX6_comes : MethodName := ⟨RX6, "comes", "()V"⟩
abbrev cX6_put : ByteArray := prog_8_method_6_code
def yX6_put : MethodName := ⟨RX6, "put", "(II)I"⟩
abbrev cX6_yank : ByteArray := prog_8_method_7_code
def yX6_yank : MethodName := ⟨RX6, "yank", "(I)I"⟩
abbrev cX6_mirror : ByteArray := prog_8_method_8_code
def yX6_mirror : MethodName := ⟨RX6, "mirror", "(III)I"⟩
abbrev cX6_isMirror : ByteArray := prog_8_method_9_code
def yX6_isMirror : MethodName := ⟨RX6, "isMirror", "(I)Z"⟩
abbrev cX6_speed : ByteArray := prog_8_method_10_code
def yX6_speed : MethodName := ⟨RX6, "speed", "(II)I"⟩
abbrev cX6_fall : ByteArray := prog_8_method_11_code
def yX6_fall : MethodName := ⟨RX6, "fall", "(III)I"⟩
abbrev cX6_lies : ByteArray := prog_8_method_12_code
def yX6_lies : MethodName := ⟨RX6, "lies", "(IZ)Z"⟩
abbrev cX6_isFallen : ByteArray := prog_8_method_13_code
def yX6_isFallen : MethodName := ⟨RX6, "isFallen", "(I)Z"⟩
abbrev cX6_isNamed : ByteArray := prog_8_method_14_code
def yX6_isNamed : MethodName := ⟨RX6, "isNamed", "(II)Z"⟩
abbrev cX6_lacking : ByteArray := prog_8_method_15_code
def yX6_lacking : MethodName := ⟨RX6, "lacking", "(I)I"⟩
abbrev cX6_copies : ByteArray := prog_8_method_16_code
def yX6_copies : MethodName := ⟨RX6, "copies", "(I)Z"⟩
abbrev cX6_turns : ByteArray := prog_8_method_17_code
def yX6_turns : MethodName := ⟨RX6, "turns", "(I)V"⟩
abbrev cX6_goes : ByteArray := prog_8_method_18_code
def yX6_goes : MethodName := ⟨RX6, "goes", "(I)V"⟩
abbrev cX6_pass : ByteArray := prog_8_method_19_code
def yX6_pass : MethodName := ⟨RX6, "pass", "(I)I"⟩
abbrev cX6_isAsker : ByteArray := prog_8_method_20_code
def yX6_isAsker : MethodName := ⟨RX6, "isAsker", "(I)Z"⟩
abbrev cX6_cost : ByteArray := prog_8_method_21_code
def yX6_cost : MethodName := ⟨RX6, "cost", "(III)I"⟩
abbrev cX6_bears : ByteArray := prog_8_method_22_code
def yX6_bears : MethodName := ⟨RX6, "bears", "(II)I"⟩
abbrev cX6_grace : ByteArray := prog_8_method_23_code
def yX6_grace : MethodName := ⟨RX6, "grace", "(I)I"⟩
abbrev cX6_forgives : ByteArray := prog_8_method_24_code
def yX6_forgives : MethodName := ⟨RX6, "forgives", "(I)I"⟩
abbrev cX6_ageOf : ByteArray := prog_8_method_25_code
def yX6_ageOf : MethodName := ⟨RX6, "ageOf", "(I)I"⟩
abbrev cX6_isGood : ByteArray := prog_8_method_26_code
def yX6_isGood : MethodName := ⟨RX6, "isGood", "(III)Z"⟩
abbrev cX6_orders : ByteArray := prog_8_method_27_code
def yX6_orders : MethodName := ⟨RX6, "orders", "(I)V"⟩
abbrev cX6_tells : ByteArray := prog_8_method_28_code
def yX6_tells : MethodName := ⟨RX6, "tells", "(II)Z"⟩
abbrev cX6_indexFor : ByteArray := prog_8_method_29_code
def yX6_indexFor : MethodName := ⟨RX6, "indexFor", "(I)I"⟩
abbrev cX6_giver : ByteArray := prog_8_method_30_code
def yX6_giver : MethodName := ⟨RX6, "giver", "(II)I"⟩
abbrev cX6_least : ByteArray := prog_8_method_31_code
def yX6_least : MethodName := ⟨RX6, "least", "(III)I"⟩
abbrev cX6_ask : ByteArray := prog_8_method_32_code
def yX6_ask : MethodName := ⟨RX6, "ask", "(II)I"⟩
abbrev cX6_asked : ByteArray := prog_8_method_33_code
def yX6_asked : MethodName := ⟨RX6, "asked", "(I)I"⟩
abbrev cX6_got : ByteArray := prog_8_method_34_code
def yX6_got : MethodName := ⟨RX6, "got", "(II)I"⟩
abbrev cX6_asker : ByteArray := prog_8_method_35_code
def yX6_asker : MethodName := ⟨RX6, "asker", "(II)I"⟩
abbrev cX6_names : ByteArray := prog_8_method_36_code
def yX6_names : MethodName := ⟨RX6, "names", "(II)I"⟩
abbrev cX6_state : ByteArray := prog_8_method_37_code
def yX6_state : MethodName := ⟨RX6, "state", "(II)I"⟩
abbrev cX6_about : ByteArray := prog_8_method_38_code
def yX6_about : MethodName := ⟨RX6, "about", "(II)I"⟩
abbrev cX6_has : ByteArray := prog_8_method_39_code
def yX6_has : MethodName := ⟨RX6, "has", "(II)I"⟩
abbrev cX6_count : ByteArray := prog_8_method_40_code
def yX6_count : MethodName := ⟨RX6, "count", "(I)I"⟩
def RJ6 : String := "java/lang/Integer"
def TJ6 : u_T := fun k => match k with
  | _ => ("", "", "", false)
def tyJ6 : Nat → FieldType := fun k => match k with
  | _ => .int
abbrev wsJ60 : List Cond := u_ws RJ6 TJ6 0
theorem nmJ6 : ∀ a, a < 0 → ∀ b, b < 0 → a ≠ b → (TJ6 a).2.1 ≠ (TJ6 b).2.1 := by decide +kernel
theorem tyJ6_ok : ∀ k, k < 0 → parseFieldDescriptor (TJ6 k).2.2.1 = some (tyJ6 k) := by decide +kernel
abbrev cJ6_bitCount_0f7a4 : ByteArray := prog_9_method_49_code
def yJ6_bitCount_0f7a4 : MethodName := ⟨RJ6, "bitCount", "(I)I"⟩
def RJ13 : String := "java/lang/Long"
def TJ13 : u_T := fun k => match k with
  | _ => ("", "", "", false)
def tyJ13 : Nat → FieldType := fun k => match k with
  | _ => .int
abbrev wsJ130 : List Cond := u_ws RJ13 TJ13 0
theorem nmJ13 : ∀ a, a < 0 → ∀ b, b < 0 → a ≠ b → (TJ13 a).2.1 ≠ (TJ13 b).2.1 := by decide +kernel
theorem tyJ13_ok : ∀ k, k < 0 → parseFieldDescriptor (TJ13 k).2.2.1 = some (tyJ13 k) := by decide +kernel
abbrev cJ13_bitCount_95d88 : ByteArray := prog_10_method_50_code
def yJ13_bitCount_95d88 : MethodName := ⟨RJ13, "bitCount", "(J)I"⟩
def RJ9 : String := "java/lang/Math"
def TJ9 : u_T := fun k => match k with
  | _ => ("", "", "", false)
def tyJ9 : Nat → FieldType := fun k => match k with
  | _ => .int
abbrev wsJ90 : List Cond := u_ws RJ9 TJ9 0
theorem nmJ9 : ∀ a, a < 0 → ∀ b, b < 0 → a ≠ b → (TJ9 a).2.1 ≠ (TJ9 b).2.1 := by decide +kernel
theorem tyJ9_ok : ∀ k, k < 0 → parseFieldDescriptor (TJ9 k).2.2.1 = some (tyJ9 k) := by decide +kernel
abbrev cJ9_min_7cf53 : ByteArray := prog_11_method_69_code
def yJ9_min_7cf53 : MethodName := ⟨RJ9, "min", "(II)I"⟩
def RJ10 : String := "java/lang/System"
def TJ10 : u_T := fun k => match k with
  | _ => ("", "", "", false)
def tyJ10 : Nat → FieldType := fun k => match k with
  | _ => .int
abbrev wsJ100 : List Cond := u_ws RJ10 TJ10 0
theorem nmJ10 : ∀ a, a < 0 → ∀ b, b < 0 → a ≠ b → (TJ10 a).2.1 ≠ (TJ10 b).2.1 := by decide +kernel
theorem tyJ10_ok : ∀ k, k < 0 → parseFieldDescriptor (TJ10 k).2.2.1 = some (tyJ10 k) := by decide +kernel
def RJ7 : String := "java/util/Arrays"
def TJ7 : u_T := fun k => match k with
  | _ => ("", "", "", false)
def tyJ7 : Nat → FieldType := fun k => match k with
  | _ => .int
abbrev wsJ70 : List Cond := u_ws RJ7 TJ7 0
theorem nmJ7 : ∀ a, a < 0 → ∀ b, b < 0 → a ≠ b → (TJ7 a).2.1 ≠ (TJ7 b).2.1 := by decide +kernel
theorem tyJ7_ok : ∀ k, k < 0 → parseFieldDescriptor (TJ7 k).2.2.1 = some (tyJ7 k) := by decide +kernel
abbrev cJ7_fill_53178 : ByteArray := prog_13_method_103_code
def yJ7_fill_53178 : MethodName := ⟨RJ7, "fill", "([II)V"⟩
def RL : String := "MirrorNetLaw"
abbrev cL_law : ByteArray := code
def yL_law : MethodName := ⟨RL, "law", "([I)Z"⟩
def wsJ7_fill_53178 : List Cond := .code yJ7_fill_53178 cJ7_fill_53178 4 none :: ([])
def wsX0_init : List Cond := .code yX0_init cX0_init 1 none :: ([.methodLink RX0 3 objectInit, .instanceMethod objectInit, .code objectInit ⟨#[0xb1]⟩ 1 none, .arrayClass .int, .fieldLink RX0 9 "MirrorNet$Asker" "costs" "[I", .fieldLink RX0 21 "MirrorNet$Asker" "line" "[I", .fieldLink RX0 24 "MirrorNet$Asker" "mostAge" "I", .fieldLink RX0 28 "MirrorNet$Asker" "last" "I", .methodLink RX0 15 yJ7_fill_53178, .static yJ7_fill_53178, .initialized RJ7, .code yJ7_fill_53178 cJ7_fill_53178 4 none] ++ wsX00)
def wsX5_isWithin : List Cond := .code yX5_isWithin cX5_isWithin 3 (some .boolean) :: ([])
def wsX0_costOf : List Cond := .code yX0_costOf cX0_costOf 2 (some .int) :: ([.fieldLink RX0 9 "MirrorNet$Asker" "costs" "[I", .static yX5_isWithin, .initialized RX5, .code yX5_isWithin cX5_isWithin 3 (some .boolean)] ++ wsX00)
def wsX0_setCost : List Cond := .code yX0_setCost cX0_setCost 3 none :: ([.fieldLink RX0 9 "MirrorNet$Asker" "costs" "[I", .static yX5_isWithin, .initialized RX5, .code yX5_isWithin cX5_isWithin 3 (some .boolean)] ++ wsX00)
def wsX5_isIn : List Cond := .code yX5_isIn cX5_isIn 2 (some .boolean) :: ([.methodLink RX5 47 yX5_isWithin, .static yX5_isWithin, .initialized RX5, .code yX5_isWithin cX5_isWithin 3 (some .boolean)])
def wsX0_knowsAsBad : List Cond := .code yX0_knowsAsBad cX0_knowsAsBad 2 (some .boolean) :: ([.fieldLink RX0 35 "MirrorNet$Asker" "bad" "I", .static yX5_isIn, .initialized RX5, .code yX5_isIn cX5_isIn 2 (some .boolean), .methodLink RX5 47 yX5_isWithin, .static yX5_isWithin, .code yX5_isWithin cX5_isWithin 3 (some .boolean)] ++ wsX00)
def wsX0_markBad : List Cond := .code yX0_markBad cX0_markBad 2 none :: ([.fieldLink RX0 35 "MirrorNet$Asker" "bad" "I", .static yX5_isWithin, .initialized RX5, .code yX5_isWithin cX5_isWithin 3 (some .boolean)] ++ wsX00)
def wsX0_inLine : List Cond := .code yX0_inLine cX0_inLine 2 (some .int) :: ([.fieldLink RX0 42 "MirrorNet$Asker" "lineLength" "I", .fieldLink RX0 21 "MirrorNet$Asker" "line" "[I", .static yX5_isWithin, .initialized RX5, .code yX5_isWithin cX5_isWithin 3 (some .boolean)] ++ wsX00)
def wsX0_putInLine : List Cond := .code yX0_putInLine cX0_putInLine 3 none :: ([.fieldLink RX0 42 "MirrorNet$Asker" "lineLength" "I", .fieldLink RX0 9 "MirrorNet$Asker" "costs" "[I", .fieldLink RX0 21 "MirrorNet$Asker" "line" "[I"] ++ wsX00)
def wsX0_lineUp : List Cond := .code yX0_lineUp cX0_lineUp 2 none :: ([.fieldLink RX0 42 "MirrorNet$Asker" "lineLength" "I", .fieldLink RX0 9 "MirrorNet$Asker" "costs" "[I", .methodLink RX0 45 yX0_knowsAsBad, .instanceMethod yX0_knowsAsBad, .selects RX0 yX0_knowsAsBad yX0_knowsAsBad, .initialized RX0, .code yX0_knowsAsBad cX0_knowsAsBad 2 (some .boolean), .fieldLink RX0 35 "MirrorNet$Asker" "bad" "I", .static yX5_isIn, .initialized RX5, .code yX5_isIn cX5_isIn 2 (some .boolean), .methodLink RX5 47 yX5_isWithin, .static yX5_isWithin, .code yX5_isWithin cX5_isWithin 3 (some .boolean), .methodLink RX0 49 yX0_putInLine, .instanceMethod yX0_putInLine, .selects RX0 yX0_putInLine yX0_putInLine, .code yX0_putInLine cX0_putInLine 3 none, .fieldLink RX0 21 "MirrorNet$Asker" "line" "[I"] ++ wsX00)
def wsX1_init : List Cond := .code yX1_init cX1_init 1 none :: ([.methodLink RX1 3 objectInit, .instanceMethod objectInit, .code objectInit ⟨#[0xb1]⟩ 1 none, .arrayClass .int, .fieldLink RX1 9 "MirrorNet$Asking" "gotFiles" "[I", .fieldLink RX1 15 "MirrorNet$Asking" "gotPackages" "[I", .fieldLink RX1 18 "MirrorNet$Asking" "gotMirrors" "[I"] ++ wsX10)
def wsX1_begin : List Cond := .code yX1_begin cX1_begin 1 none :: ([.fieldLink RX1 21 "MirrorNet$Asking" "isAny" "Z", .fieldLink RX1 25 "MirrorNet$Asking" "index" "I", .fieldLink RX1 29 "MirrorNet$Asking" "spent" "I", .fieldLink RX1 32 "MirrorNet$Asking" "askings" "I", .fieldLink RX1 35 "MirrorNet$Asking" "gotCount" "I", .fieldLink RX1 38 "MirrorNet$Asking" "lacking" "I", .fieldLink RX1 41 "MirrorNet$Asking" "foresight" "I"] ++ wsX10)
def wsX1_spend : List Cond := .code yX1_spend cX1_spend 2 none :: ([.fieldLink RX1 29 "MirrorNet$Asking" "spent" "I", .fieldLink RX1 32 "MirrorNet$Asking" "askings" "I"] ++ wsX10)
def wsX1_keepGot : List Cond := .code yX1_keepGot cX1_keepGot 4 none :: ([.fieldLink RX1 35 "MirrorNet$Asking" "gotCount" "I", .fieldLink RX1 9 "MirrorNet$Asking" "gotFiles" "[I", .fieldLink RX1 15 "MirrorNet$Asking" "gotPackages" "[I", .fieldLink RX1 18 "MirrorNet$Asking" "gotMirrors" "[I"] ++ wsX10)
def wsX1_gotten : List Cond := .code yX1_gotten cX1_gotten 3 (some .int) :: ([.fieldLink RX1 35 "MirrorNet$Asking" "gotCount" "I", .fieldLink RX1 9 "MirrorNet$Asking" "gotFiles" "[I", .fieldLink RX1 15 "MirrorNet$Asking" "gotPackages" "[I", .fieldLink RX1 18 "MirrorNet$Asking" "gotMirrors" "[I", .static yX5_isWithin, .initialized RX5, .code yX5_isWithin cX5_isWithin 3 (some .boolean)] ++ wsX10)
def wsX2_init : List Cond := .code yX2_init cX2_init 1 none :: ([.methodLink RX2 3 objectInit, .instanceMethod objectInit, .code objectInit ⟨#[0xb1]⟩ 1 none, .arrayClass .int, .fieldLink RX2 9 "MirrorNet$Falls" "who" "[I", .fieldLink RX2 15 "MirrorNet$Falls" "firsts" "[I", .fieldLink RX2 18 "MirrorNet$Falls" "lasts" "[I"] ++ wsX20)
def wsX2_add : List Cond := .code yX2_add cX2_add 4 (some .int) :: ([.fieldLink RX2 21 "MirrorNet$Falls" "told" "I", .fieldLink RX2 9 "MirrorNet$Falls" "who" "[I", .fieldLink RX2 15 "MirrorNet$Falls" "firsts" "[I", .fieldLink RX2 18 "MirrorNet$Falls" "lasts" "[I"] ++ wsX20)
def wsX2_downAt : List Cond := .code yX2_downAt cX2_downAt 4 (some .int) :: ([.fieldLink RX2 21 "MirrorNet$Falls" "told" "I", .fieldLink RX2 15 "MirrorNet$Falls" "firsts" "[I", .fieldLink RX2 18 "MirrorNet$Falls" "lasts" "[I", .fieldLink RX2 9 "MirrorNet$Falls" "who" "[I", .static yX5_isWithin, .initialized RX5, .code yX5_isWithin cX5_isWithin 3 (some .boolean)] ++ wsX20)
def wsX3_init : List Cond := .code yX3_init cX3_init 4 none :: ([.methodLink RX3 3 objectInit, .instanceMethod objectInit, .code objectInit ⟨#[0xb1]⟩ 1 none, .fieldLink RX3 9 "MirrorNet$Mirror" "source" "I", .fieldLink RX3 15 "MirrorNet$Mirror" "bytesATick" "I", .fieldLink RX3 18 "MirrorNet$Mirror" "keep" "I", .arrayClass .int, .fieldLink RX3 21 "MirrorNet$Mirror" "earlier" "[I", .fieldLink RX3 31 "MirrorNet$Mirror" "target" "I", .methodLink RX3 25 yJ7_fill_53178, .static yJ7_fill_53178, .initialized RJ7, .code yJ7_fill_53178 cJ7_fill_53178 4 none] ++ wsX30)
def wsX5_bitOf : List Cond := .code yX5_bitOf cX5_bitOf 1 (some .long) :: ([.methodLink RX5 47 yX5_isWithin, .static yX5_isWithin, .initialized RX5, .code yX5_isWithin cX5_isWithin 3 (some .boolean)])
def wsX3_holds : List Cond := .code yX3_holds cX3_holds 2 (some .boolean) :: ([.fieldLink RX3 34 "MirrorNet$Mirror" "files" "J", .static yX5_bitOf, .initialized RX5, .code yX5_bitOf cX5_bitOf 1 (some .long), .methodLink RX5 47 yX5_isWithin, .static yX5_isWithin, .code yX5_isWithin cX5_isWithin 3 (some .boolean)] ++ wsX30)
def wsX4_hasState : List Cond := .code yX4_hasState cX4_hasState 2 (some .boolean) :: ([.fieldLink RX4 34 "MirrorNet$Shelf" "stateCount" "I"] ++ wsX40)
def wsX4_filesOf : List Cond := .code yX4_filesOf cX4_filesOf 2 (some .long) :: ([.fieldLink RX4 21 "MirrorNet$Shelf" "stateFiles" "[J", .methodLink RX4 82 yX4_hasState, .instanceMethod yX4_hasState, .selects RX4 yX4_hasState yX4_hasState, .initialized RX4, .code yX4_hasState cX4_hasState 2 (some .boolean), .fieldLink RX4 34 "MirrorNet$Shelf" "stateCount" "I"] ++ wsX40)
def wsX3_missing : List Cond := .code yX3_missing cX3_missing 2 (some .long) :: ([.fieldLink RX3 31 "MirrorNet$Mirror" "target" "I", .fieldLink RX3 34 "MirrorNet$Mirror" "files" "J", .constantLong RX3 47 (-1), .instanceMethod yX4_filesOf, .initialized RX4, .selects RX4 yX4_filesOf yX4_filesOf, .code yX4_filesOf cX4_filesOf 2 (some .long), .fieldLink RX4 21 "MirrorNet$Shelf" "stateFiles" "[J", .methodLink RX4 82 yX4_hasState, .instanceMethod yX4_hasState, .selects RX4 yX4_hasState yX4_hasState, .code yX4_hasState cX4_hasState 2 (some .boolean), .fieldLink RX4 34 "MirrorNet$Shelf" "stateCount" "I"] ++ wsX30 ++ wsX40)
def wsX4_bytesOf : List Cond := .code yX4_bytesOf cX4_bytesOf 5 (some .int) :: ([.fieldLink RX4 38 "MirrorNet$Shelf" "fileCount" "I", .fieldLink RX4 9 "MirrorNet$Shelf" "sizes" "[I", .static yX5_bitOf, .initialized RX5, .code yX5_bitOf cX5_bitOf 1 (some .long), .methodLink RX5 47 yX5_isWithin, .static yX5_isWithin, .code yX5_isWithin cX5_isWithin 3 (some .boolean)] ++ wsX40)
def wsX3_bytesWanted_r1 : List Cond := [Cond.fieldLink RX3 31 "MirrorNet$Mirror" "target" "I", Cond.fieldLink RX3 57 "MirrorNet$Mirror" "done" "I", Cond.methodLink RX3 49 yX3_missing, Cond.instanceMethod yX3_missing, Cond.selects RX3 yX3_missing yX3_missing, Cond.initialized RX3, Cond.code yX3_missing cX3_missing 2 (some .long), Cond.fieldLink RX3 34 "MirrorNet$Mirror" "files" "J", Cond.constantLong RX3 47 (-1), Cond.instanceMethod yX4_filesOf, Cond.initialized RX4, Cond.selects RX4 yX4_filesOf yX4_filesOf, Cond.code yX4_filesOf cX4_filesOf 2 (some .long), Cond.fieldLink RX4 21 "MirrorNet$Shelf" "stateFiles" "[J", Cond.methodLink RX4 82 yX4_hasState, Cond.instanceMethod yX4_hasState, Cond.selects RX4 yX4_hasState yX4_hasState, Cond.code yX4_hasState cX4_hasState 2 (some .boolean), Cond.fieldLink RX4 34 "MirrorNet$Shelf" "stateCount" "I", Cond.instanceMethod yX4_bytesOf, Cond.selects RX4 yX4_bytesOf yX4_bytesOf, Cond.code yX4_bytesOf cX4_bytesOf 5 (some .int), Cond.fieldLink RX4 38 "MirrorNet$Shelf" "fileCount" "I", Cond.fieldLink RX4 9 "MirrorNet$Shelf" "sizes" "[I"]
def wsX3_bytesWanted_r2 : List Cond := [Cond.static yX5_bitOf, Cond.initialized RX5, Cond.code yX5_bitOf cX5_bitOf 1 (some .long), Cond.methodLink RX5 47 yX5_isWithin, Cond.static yX5_isWithin, Cond.code yX5_isWithin cX5_isWithin 3 (some .boolean)]
def wsX3_bytesWanted : List Cond := .code yX3_bytesWanted cX3_bytesWanted 2 (some .int) :: ((wsX3_bytesWanted_r1 ++ wsX3_bytesWanted_r2) ++ wsX30 ++ wsX40)
def wsJ13_bitCount_95d88 : List Cond := .code yJ13_bitCount_95d88 cJ13_bitCount_95d88 2 (some .int) :: ([.constantLong RJ13 314 (6148914691236517205), .constantLong RJ13 316 (3689348814741910323), .constantLong RJ13 318 (1085102592571150095)])
def wsX5_leastOf : List Cond := .code yX5_leastOf cX5_leastOf 2 (some .int) :: ([.methodLink RX5 123 yJ13_bitCount_95d88, .static yJ13_bitCount_95d88, .initialized RJ13, .code yJ13_bitCount_95d88 cJ13_bitCount_95d88 2 (some .int), .constantLong RJ13 314 (6148914691236517205), .constantLong RJ13 316 (3689348814741910323), .constantLong RJ13 318 (1085102592571150095)])
def wsX4_hasFile : List Cond := .code yX4_hasFile cX4_hasFile 2 (some .boolean) :: ([.fieldLink RX4 38 "MirrorNet$Shelf" "fileCount" "I"] ++ wsX40)
def wsX4_sizeOf : List Cond := .code yX4_sizeOf cX4_sizeOf 2 (some .int) :: ([.fieldLink RX4 9 "MirrorNet$Shelf" "sizes" "[I", .methodLink RX4 73 yX4_hasFile, .instanceMethod yX4_hasFile, .selects RX4 yX4_hasFile yX4_hasFile, .initialized RX4, .code yX4_hasFile cX4_hasFile 2 (some .boolean), .fieldLink RX4 38 "MirrorNet$Shelf" "fileCount" "I"] ++ wsX40)
def wsX3_takeBytes : List Cond := .code yX3_takeBytes cX3_takeBytes 5 (some .int) :: ([.fieldLink RX3 57 "MirrorNet$Mirror" "done" "I", .methodLink RX3 85 Lib.Math.min.name, .static Lib.Math.min.name, .initialized "java/lang/Math", .code Lib.Math.min.name Lib.Math.min.code 2 (some .int), .fieldLink RX3 91 "MirrorNet$Mirror" "taken" "I", .fieldLink RX3 34 "MirrorNet$Mirror" "files" "J", .static yX5_bitOf, .initialized RX5, .code yX5_bitOf cX5_bitOf 1 (some .long), .methodLink RX5 47 yX5_isWithin, .static yX5_isWithin, .code yX5_isWithin cX5_isWithin 3 (some .boolean)] ++ wsX30)
def wsX3_copyFiles_r1 : List Cond := [Cond.fieldLink RX3 15 "MirrorNet$Mirror" "bytesATick" "I", Cond.fieldLink RX3 31 "MirrorNet$Mirror" "target" "I", Cond.fieldLink RX3 57 "MirrorNet$Mirror" "done" "I", Cond.methodLink RX3 49 yX3_missing, Cond.instanceMethod yX3_missing, Cond.selects RX3 yX3_missing yX3_missing, Cond.initialized RX3, Cond.code yX3_missing cX3_missing 2 (some .long), Cond.fieldLink RX3 34 "MirrorNet$Mirror" "files" "J", Cond.constantLong RX3 47 (-1), Cond.instanceMethod yX4_filesOf, Cond.initialized RX4, Cond.selects RX4 yX4_filesOf yX4_filesOf, Cond.code yX4_filesOf cX4_filesOf 2 (some .long), Cond.fieldLink RX4 21 "MirrorNet$Shelf" "stateFiles" "[J", Cond.methodLink RX4 82 yX4_hasState, Cond.instanceMethod yX4_hasState, Cond.selects RX4 yX4_hasState yX4_hasState, Cond.code yX4_hasState cX4_hasState 2 (some .boolean), Cond.fieldLink RX4 34 "MirrorNet$Shelf" "stateCount" "I", Cond.static yX5_leastOf, Cond.initialized RX5, Cond.code yX5_leastOf cX5_leastOf 2 (some .int), Cond.methodLink RX5 123 yJ13_bitCount_95d88]
def wsX3_copyFiles_r2 : List Cond := [Cond.static yJ13_bitCount_95d88, Cond.initialized RJ13, Cond.code yJ13_bitCount_95d88 cJ13_bitCount_95d88 2 (some .int), Cond.constantLong RJ13 314 (6148914691236517205), Cond.constantLong RJ13 316 (3689348814741910323), Cond.constantLong RJ13 318 (1085102592571150095), Cond.static yX5_bitOf, Cond.code yX5_bitOf cX5_bitOf 1 (some .long), Cond.methodLink RX5 47 yX5_isWithin, Cond.static yX5_isWithin, Cond.code yX5_isWithin cX5_isWithin 3 (some .boolean), Cond.instanceMethod yX4_sizeOf, Cond.selects RX4 yX4_sizeOf yX4_sizeOf, Cond.code yX4_sizeOf cX4_sizeOf 2 (some .int), Cond.fieldLink RX4 9 "MirrorNet$Shelf" "sizes" "[I", Cond.methodLink RX4 73 yX4_hasFile, Cond.instanceMethod yX4_hasFile, Cond.selects RX4 yX4_hasFile yX4_hasFile, Cond.code yX4_hasFile cX4_hasFile 2 (some .boolean), Cond.fieldLink RX4 38 "MirrorNet$Shelf" "fileCount" "I", Cond.methodLink RX3 81 yX3_takeBytes, Cond.instanceMethod yX3_takeBytes, Cond.selects RX3 yX3_takeBytes yX3_takeBytes, Cond.code yX3_takeBytes cX3_takeBytes 5 (some .int)]
def wsX3_copyFiles_r3 : List Cond := [Cond.methodLink RX3 85 Lib.Math.min.name, Cond.static Lib.Math.min.name, Cond.initialized "java/lang/Math", Cond.code Lib.Math.min.name Lib.Math.min.code 2 (some .int), Cond.fieldLink RX3 91 "MirrorNet$Mirror" "taken" "I"]
def wsX3_copyFiles : List Cond := .code yX3_copyFiles cX3_copyFiles 9 none :: ((wsX3_copyFiles_r1 ++ (wsX3_copyFiles_r2 ++ wsX3_copyFiles_r3)) ++ wsX30 ++ wsX40)
def wsX3_takeIndex : List Cond := .code yX3_takeIndex cX3_takeIndex 2 none :: ([.fieldLink RX3 21 "MirrorNet$Mirror" "earlier" "[I", .fieldLink RX3 60 "MirrorNet$Mirror" "index" "I", .fieldLink RX3 31 "MirrorNet$Mirror" "target" "I"] ++ wsX30)
def wsX3_dropOld : List Cond := .code yX3_dropOld cX3_dropOld 5 none :: ([.fieldLink RX3 60 "MirrorNet$Mirror" "index" "I", .fieldLink RX3 18 "MirrorNet$Mirror" "keep" "I", .fieldLink RX3 21 "MirrorNet$Mirror" "earlier" "[I", .fieldLink RX3 34 "MirrorNet$Mirror" "files" "J", .instanceMethod yX4_filesOf, .initialized RX4, .selects RX4 yX4_filesOf yX4_filesOf, .code yX4_filesOf cX4_filesOf 2 (some .long), .fieldLink RX4 21 "MirrorNet$Shelf" "stateFiles" "[J", .methodLink RX4 82 yX4_hasState, .instanceMethod yX4_hasState, .selects RX4 yX4_hasState yX4_hasState, .code yX4_hasState cX4_hasState 2 (some .boolean), .fieldLink RX4 34 "MirrorNet$Shelf" "stateCount" "I"] ++ wsX30 ++ wsX40)
def wsX3_step_r1 : List Cond := [Cond.fieldLink RX3 31 "MirrorNet$Mirror" "target" "I", Cond.fieldLink RX3 60 "MirrorNet$Mirror" "index" "I", Cond.methodLink RX3 63 yX3_copyFiles, Cond.instanceMethod yX3_copyFiles, Cond.selects RX3 yX3_copyFiles yX3_copyFiles, Cond.initialized RX3, Cond.code yX3_copyFiles cX3_copyFiles 9 none, Cond.fieldLink RX3 15 "MirrorNet$Mirror" "bytesATick" "I", Cond.fieldLink RX3 57 "MirrorNet$Mirror" "done" "I", Cond.methodLink RX3 49 yX3_missing, Cond.instanceMethod yX3_missing, Cond.selects RX3 yX3_missing yX3_missing, Cond.code yX3_missing cX3_missing 2 (some .long), Cond.fieldLink RX3 34 "MirrorNet$Mirror" "files" "J", Cond.constantLong RX3 47 (-1), Cond.instanceMethod yX4_filesOf, Cond.initialized RX4, Cond.selects RX4 yX4_filesOf yX4_filesOf, Cond.code yX4_filesOf cX4_filesOf 2 (some .long), Cond.fieldLink RX4 21 "MirrorNet$Shelf" "stateFiles" "[J", Cond.methodLink RX4 82 yX4_hasState, Cond.instanceMethod yX4_hasState, Cond.selects RX4 yX4_hasState yX4_hasState, Cond.code yX4_hasState cX4_hasState 2 (some .boolean)]
def wsX3_step_r2 : List Cond := [Cond.fieldLink RX4 34 "MirrorNet$Shelf" "stateCount" "I", Cond.static yX5_leastOf, Cond.initialized RX5, Cond.code yX5_leastOf cX5_leastOf 2 (some .int), Cond.methodLink RX5 123 yJ13_bitCount_95d88, Cond.static yJ13_bitCount_95d88, Cond.initialized RJ13, Cond.code yJ13_bitCount_95d88 cJ13_bitCount_95d88 2 (some .int), Cond.constantLong RJ13 314 (6148914691236517205), Cond.constantLong RJ13 316 (3689348814741910323), Cond.constantLong RJ13 318 (1085102592571150095), Cond.static yX5_bitOf, Cond.code yX5_bitOf cX5_bitOf 1 (some .long), Cond.methodLink RX5 47 yX5_isWithin, Cond.static yX5_isWithin, Cond.code yX5_isWithin cX5_isWithin 3 (some .boolean), Cond.instanceMethod yX4_sizeOf, Cond.selects RX4 yX4_sizeOf yX4_sizeOf, Cond.code yX4_sizeOf cX4_sizeOf 2 (some .int), Cond.fieldLink RX4 9 "MirrorNet$Shelf" "sizes" "[I", Cond.methodLink RX4 73 yX4_hasFile, Cond.instanceMethod yX4_hasFile, Cond.selects RX4 yX4_hasFile yX4_hasFile, Cond.code yX4_hasFile cX4_hasFile 2 (some .boolean)]
def wsX3_step_r3 : List Cond := [Cond.fieldLink RX4 38 "MirrorNet$Shelf" "fileCount" "I", Cond.methodLink RX3 81 yX3_takeBytes, Cond.instanceMethod yX3_takeBytes, Cond.selects RX3 yX3_takeBytes yX3_takeBytes, Cond.code yX3_takeBytes cX3_takeBytes 5 (some .int), Cond.methodLink RX3 85 Lib.Math.min.name, Cond.static Lib.Math.min.name, Cond.initialized "java/lang/Math", Cond.code Lib.Math.min.name Lib.Math.min.code 2 (some .int), Cond.fieldLink RX3 91 "MirrorNet$Mirror" "taken" "I", Cond.methodLink RX3 67 yX3_takeIndex, Cond.instanceMethod yX3_takeIndex, Cond.selects RX3 yX3_takeIndex yX3_takeIndex, Cond.code yX3_takeIndex cX3_takeIndex 2 none, Cond.fieldLink RX3 21 "MirrorNet$Mirror" "earlier" "[I", Cond.methodLink RX3 70 yX3_dropOld, Cond.instanceMethod yX3_dropOld, Cond.selects RX3 yX3_dropOld yX3_dropOld, Cond.code yX3_dropOld cX3_dropOld 5 none, Cond.fieldLink RX3 18 "MirrorNet$Mirror" "keep" "I"]
def wsX3_step : List Cond := .code yX3_step cX3_step 5 none :: ((wsX3_step_r1 ++ (wsX3_step_r2 ++ wsX3_step_r3)) ++ wsX30 ++ wsX40)
def wsX4_init : List Cond := .code yX4_init cX4_init 1 none :: ([.methodLink RX4 3 objectInit, .instanceMethod objectInit, .code objectInit ⟨#[0xb1]⟩ 1 none, .arrayClass .int, .fieldLink RX4 9 "MirrorNet$Shelf" "sizes" "[I", .fieldLink RX4 15 "MirrorNet$Shelf" "yankTicks" "[I", .fieldLink RX4 18 "MirrorNet$Shelf" "stateTicks" "[I", .arrayClass .long, .fieldLink RX4 21 "MirrorNet$Shelf" "stateFiles" "[J", .fieldLink RX4 25 "MirrorNet$Shelf" "named" "[I", .fieldLink RX4 34 "MirrorNet$Shelf" "stateCount" "I", .methodLink RX4 28 yJ7_fill_53178, .static yJ7_fill_53178, .initialized RJ7, .code yJ7_fill_53178 cJ7_fill_53178 4 none] ++ wsX40)
def wsX4_latestState : List Cond := .code yX4_latestState cX4_latestState 1 (some .int) :: ([.fieldLink RX4 34 "MirrorNet$Shelf" "stateCount" "I"] ++ wsX40)
def wsX4_allFiles : List Cond := .code yX4_allFiles cX4_allFiles 1 (some .long) :: ([.fieldLink RX4 38 "MirrorNet$Shelf" "fileCount" "I"] ++ wsX40)
def wsX4_addFile : List Cond := .code yX4_addFile cX4_addFile 2 (some .int) :: ([.fieldLink RX4 38 "MirrorNet$Shelf" "fileCount" "I", .fieldLink RX4 9 "MirrorNet$Shelf" "sizes" "[I"] ++ wsX40)
def wsX4_mayChange : List Cond := .code yX4_mayChange cX4_mayChange 2 (some .boolean) :: ([.fieldLink RX4 34 "MirrorNet$Shelf" "stateCount" "I", .fieldLink RX4 65 "MirrorNet$Shelf" "yanked" "J", .methodLink RX4 73 yX4_hasFile, .instanceMethod yX4_hasFile, .selects RX4 yX4_hasFile yX4_hasFile, .initialized RX4, .code yX4_hasFile cX4_hasFile 2 (some .boolean), .fieldLink RX4 38 "MirrorNet$Shelf" "fileCount" "I", .static yX5_bitOf, .initialized RX5, .code yX5_bitOf cX5_bitOf 1 (some .long), .methodLink RX5 47 yX5_isWithin, .static yX5_isWithin, .code yX5_isWithin cX5_isWithin 3 (some .boolean)] ++ wsX40)
def wsX4_namedBy : List Cond := .code yX4_namedBy cX4_namedBy 3 (some .int) :: ([.fieldLink RX4 25 "MirrorNet$Shelf" "named" "[I", .methodLink RX4 82 yX4_hasState, .instanceMethod yX4_hasState, .selects RX4 yX4_hasState yX4_hasState, .initialized RX4, .code yX4_hasState cX4_hasState 2 (some .boolean), .fieldLink RX4 34 "MirrorNet$Shelf" "stateCount" "I", .static yX5_isWithin, .initialized RX5, .code yX5_isWithin cX5_isWithin 3 (some .boolean)] ++ wsX40)
def wsX4_addState : List Cond := .code yX4_addState cX4_addState 3 (some .int) :: ([.fieldLink RX4 34 "MirrorNet$Shelf" "stateCount" "I", .fieldLink RX4 25 "MirrorNet$Shelf" "named" "[I", .methodLink RX4 76 arraycopyName, .native arraycopyName, .static arraycopyName, .initialized "java/lang/System", .fieldLink RX4 18 "MirrorNet$Shelf" "stateTicks" "[I"] ++ wsX40)
def wsX4_gatherFiles : List Cond := .code yX4_gatherFiles cX4_gatherFiles 5 none :: ([.fieldLink RX4 21 "MirrorNet$Shelf" "stateFiles" "[J", .methodLink RX4 53 yX4_namedBy, .instanceMethod yX4_namedBy, .selects RX4 yX4_namedBy yX4_namedBy, .initialized RX4, .code yX4_namedBy cX4_namedBy 3 (some .int), .fieldLink RX4 25 "MirrorNet$Shelf" "named" "[I", .methodLink RX4 82 yX4_hasState, .instanceMethod yX4_hasState, .selects RX4 yX4_hasState yX4_hasState, .code yX4_hasState cX4_hasState 2 (some .boolean), .fieldLink RX4 34 "MirrorNet$Shelf" "stateCount" "I", .static yX5_isWithin, .initialized RX5, .code yX5_isWithin cX5_isWithin 3 (some .boolean), .static yX5_bitOf, .code yX5_bitOf cX5_bitOf 1 (some .long), .methodLink RX5 47 yX5_isWithin] ++ wsX40)
def wsX4_addPut_r1 : List Cond := [Cond.fieldLink RX4 25 "MirrorNet$Shelf" "named" "[I", Cond.static yX5_isWithin, Cond.initialized RX5, Cond.code yX5_isWithin cX5_isWithin 3 (some .boolean), Cond.methodLink RX4 45 yX4_mayChange, Cond.instanceMethod yX4_mayChange, Cond.selects RX4 yX4_mayChange yX4_mayChange, Cond.initialized RX4, Cond.code yX4_mayChange cX4_mayChange 2 (some .boolean), Cond.fieldLink RX4 34 "MirrorNet$Shelf" "stateCount" "I", Cond.fieldLink RX4 65 "MirrorNet$Shelf" "yanked" "J", Cond.methodLink RX4 73 yX4_hasFile, Cond.instanceMethod yX4_hasFile, Cond.selects RX4 yX4_hasFile yX4_hasFile, Cond.code yX4_hasFile cX4_hasFile 2 (some .boolean), Cond.fieldLink RX4 38 "MirrorNet$Shelf" "fileCount" "I", Cond.static yX5_bitOf, Cond.code yX5_bitOf cX5_bitOf 1 (some .long), Cond.methodLink RX5 47 yX5_isWithin, Cond.methodLink RX4 49 yX4_latestState, Cond.instanceMethod yX4_latestState, Cond.selects RX4 yX4_latestState yX4_latestState, Cond.code yX4_latestState cX4_latestState 1 (some .int), Cond.methodLink RX4 53 yX4_namedBy]
def wsX4_addPut_r2 : List Cond := [Cond.instanceMethod yX4_namedBy, Cond.selects RX4 yX4_namedBy yX4_namedBy, Cond.code yX4_namedBy cX4_namedBy 3 (some .int), Cond.methodLink RX4 82 yX4_hasState, Cond.instanceMethod yX4_hasState, Cond.selects RX4 yX4_hasState yX4_hasState, Cond.code yX4_hasState cX4_hasState 2 (some .boolean), Cond.methodLink RX4 57 yX4_addState, Cond.instanceMethod yX4_addState, Cond.selects RX4 yX4_addState yX4_addState, Cond.code yX4_addState cX4_addState 3 (some .int), Cond.methodLink RX4 76 arraycopyName, Cond.native arraycopyName, Cond.static arraycopyName, Cond.initialized "java/lang/System", Cond.fieldLink RX4 18 "MirrorNet$Shelf" "stateTicks" "[I", Cond.methodLink RX4 61 yX4_gatherFiles, Cond.instanceMethod yX4_gatherFiles, Cond.selects RX4 yX4_gatherFiles yX4_gatherFiles, Cond.code yX4_gatherFiles cX4_gatherFiles 5 none, Cond.fieldLink RX4 21 "MirrorNet$Shelf" "stateFiles" "[J"]
def wsX4_addPut : List Cond := .code yX4_addPut cX4_addPut 5 (some .int) :: ((wsX4_addPut_r1 ++ wsX4_addPut_r2) ++ wsX40)
def wsX4_addYank_r1 : List Cond := [Cond.fieldLink RX4 65 "MirrorNet$Shelf" "yanked" "J", Cond.fieldLink RX4 15 "MirrorNet$Shelf" "yankTicks" "[I", Cond.fieldLink RX4 25 "MirrorNet$Shelf" "named" "[I", Cond.methodLink RX4 45 yX4_mayChange, Cond.instanceMethod yX4_mayChange, Cond.selects RX4 yX4_mayChange yX4_mayChange, Cond.initialized RX4, Cond.code yX4_mayChange cX4_mayChange 2 (some .boolean), Cond.fieldLink RX4 34 "MirrorNet$Shelf" "stateCount" "I", Cond.methodLink RX4 73 yX4_hasFile, Cond.instanceMethod yX4_hasFile, Cond.selects RX4 yX4_hasFile yX4_hasFile, Cond.code yX4_hasFile cX4_hasFile 2 (some .boolean), Cond.fieldLink RX4 38 "MirrorNet$Shelf" "fileCount" "I", Cond.static yX5_bitOf, Cond.initialized RX5, Cond.code yX5_bitOf cX5_bitOf 1 (some .long), Cond.methodLink RX5 47 yX5_isWithin, Cond.static yX5_isWithin, Cond.code yX5_isWithin cX5_isWithin 3 (some .boolean), Cond.methodLink RX4 57 yX4_addState, Cond.instanceMethod yX4_addState, Cond.selects RX4 yX4_addState yX4_addState, Cond.code yX4_addState cX4_addState 3 (some .int)]
def wsX4_addYank_r2 : List Cond := [Cond.methodLink RX4 76 arraycopyName, Cond.native arraycopyName, Cond.static arraycopyName, Cond.initialized "java/lang/System", Cond.fieldLink RX4 18 "MirrorNet$Shelf" "stateTicks" "[I", Cond.methodLink RX4 61 yX4_gatherFiles, Cond.instanceMethod yX4_gatherFiles, Cond.selects RX4 yX4_gatherFiles yX4_gatherFiles, Cond.code yX4_gatherFiles cX4_gatherFiles 5 none, Cond.fieldLink RX4 21 "MirrorNet$Shelf" "stateFiles" "[J", Cond.methodLink RX4 53 yX4_namedBy, Cond.instanceMethod yX4_namedBy, Cond.selects RX4 yX4_namedBy yX4_namedBy, Cond.code yX4_namedBy cX4_namedBy 3 (some .int), Cond.methodLink RX4 82 yX4_hasState, Cond.instanceMethod yX4_hasState, Cond.selects RX4 yX4_hasState yX4_hasState, Cond.code yX4_hasState cX4_hasState 2 (some .boolean)]
def wsX4_addYank : List Cond := .code yX4_addYank cX4_addYank 5 (some .int) :: ((wsX4_addYank_r1 ++ wsX4_addYank_r2) ++ wsX40)
def wsX4_namesAlike : List Cond := .code yX4_namesAlike cX4_namesAlike 5 (some .boolean) :: ([.static yX5_isIn, .initialized RX5, .code yX5_isIn cX5_isIn 2 (some .boolean), .methodLink RX5 47 yX5_isWithin, .static yX5_isWithin, .code yX5_isWithin cX5_isWithin 3 (some .boolean), .methodLink RX4 53 yX4_namedBy, .instanceMethod yX4_namedBy, .selects RX4 yX4_namedBy yX4_namedBy, .initialized RX4, .code yX4_namedBy cX4_namedBy 3 (some .int), .fieldLink RX4 25 "MirrorNet$Shelf" "named" "[I", .methodLink RX4 82 yX4_hasState, .instanceMethod yX4_hasState, .selects RX4 yX4_hasState yX4_hasState, .code yX4_hasState cX4_hasState 2 (some .boolean), .fieldLink RX4 34 "MirrorNet$Shelf" "stateCount" "I"] ++ wsX40)
def wsX4_namesLongYanked : List Cond := .code yX4_namesLongYanked cX4_namesLongYanked 7 (some .boolean) :: ([.fieldLink RX4 65 "MirrorNet$Shelf" "yanked" "J", .fieldLink RX4 38 "MirrorNet$Shelf" "fileCount" "I", .fieldLink RX4 15 "MirrorNet$Shelf" "yankTicks" "[I", .methodLink RX4 89 yX4_filesOf, .instanceMethod yX4_filesOf, .selects RX4 yX4_filesOf yX4_filesOf, .initialized RX4, .code yX4_filesOf cX4_filesOf 2 (some .long), .fieldLink RX4 21 "MirrorNet$Shelf" "stateFiles" "[J", .methodLink RX4 82 yX4_hasState, .instanceMethod yX4_hasState, .selects RX4 yX4_hasState yX4_hasState, .code yX4_hasState cX4_hasState 2 (some .boolean), .fieldLink RX4 34 "MirrorNet$Shelf" "stateCount" "I", .static yX5_bitOf, .initialized RX5, .code yX5_bitOf cX5_bitOf 1 (some .long), .methodLink RX5 47 yX5_isWithin, .static yX5_isWithin, .code yX5_isWithin cX5_isWithin 3 (some .boolean)] ++ wsX40)
def wsX4_packagesNamedIn : List Cond := .code yX4_packagesNamedIn cX4_packagesNamedIn 4 (some .int) :: ([.methodLink RX4 53 yX4_namedBy, .instanceMethod yX4_namedBy, .selects RX4 yX4_namedBy yX4_namedBy, .initialized RX4, .code yX4_namedBy cX4_namedBy 3 (some .int), .fieldLink RX4 25 "MirrorNet$Shelf" "named" "[I", .methodLink RX4 82 yX4_hasState, .instanceMethod yX4_hasState, .selects RX4 yX4_hasState yX4_hasState, .code yX4_hasState cX4_hasState 2 (some .boolean), .fieldLink RX4 34 "MirrorNet$Shelf" "stateCount" "I", .static yX5_isWithin, .initialized RX5, .code yX5_isWithin cX5_isWithin 3 (some .boolean)] ++ wsX40)
def wsX4_tickOf : List Cond := .code yX4_tickOf cX4_tickOf 2 (some .int) :: ([.fieldLink RX4 18 "MirrorNet$Shelf" "stateTicks" "[I", .methodLink RX4 82 yX4_hasState, .instanceMethod yX4_hasState, .selects RX4 yX4_hasState yX4_hasState, .initialized RX4, .code yX4_hasState cX4_hasState 2 (some .boolean), .fieldLink RX4 34 "MirrorNet$Shelf" "stateCount" "I"] ++ wsX40)
def wsX4_ageOf : List Cond := .code yX4_ageOf cX4_ageOf 3 (some .int) :: ([.fieldLink RX4 18 "MirrorNet$Shelf" "stateTicks" "[I", .methodLink RX4 82 yX4_hasState, .instanceMethod yX4_hasState, .selects RX4 yX4_hasState yX4_hasState, .initialized RX4, .code yX4_hasState cX4_hasState 2 (some .boolean), .fieldLink RX4 34 "MirrorNet$Shelf" "stateCount" "I"] ++ wsX40)
def wsX5_init_r1 : List Cond := [Cond.methodLink RX5 3 objectInit, Cond.instanceMethod objectInit, Cond.code objectInit ⟨#[0xb1]⟩ 1 none, Cond.classLink RX5 9 RX4, Cond.instantiable RX4 8, Cond.initialized RX4, Cond.fieldLink RX5 12 "MirrorNet" "shelf" "LMirrorNet$Shelf;", Cond.classLink RX5 16 RX2, Cond.instantiable RX2 4, Cond.initialized RX2, Cond.fieldLink RX5 19 "MirrorNet" "falls" "LMirrorNet$Falls;", Cond.classLink RX5 23 RX3, Cond.fieldLink RX5 25 "MirrorNet" "mirrors" "[LMirrorNet$Mirror;", Cond.classLink RX5 29 RX0, Cond.fieldLink RX5 31 "MirrorNet" "askers" "[LMirrorNet$Asker;", Cond.instantiable RX0 6, Cond.initialized RX0, Cond.classLink RX5 36 RX1, Cond.instantiable RX1 10, Cond.initialized RX1, Cond.fieldLink RX5 39 "MirrorNet" "latest" "LMirrorNet$Asking;", Cond.fieldLink RX5 43 "MirrorNet" "graceTicks" "I", Cond.instanceMethod yX4_init, Cond.code yX4_init cX4_init 1 none]
def wsX5_init_r2 : List Cond := [Cond.methodLink RX4 3 objectInit, Cond.arrayClass .int, Cond.fieldLink RX4 9 "MirrorNet$Shelf" "sizes" "[I", Cond.fieldLink RX4 15 "MirrorNet$Shelf" "yankTicks" "[I", Cond.fieldLink RX4 18 "MirrorNet$Shelf" "stateTicks" "[I", Cond.arrayClass .long, Cond.fieldLink RX4 21 "MirrorNet$Shelf" "stateFiles" "[J", Cond.fieldLink RX4 25 "MirrorNet$Shelf" "named" "[I", Cond.fieldLink RX4 34 "MirrorNet$Shelf" "stateCount" "I", Cond.methodLink RX4 28 yJ7_fill_53178, Cond.static yJ7_fill_53178, Cond.initialized RJ7, Cond.code yJ7_fill_53178 cJ7_fill_53178 4 none, Cond.instanceMethod yX2_init, Cond.code yX2_init cX2_init 1 none, Cond.methodLink RX2 3 objectInit, Cond.fieldLink RX2 9 "MirrorNet$Falls" "who" "[I", Cond.fieldLink RX2 15 "MirrorNet$Falls" "firsts" "[I", Cond.fieldLink RX2 18 "MirrorNet$Falls" "lasts" "[I", Cond.instanceMethod yX0_init, Cond.code yX0_init cX0_init 1 none, Cond.methodLink RX0 3 objectInit, Cond.fieldLink RX0 9 "MirrorNet$Asker" "costs" "[I", Cond.fieldLink RX0 21 "MirrorNet$Asker" "line" "[I"]
def wsX5_init_r3 : List Cond := [Cond.fieldLink RX0 24 "MirrorNet$Asker" "mostAge" "I", Cond.fieldLink RX0 28 "MirrorNet$Asker" "last" "I", Cond.methodLink RX0 15 yJ7_fill_53178, Cond.instanceMethod yX1_init, Cond.code yX1_init cX1_init 1 none, Cond.methodLink RX1 3 objectInit, Cond.fieldLink RX1 9 "MirrorNet$Asking" "gotFiles" "[I", Cond.fieldLink RX1 15 "MirrorNet$Asking" "gotPackages" "[I", Cond.fieldLink RX1 18 "MirrorNet$Asking" "gotMirrors" "[I"]
def wsX5_init : List Cond := .code yX5_init cX5_init 2 none :: ((wsX5_init_r1 ++ (wsX5_init_r2 ++ wsX5_init_r3)) ++ wsX40 ++ wsX50 ++ wsX20 ++ wsX00 ++ wsX10)
def wsX5_file : List Cond := .code yX5_file cX5_file 2 (some .int) :: ([.fieldLink RX5 12 "MirrorNet" "shelf" "LMirrorNet$Shelf;", .methodLink RX5 47 yX5_isWithin, .static yX5_isWithin, .initialized RX5, .code yX5_isWithin cX5_isWithin 3 (some .boolean), .instanceMethod yX4_addFile, .initialized RX4, .selects RX4 yX4_addFile yX4_addFile, .code yX4_addFile cX4_addFile 2 (some .int), .fieldLink RX4 38 "MirrorNet$Shelf" "fileCount" "I", .fieldLink RX4 9 "MirrorNet$Shelf" "sizes" "[I"] ++ wsX50 ++ wsX40)
def wsX5_put_r1 : List Cond := [Cond.fieldLink RX5 12 "MirrorNet" "shelf" "LMirrorNet$Shelf;", Cond.fieldLink RX5 55 "MirrorNet" "now" "I", Cond.instanceMethod yX4_addPut, Cond.initialized RX4, Cond.selects RX4 yX4_addPut yX4_addPut, Cond.code yX4_addPut cX4_addPut 5 (some .int), Cond.fieldLink RX4 25 "MirrorNet$Shelf" "named" "[I", Cond.static yX5_isWithin, Cond.initialized RX5, Cond.code yX5_isWithin cX5_isWithin 3 (some .boolean), Cond.methodLink RX4 45 yX4_mayChange, Cond.instanceMethod yX4_mayChange, Cond.selects RX4 yX4_mayChange yX4_mayChange, Cond.code yX4_mayChange cX4_mayChange 2 (some .boolean), Cond.fieldLink RX4 34 "MirrorNet$Shelf" "stateCount" "I", Cond.fieldLink RX4 65 "MirrorNet$Shelf" "yanked" "J", Cond.methodLink RX4 73 yX4_hasFile, Cond.instanceMethod yX4_hasFile, Cond.selects RX4 yX4_hasFile yX4_hasFile, Cond.code yX4_hasFile cX4_hasFile 2 (some .boolean), Cond.fieldLink RX4 38 "MirrorNet$Shelf" "fileCount" "I", Cond.static yX5_bitOf, Cond.code yX5_bitOf cX5_bitOf 1 (some .long), Cond.methodLink RX5 47 yX5_isWithin]
def wsX5_put_r2 : List Cond := [Cond.methodLink RX4 49 yX4_latestState, Cond.instanceMethod yX4_latestState, Cond.selects RX4 yX4_latestState yX4_latestState, Cond.code yX4_latestState cX4_latestState 1 (some .int), Cond.methodLink RX4 53 yX4_namedBy, Cond.instanceMethod yX4_namedBy, Cond.selects RX4 yX4_namedBy yX4_namedBy, Cond.code yX4_namedBy cX4_namedBy 3 (some .int), Cond.methodLink RX4 82 yX4_hasState, Cond.instanceMethod yX4_hasState, Cond.selects RX4 yX4_hasState yX4_hasState, Cond.code yX4_hasState cX4_hasState 2 (some .boolean), Cond.methodLink RX4 57 yX4_addState, Cond.instanceMethod yX4_addState, Cond.selects RX4 yX4_addState yX4_addState, Cond.code yX4_addState cX4_addState 3 (some .int), Cond.methodLink RX4 76 arraycopyName, Cond.native arraycopyName, Cond.static arraycopyName, Cond.initialized "java/lang/System", Cond.fieldLink RX4 18 "MirrorNet$Shelf" "stateTicks" "[I", Cond.methodLink RX4 61 yX4_gatherFiles, Cond.instanceMethod yX4_gatherFiles, Cond.selects RX4 yX4_gatherFiles yX4_gatherFiles]
def wsX5_put_r3 : List Cond := [Cond.code yX4_gatherFiles cX4_gatherFiles 5 none, Cond.fieldLink RX4 21 "MirrorNet$Shelf" "stateFiles" "[J"]
def wsX5_put : List Cond := .code yX5_put cX5_put 3 (some .int) :: ((wsX5_put_r1 ++ (wsX5_put_r2 ++ wsX5_put_r3)) ++ wsX50 ++ wsX40)
def wsX5_yank_r1 : List Cond := [Cond.fieldLink RX5 12 "MirrorNet" "shelf" "LMirrorNet$Shelf;", Cond.fieldLink RX5 55 "MirrorNet" "now" "I", Cond.instanceMethod yX4_addYank, Cond.initialized RX4, Cond.selects RX4 yX4_addYank yX4_addYank, Cond.code yX4_addYank cX4_addYank 5 (some .int), Cond.fieldLink RX4 65 "MirrorNet$Shelf" "yanked" "J", Cond.fieldLink RX4 15 "MirrorNet$Shelf" "yankTicks" "[I", Cond.fieldLink RX4 25 "MirrorNet$Shelf" "named" "[I", Cond.methodLink RX4 45 yX4_mayChange, Cond.instanceMethod yX4_mayChange, Cond.selects RX4 yX4_mayChange yX4_mayChange, Cond.code yX4_mayChange cX4_mayChange 2 (some .boolean), Cond.fieldLink RX4 34 "MirrorNet$Shelf" "stateCount" "I", Cond.methodLink RX4 73 yX4_hasFile, Cond.instanceMethod yX4_hasFile, Cond.selects RX4 yX4_hasFile yX4_hasFile, Cond.code yX4_hasFile cX4_hasFile 2 (some .boolean), Cond.fieldLink RX4 38 "MirrorNet$Shelf" "fileCount" "I", Cond.static yX5_bitOf, Cond.initialized RX5, Cond.code yX5_bitOf cX5_bitOf 1 (some .long), Cond.methodLink RX5 47 yX5_isWithin, Cond.static yX5_isWithin]
def wsX5_yank_r2 : List Cond := [Cond.code yX5_isWithin cX5_isWithin 3 (some .boolean), Cond.methodLink RX4 57 yX4_addState, Cond.instanceMethod yX4_addState, Cond.selects RX4 yX4_addState yX4_addState, Cond.code yX4_addState cX4_addState 3 (some .int), Cond.methodLink RX4 76 arraycopyName, Cond.native arraycopyName, Cond.static arraycopyName, Cond.initialized "java/lang/System", Cond.fieldLink RX4 18 "MirrorNet$Shelf" "stateTicks" "[I", Cond.methodLink RX4 61 yX4_gatherFiles, Cond.instanceMethod yX4_gatherFiles, Cond.selects RX4 yX4_gatherFiles yX4_gatherFiles, Cond.code yX4_gatherFiles cX4_gatherFiles 5 none, Cond.fieldLink RX4 21 "MirrorNet$Shelf" "stateFiles" "[J", Cond.methodLink RX4 53 yX4_namedBy, Cond.instanceMethod yX4_namedBy, Cond.selects RX4 yX4_namedBy yX4_namedBy, Cond.code yX4_namedBy cX4_namedBy 3 (some .int), Cond.methodLink RX4 82 yX4_hasState, Cond.instanceMethod yX4_hasState, Cond.selects RX4 yX4_hasState yX4_hasState, Cond.code yX4_hasState cX4_hasState 2 (some .boolean)]
def wsX5_yank : List Cond := .code yX5_yank cX5_yank 2 (some .int) :: ((wsX5_yank_r1 ++ wsX5_yank_r2) ++ wsX50 ++ wsX40)
def wsX5_names : List Cond := .code yX5_names cX5_names 3 (some .int) :: ([.fieldLink RX5 12 "MirrorNet" "shelf" "LMirrorNet$Shelf;", .instanceMethod yX4_namedBy, .initialized RX4, .selects RX4 yX4_namedBy yX4_namedBy, .code yX4_namedBy cX4_namedBy 3 (some .int), .fieldLink RX4 25 "MirrorNet$Shelf" "named" "[I", .methodLink RX4 82 yX4_hasState, .instanceMethod yX4_hasState, .selects RX4 yX4_hasState yX4_hasState, .code yX4_hasState cX4_hasState 2 (some .boolean), .fieldLink RX4 34 "MirrorNet$Shelf" "stateCount" "I", .static yX5_isWithin, .initialized RX5, .code yX5_isWithin cX5_isWithin 3 (some .boolean)] ++ wsX50 ++ wsX40)
def wsX5_state_r1 : List Cond := [Cond.fieldLink RX5 12 "MirrorNet" "shelf" "LMirrorNet$Shelf;", Cond.fieldLink RX5 55 "MirrorNet" "now" "I", Cond.instanceMethod yX4_hasState, Cond.initialized RX4, Cond.selects RX4 yX4_hasState yX4_hasState, Cond.code yX4_hasState cX4_hasState 2 (some .boolean), Cond.fieldLink RX4 34 "MirrorNet$Shelf" "stateCount" "I", Cond.instanceMethod yX4_tickOf, Cond.selects RX4 yX4_tickOf yX4_tickOf, Cond.code yX4_tickOf cX4_tickOf 2 (some .int), Cond.fieldLink RX4 18 "MirrorNet$Shelf" "stateTicks" "[I", Cond.methodLink RX4 82 yX4_hasState, Cond.instanceMethod yX4_ageOf, Cond.selects RX4 yX4_ageOf yX4_ageOf, Cond.code yX4_ageOf cX4_ageOf 3 (some .int), Cond.instanceMethod yX4_packagesNamedIn, Cond.selects RX4 yX4_packagesNamedIn yX4_packagesNamedIn, Cond.code yX4_packagesNamedIn cX4_packagesNamedIn 4 (some .int), Cond.methodLink RX4 53 yX4_namedBy, Cond.instanceMethod yX4_namedBy, Cond.selects RX4 yX4_namedBy yX4_namedBy, Cond.code yX4_namedBy cX4_namedBy 3 (some .int), Cond.fieldLink RX4 25 "MirrorNet$Shelf" "named" "[I", Cond.static yX5_isWithin]
def wsX5_state_r2 : List Cond := [Cond.initialized RX5, Cond.code yX5_isWithin cX5_isWithin 3 (some .boolean), Cond.instanceMethod yX4_filesOf, Cond.selects RX4 yX4_filesOf yX4_filesOf, Cond.code yX4_filesOf cX4_filesOf 2 (some .long), Cond.fieldLink RX4 21 "MirrorNet$Shelf" "stateFiles" "[J", Cond.instanceMethod yX4_bytesOf, Cond.selects RX4 yX4_bytesOf yX4_bytesOf, Cond.code yX4_bytesOf cX4_bytesOf 5 (some .int), Cond.fieldLink RX4 38 "MirrorNet$Shelf" "fileCount" "I", Cond.fieldLink RX4 9 "MirrorNet$Shelf" "sizes" "[I", Cond.static yX5_bitOf, Cond.code yX5_bitOf cX5_bitOf 1 (some .long), Cond.methodLink RX5 47 yX5_isWithin]
def wsX5_state : List Cond := .code yX5_state cX5_state 3 (some .int) :: ((wsX5_state_r1 ++ wsX5_state_r2) ++ wsX50 ++ wsX40)
def wsX5_mirror : List Cond := .code yX5_mirror cX5_mirror 4 (some .int) :: ([.fieldLink RX5 90 "MirrorNet" "mirrorCount" "I", .fieldLink RX5 25 "MirrorNet" "mirrors" "[LMirrorNet$Mirror;", .classLink RX5 23 RX3, .instantiable RX3 10, .initialized RX3, .methodLink RX5 47 yX5_isWithin, .static yX5_isWithin, .initialized RX5, .code yX5_isWithin cX5_isWithin 3 (some .boolean), .instanceMethod yX3_init, .code yX3_init cX3_init 4 none, .methodLink RX3 3 objectInit, .instanceMethod objectInit, .code objectInit ⟨#[0xb1]⟩ 1 none, .fieldLink RX3 9 "MirrorNet$Mirror" "source" "I", .fieldLink RX3 15 "MirrorNet$Mirror" "bytesATick" "I", .fieldLink RX3 18 "MirrorNet$Mirror" "keep" "I", .arrayClass .int, .fieldLink RX3 21 "MirrorNet$Mirror" "earlier" "[I", .fieldLink RX3 31 "MirrorNet$Mirror" "target" "I", .methodLink RX3 25 yJ7_fill_53178, .static yJ7_fill_53178, .initialized RJ7, .code yJ7_fill_53178 cJ7_fill_53178 4 none] ++ wsX50 ++ wsX30)
def wsX5_mirrorAt : List Cond := .code yX5_mirrorAt cX5_mirrorAt 2 (some (.object "MirrorNet$Mirror")) :: ([.fieldLink RX5 90 "MirrorNet" "mirrorCount" "I", .fieldLink RX5 25 "MirrorNet" "mirrors" "[LMirrorNet$Mirror;", .methodLink RX5 47 yX5_isWithin, .static yX5_isWithin, .initialized RX5, .code yX5_isWithin cX5_isWithin 3 (some .boolean)] ++ wsX50)
def wsX5_speed : List Cond := .code yX5_speed cX5_speed 5 (some .int) :: ([.methodLink RX5 96 yX5_mirrorAt, .instanceMethod yX5_mirrorAt, .selects RX5 yX5_mirrorAt yX5_mirrorAt, .initialized RX5, .code yX5_mirrorAt cX5_mirrorAt 2 (some (.object "MirrorNet$Mirror")), .fieldLink RX5 90 "MirrorNet" "mirrorCount" "I", .fieldLink RX5 25 "MirrorNet" "mirrors" "[LMirrorNet$Mirror;", .methodLink RX5 47 yX5_isWithin, .static yX5_isWithin, .code yX5_isWithin cX5_isWithin 3 (some .boolean)] ++ wsX30 ++ wsX50)
def wsX5_fall : List Cond := .code yX5_fall cX5_fall 4 (some .int) :: ([.fieldLink RX5 55 "MirrorNet" "now" "I", .fieldLink RX5 19 "MirrorNet" "falls" "LMirrorNet$Falls;", .methodLink RX5 96 yX5_mirrorAt, .instanceMethod yX5_mirrorAt, .selects RX5 yX5_mirrorAt yX5_mirrorAt, .initialized RX5, .code yX5_mirrorAt cX5_mirrorAt 2 (some (.object "MirrorNet$Mirror")), .fieldLink RX5 90 "MirrorNet" "mirrorCount" "I", .fieldLink RX5 25 "MirrorNet" "mirrors" "[LMirrorNet$Mirror;", .methodLink RX5 47 yX5_isWithin, .static yX5_isWithin, .code yX5_isWithin cX5_isWithin 3 (some .boolean), .instanceMethod yX2_add, .initialized RX2, .selects RX2 yX2_add yX2_add, .code yX2_add cX2_add 4 (some .int), .fieldLink RX2 21 "MirrorNet$Falls" "told" "I", .fieldLink RX2 9 "MirrorNet$Falls" "who" "[I", .fieldLink RX2 15 "MirrorNet$Falls" "firsts" "[I", .fieldLink RX2 18 "MirrorNet$Falls" "lasts" "[I"] ++ wsX50 ++ wsX20)
def wsX5_lies : List Cond := .code yX5_lies cX5_lies 4 (some .boolean) :: ([.methodLink RX5 96 yX5_mirrorAt, .instanceMethod yX5_mirrorAt, .selects RX5 yX5_mirrorAt yX5_mirrorAt, .initialized RX5, .code yX5_mirrorAt cX5_mirrorAt 2 (some (.object "MirrorNet$Mirror")), .fieldLink RX5 90 "MirrorNet" "mirrorCount" "I", .fieldLink RX5 25 "MirrorNet" "mirrors" "[LMirrorNet$Mirror;", .methodLink RX5 47 yX5_isWithin, .static yX5_isWithin, .code yX5_isWithin cX5_isWithin 3 (some .boolean)] ++ wsX30 ++ wsX50)
def wsX5_stepAll_r1 : List Cond := [Cond.fieldLink RX5 19 "MirrorNet" "falls" "LMirrorNet$Falls;", Cond.fieldLink RX5 55 "MirrorNet" "now" "I", Cond.fieldLink RX5 90 "MirrorNet" "mirrorCount" "I", Cond.fieldLink RX5 12 "MirrorNet" "shelf" "LMirrorNet$Shelf;", Cond.instanceMethod yX2_downAt, Cond.initialized RX2, Cond.selects RX2 yX2_downAt yX2_downAt, Cond.code yX2_downAt cX2_downAt 4 (some .int), Cond.fieldLink RX2 21 "MirrorNet$Falls" "told" "I", Cond.fieldLink RX2 15 "MirrorNet$Falls" "firsts" "[I", Cond.fieldLink RX2 18 "MirrorNet$Falls" "lasts" "[I", Cond.fieldLink RX2 9 "MirrorNet$Falls" "who" "[I", Cond.static yX5_isWithin, Cond.initialized RX5, Cond.code yX5_isWithin cX5_isWithin 3 (some .boolean), Cond.methodLink RX5 96 yX5_mirrorAt, Cond.instanceMethod yX5_mirrorAt, Cond.selects RX5 yX5_mirrorAt yX5_mirrorAt, Cond.code yX5_mirrorAt cX5_mirrorAt 2 (some (.object "MirrorNet$Mirror")), Cond.fieldLink RX5 25 "MirrorNet" "mirrors" "[LMirrorNet$Mirror;", Cond.methodLink RX5 47 yX5_isWithin, Cond.methodLink RX5 137 yX5_isIn, Cond.static yX5_isIn, Cond.code yX5_isIn cX5_isIn 2 (some .boolean)]
def wsX5_stepAll_r2 : List Cond := [Cond.instanceMethod yX4_latestState, Cond.initialized RX4, Cond.selects RX4 yX4_latestState yX4_latestState, Cond.code yX4_latestState cX4_latestState 1 (some .int), Cond.fieldLink RX4 34 "MirrorNet$Shelf" "stateCount" "I", Cond.instanceMethod yX4_allFiles, Cond.selects RX4 yX4_allFiles yX4_allFiles, Cond.code yX4_allFiles cX4_allFiles 1 (some .long), Cond.fieldLink RX4 38 "MirrorNet$Shelf" "fileCount" "I", Cond.instanceMethod yX3_step, Cond.initialized RX3, Cond.selects RX3 yX3_step yX3_step, Cond.code yX3_step cX3_step 5 none, Cond.fieldLink RX3 31 "MirrorNet$Mirror" "target" "I", Cond.fieldLink RX3 60 "MirrorNet$Mirror" "index" "I", Cond.methodLink RX3 63 yX3_copyFiles, Cond.instanceMethod yX3_copyFiles, Cond.selects RX3 yX3_copyFiles yX3_copyFiles, Cond.code yX3_copyFiles cX3_copyFiles 9 none, Cond.fieldLink RX3 15 "MirrorNet$Mirror" "bytesATick" "I", Cond.fieldLink RX3 57 "MirrorNet$Mirror" "done" "I", Cond.methodLink RX3 49 yX3_missing, Cond.instanceMethod yX3_missing, Cond.selects RX3 yX3_missing yX3_missing]
def wsX5_stepAll_r3 : List Cond := [Cond.code yX3_missing cX3_missing 2 (some .long), Cond.fieldLink RX3 34 "MirrorNet$Mirror" "files" "J", Cond.constantLong RX3 47 (-1), Cond.instanceMethod yX4_filesOf, Cond.selects RX4 yX4_filesOf yX4_filesOf, Cond.code yX4_filesOf cX4_filesOf 2 (some .long), Cond.fieldLink RX4 21 "MirrorNet$Shelf" "stateFiles" "[J", Cond.methodLink RX4 82 yX4_hasState, Cond.instanceMethod yX4_hasState, Cond.selects RX4 yX4_hasState yX4_hasState, Cond.code yX4_hasState cX4_hasState 2 (some .boolean), Cond.static yX5_leastOf, Cond.code yX5_leastOf cX5_leastOf 2 (some .int), Cond.methodLink RX5 123 yJ13_bitCount_95d88, Cond.static yJ13_bitCount_95d88, Cond.initialized RJ13, Cond.code yJ13_bitCount_95d88 cJ13_bitCount_95d88 2 (some .int), Cond.constantLong RJ13 314 (6148914691236517205), Cond.constantLong RJ13 316 (3689348814741910323), Cond.constantLong RJ13 318 (1085102592571150095), Cond.static yX5_bitOf, Cond.code yX5_bitOf cX5_bitOf 1 (some .long), Cond.instanceMethod yX4_sizeOf, Cond.selects RX4 yX4_sizeOf yX4_sizeOf]
def wsX5_stepAll_r4 : List Cond := [Cond.code yX4_sizeOf cX4_sizeOf 2 (some .int), Cond.fieldLink RX4 9 "MirrorNet$Shelf" "sizes" "[I", Cond.methodLink RX4 73 yX4_hasFile, Cond.instanceMethod yX4_hasFile, Cond.selects RX4 yX4_hasFile yX4_hasFile, Cond.code yX4_hasFile cX4_hasFile 2 (some .boolean), Cond.methodLink RX3 81 yX3_takeBytes, Cond.instanceMethod yX3_takeBytes, Cond.selects RX3 yX3_takeBytes yX3_takeBytes, Cond.code yX3_takeBytes cX3_takeBytes 5 (some .int), Cond.methodLink RX3 85 Lib.Math.min.name, Cond.static Lib.Math.min.name, Cond.initialized "java/lang/Math", Cond.code Lib.Math.min.name Lib.Math.min.code 2 (some .int), Cond.fieldLink RX3 91 "MirrorNet$Mirror" "taken" "I", Cond.methodLink RX3 67 yX3_takeIndex, Cond.instanceMethod yX3_takeIndex, Cond.selects RX3 yX3_takeIndex yX3_takeIndex, Cond.code yX3_takeIndex cX3_takeIndex 2 none, Cond.fieldLink RX3 21 "MirrorNet$Mirror" "earlier" "[I", Cond.methodLink RX3 70 yX3_dropOld, Cond.instanceMethod yX3_dropOld, Cond.selects RX3 yX3_dropOld yX3_dropOld, Cond.code yX3_dropOld cX3_dropOld 5 none]
def wsX5_stepAll_r5 : List Cond := [Cond.fieldLink RX3 18 "MirrorNet$Mirror" "keep" "I"]
def wsX5_stepAll : List Cond := .code yX5_stepAll cX5_stepAll 5 none :: ((wsX5_stepAll_r1 ++ (wsX5_stepAll_r2 ++ (wsX5_stepAll_r3 ++ (wsX5_stepAll_r4 ++ wsX5_stepAll_r5)))) ++ wsX50 ++ wsX30 ++ wsX20 ++ wsX40)
def wsX5_pass_r1 : List Cond := [Cond.fieldLink RX5 55 "MirrorNet" "now" "I", Cond.methodLink RX5 47 yX5_isWithin, Cond.static yX5_isWithin, Cond.initialized RX5, Cond.code yX5_isWithin cX5_isWithin 3 (some .boolean), Cond.methodLink RX5 110 yX5_stepAll, Cond.instanceMethod yX5_stepAll, Cond.selects RX5 yX5_stepAll yX5_stepAll, Cond.code yX5_stepAll cX5_stepAll 5 none, Cond.fieldLink RX5 19 "MirrorNet" "falls" "LMirrorNet$Falls;", Cond.fieldLink RX5 90 "MirrorNet" "mirrorCount" "I", Cond.fieldLink RX5 12 "MirrorNet" "shelf" "LMirrorNet$Shelf;", Cond.instanceMethod yX2_downAt, Cond.initialized RX2, Cond.selects RX2 yX2_downAt yX2_downAt, Cond.code yX2_downAt cX2_downAt 4 (some .int), Cond.fieldLink RX2 21 "MirrorNet$Falls" "told" "I", Cond.fieldLink RX2 15 "MirrorNet$Falls" "firsts" "[I", Cond.fieldLink RX2 18 "MirrorNet$Falls" "lasts" "[I", Cond.fieldLink RX2 9 "MirrorNet$Falls" "who" "[I", Cond.methodLink RX5 96 yX5_mirrorAt, Cond.instanceMethod yX5_mirrorAt, Cond.selects RX5 yX5_mirrorAt yX5_mirrorAt, Cond.code yX5_mirrorAt cX5_mirrorAt 2 (some (.object "MirrorNet$Mirror"))]
def wsX5_pass_r2 : List Cond := [Cond.fieldLink RX5 25 "MirrorNet" "mirrors" "[LMirrorNet$Mirror;", Cond.methodLink RX5 137 yX5_isIn, Cond.static yX5_isIn, Cond.code yX5_isIn cX5_isIn 2 (some .boolean), Cond.instanceMethod yX4_latestState, Cond.initialized RX4, Cond.selects RX4 yX4_latestState yX4_latestState, Cond.code yX4_latestState cX4_latestState 1 (some .int), Cond.fieldLink RX4 34 "MirrorNet$Shelf" "stateCount" "I", Cond.instanceMethod yX4_allFiles, Cond.selects RX4 yX4_allFiles yX4_allFiles, Cond.code yX4_allFiles cX4_allFiles 1 (some .long), Cond.fieldLink RX4 38 "MirrorNet$Shelf" "fileCount" "I", Cond.instanceMethod yX3_step, Cond.initialized RX3, Cond.selects RX3 yX3_step yX3_step, Cond.code yX3_step cX3_step 5 none, Cond.fieldLink RX3 31 "MirrorNet$Mirror" "target" "I", Cond.fieldLink RX3 60 "MirrorNet$Mirror" "index" "I", Cond.methodLink RX3 63 yX3_copyFiles, Cond.instanceMethod yX3_copyFiles, Cond.selects RX3 yX3_copyFiles yX3_copyFiles, Cond.code yX3_copyFiles cX3_copyFiles 9 none, Cond.fieldLink RX3 15 "MirrorNet$Mirror" "bytesATick" "I"]
def wsX5_pass_r3 : List Cond := [Cond.fieldLink RX3 57 "MirrorNet$Mirror" "done" "I", Cond.methodLink RX3 49 yX3_missing, Cond.instanceMethod yX3_missing, Cond.selects RX3 yX3_missing yX3_missing, Cond.code yX3_missing cX3_missing 2 (some .long), Cond.fieldLink RX3 34 "MirrorNet$Mirror" "files" "J", Cond.constantLong RX3 47 (-1), Cond.instanceMethod yX4_filesOf, Cond.selects RX4 yX4_filesOf yX4_filesOf, Cond.code yX4_filesOf cX4_filesOf 2 (some .long), Cond.fieldLink RX4 21 "MirrorNet$Shelf" "stateFiles" "[J", Cond.methodLink RX4 82 yX4_hasState, Cond.instanceMethod yX4_hasState, Cond.selects RX4 yX4_hasState yX4_hasState, Cond.code yX4_hasState cX4_hasState 2 (some .boolean), Cond.static yX5_leastOf, Cond.code yX5_leastOf cX5_leastOf 2 (some .int), Cond.methodLink RX5 123 yJ13_bitCount_95d88, Cond.static yJ13_bitCount_95d88, Cond.initialized RJ13, Cond.code yJ13_bitCount_95d88 cJ13_bitCount_95d88 2 (some .int), Cond.constantLong RJ13 314 (6148914691236517205), Cond.constantLong RJ13 316 (3689348814741910323), Cond.constantLong RJ13 318 (1085102592571150095)]
def wsX5_pass_r4 : List Cond := [Cond.static yX5_bitOf, Cond.code yX5_bitOf cX5_bitOf 1 (some .long), Cond.instanceMethod yX4_sizeOf, Cond.selects RX4 yX4_sizeOf yX4_sizeOf, Cond.code yX4_sizeOf cX4_sizeOf 2 (some .int), Cond.fieldLink RX4 9 "MirrorNet$Shelf" "sizes" "[I", Cond.methodLink RX4 73 yX4_hasFile, Cond.instanceMethod yX4_hasFile, Cond.selects RX4 yX4_hasFile yX4_hasFile, Cond.code yX4_hasFile cX4_hasFile 2 (some .boolean), Cond.methodLink RX3 81 yX3_takeBytes, Cond.instanceMethod yX3_takeBytes, Cond.selects RX3 yX3_takeBytes yX3_takeBytes, Cond.code yX3_takeBytes cX3_takeBytes 5 (some .int), Cond.methodLink RX3 85 Lib.Math.min.name, Cond.static Lib.Math.min.name, Cond.initialized "java/lang/Math", Cond.code Lib.Math.min.name Lib.Math.min.code 2 (some .int), Cond.fieldLink RX3 91 "MirrorNet$Mirror" "taken" "I", Cond.methodLink RX3 67 yX3_takeIndex, Cond.instanceMethod yX3_takeIndex, Cond.selects RX3 yX3_takeIndex yX3_takeIndex, Cond.code yX3_takeIndex cX3_takeIndex 2 none, Cond.fieldLink RX3 21 "MirrorNet$Mirror" "earlier" "[I"]
def wsX5_pass_r5 : List Cond := [Cond.methodLink RX3 70 yX3_dropOld, Cond.instanceMethod yX3_dropOld, Cond.selects RX3 yX3_dropOld yX3_dropOld, Cond.code yX3_dropOld cX3_dropOld 5 none, Cond.fieldLink RX3 18 "MirrorNet$Mirror" "keep" "I"]
def wsX5_pass : List Cond := .code yX5_pass cX5_pass 3 (some .int) :: ((wsX5_pass_r1 ++ (wsX5_pass_r2 ++ (wsX5_pass_r3 ++ (wsX5_pass_r4 ++ wsX5_pass_r5)))) ++ wsX50 ++ wsX30 ++ wsX20 ++ wsX40)
def wsX5_about_r1 : List Cond := [Cond.fieldLink RX5 12 "MirrorNet" "shelf" "LMirrorNet$Shelf;", Cond.fieldLink RX5 19 "MirrorNet" "falls" "LMirrorNet$Falls;", Cond.fieldLink RX5 55 "MirrorNet" "now" "I", Cond.methodLink RX5 96 yX5_mirrorAt, Cond.instanceMethod yX5_mirrorAt, Cond.selects RX5 yX5_mirrorAt yX5_mirrorAt, Cond.initialized RX5, Cond.code yX5_mirrorAt cX5_mirrorAt 2 (some (.object "MirrorNet$Mirror")), Cond.fieldLink RX5 90 "MirrorNet" "mirrorCount" "I", Cond.fieldLink RX5 25 "MirrorNet" "mirrors" "[LMirrorNet$Mirror;", Cond.methodLink RX5 47 yX5_isWithin, Cond.static yX5_isWithin, Cond.code yX5_isWithin cX5_isWithin 3 (some .boolean), Cond.methodLink RX5 123 yJ13_bitCount_95d88, Cond.static yJ13_bitCount_95d88, Cond.initialized RJ13, Cond.code yJ13_bitCount_95d88 cJ13_bitCount_95d88 2 (some .int), Cond.constantLong RJ13 314 (6148914691236517205), Cond.constantLong RJ13 316 (3689348814741910323), Cond.constantLong RJ13 318 (1085102592571150095), Cond.instanceMethod yX4_bytesOf, Cond.initialized RX4, Cond.selects RX4 yX4_bytesOf yX4_bytesOf, Cond.code yX4_bytesOf cX4_bytesOf 5 (some .int)]
def wsX5_about_r2 : List Cond := [Cond.fieldLink RX4 38 "MirrorNet$Shelf" "fileCount" "I", Cond.fieldLink RX4 9 "MirrorNet$Shelf" "sizes" "[I", Cond.static yX5_bitOf, Cond.code yX5_bitOf cX5_bitOf 1 (some .long), Cond.instanceMethod yX2_downAt, Cond.initialized RX2, Cond.selects RX2 yX2_downAt yX2_downAt, Cond.code yX2_downAt cX2_downAt 4 (some .int), Cond.fieldLink RX2 21 "MirrorNet$Falls" "told" "I", Cond.fieldLink RX2 15 "MirrorNet$Falls" "firsts" "[I", Cond.fieldLink RX2 18 "MirrorNet$Falls" "lasts" "[I", Cond.fieldLink RX2 9 "MirrorNet$Falls" "who" "[I", Cond.methodLink RX5 137 yX5_isIn, Cond.static yX5_isIn, Cond.code yX5_isIn cX5_isIn 2 (some .boolean), Cond.instanceMethod yX3_bytesWanted, Cond.initialized RX3, Cond.selects RX3 yX3_bytesWanted yX3_bytesWanted, Cond.code yX3_bytesWanted cX3_bytesWanted 2 (some .int), Cond.fieldLink RX3 31 "MirrorNet$Mirror" "target" "I", Cond.fieldLink RX3 57 "MirrorNet$Mirror" "done" "I", Cond.methodLink RX3 49 yX3_missing, Cond.instanceMethod yX3_missing, Cond.selects RX3 yX3_missing yX3_missing]
def wsX5_about_r3 : List Cond := [Cond.code yX3_missing cX3_missing 2 (some .long), Cond.fieldLink RX3 34 "MirrorNet$Mirror" "files" "J", Cond.constantLong RX3 47 (-1), Cond.instanceMethod yX4_filesOf, Cond.selects RX4 yX4_filesOf yX4_filesOf, Cond.code yX4_filesOf cX4_filesOf 2 (some .long), Cond.fieldLink RX4 21 "MirrorNet$Shelf" "stateFiles" "[J", Cond.methodLink RX4 82 yX4_hasState, Cond.instanceMethod yX4_hasState, Cond.selects RX4 yX4_hasState yX4_hasState, Cond.code yX4_hasState cX4_hasState 2 (some .boolean), Cond.fieldLink RX4 34 "MirrorNet$Shelf" "stateCount" "I"]
def wsX5_about : List Cond := .code yX5_about cX5_about 4 (some .int) :: ((wsX5_about_r1 ++ (wsX5_about_r2 ++ wsX5_about_r3)) ++ wsX30 ++ wsX50 ++ wsX40 ++ wsX20)
def wsX5_has : List Cond := .code yX5_has cX5_has 4 (some .int) :: ([.fieldLink RX5 12 "MirrorNet" "shelf" "LMirrorNet$Shelf;", .methodLink RX5 96 yX5_mirrorAt, .instanceMethod yX5_mirrorAt, .selects RX5 yX5_mirrorAt yX5_mirrorAt, .initialized RX5, .code yX5_mirrorAt cX5_mirrorAt 2 (some (.object "MirrorNet$Mirror")), .fieldLink RX5 90 "MirrorNet" "mirrorCount" "I", .fieldLink RX5 25 "MirrorNet" "mirrors" "[LMirrorNet$Mirror;", .methodLink RX5 47 yX5_isWithin, .static yX5_isWithin, .code yX5_isWithin cX5_isWithin 3 (some .boolean), .instanceMethod yX4_hasFile, .initialized RX4, .selects RX4 yX4_hasFile yX4_hasFile, .code yX4_hasFile cX4_hasFile 2 (some .boolean), .fieldLink RX4 38 "MirrorNet$Shelf" "fileCount" "I", .instanceMethod yX3_holds, .initialized RX3, .selects RX3 yX3_holds yX3_holds, .code yX3_holds cX3_holds 2 (some .boolean), .fieldLink RX3 34 "MirrorNet$Mirror" "files" "J", .static yX5_bitOf, .code yX5_bitOf cX5_bitOf 1 (some .long)] ++ wsX50 ++ wsX40 ++ wsX30)
def wsX5_askerAt : List Cond := .code yX5_askerAt cX5_askerAt 2 (some (.object "MirrorNet$Asker")) :: ([.fieldLink RX5 31 "MirrorNet" "askers" "[LMirrorNet$Asker;", .methodLink RX5 47 yX5_isWithin, .static yX5_isWithin, .initialized RX5, .code yX5_isWithin cX5_isWithin 3 (some .boolean)] ++ wsX50)
def wsX5_cost : List Cond := .code yX5_cost cX5_cost 6 (some .int) :: ([.methodLink RX5 151 yX5_askerAt, .instanceMethod yX5_askerAt, .selects RX5 yX5_askerAt yX5_askerAt, .initialized RX5, .code yX5_askerAt cX5_askerAt 2 (some (.object "MirrorNet$Asker")), .fieldLink RX5 31 "MirrorNet" "askers" "[LMirrorNet$Asker;", .methodLink RX5 47 yX5_isWithin, .static yX5_isWithin, .code yX5_isWithin cX5_isWithin 3 (some .boolean), .methodLink RX5 96 yX5_mirrorAt, .instanceMethod yX5_mirrorAt, .selects RX5 yX5_mirrorAt yX5_mirrorAt, .code yX5_mirrorAt cX5_mirrorAt 2 (some (.object "MirrorNet$Mirror")), .fieldLink RX5 90 "MirrorNet" "mirrorCount" "I", .fieldLink RX5 25 "MirrorNet" "mirrors" "[LMirrorNet$Mirror;", .instanceMethod yX0_costOf, .initialized RX0, .selects RX0 yX0_costOf yX0_costOf, .code yX0_costOf cX0_costOf 2 (some .int), .fieldLink RX0 9 "MirrorNet$Asker" "costs" "[I", .instanceMethod yX0_setCost, .selects RX0 yX0_setCost yX0_setCost, .code yX0_setCost cX0_setCost 3 none] ++ wsX50 ++ wsX00)
def wsX5_bears : List Cond := .code yX5_bears cX5_bears 5 (some .int) :: ([.methodLink RX5 151 yX5_askerAt, .instanceMethod yX5_askerAt, .selects RX5 yX5_askerAt yX5_askerAt, .initialized RX5, .code yX5_askerAt cX5_askerAt 2 (some (.object "MirrorNet$Asker")), .fieldLink RX5 31 "MirrorNet" "askers" "[LMirrorNet$Asker;", .methodLink RX5 47 yX5_isWithin, .static yX5_isWithin, .code yX5_isWithin cX5_isWithin 3 (some .boolean)] ++ wsX00 ++ wsX50)
def wsX5_grace : List Cond := .code yX5_grace cX5_grace 3 (some .int) :: ([.fieldLink RX5 43 "MirrorNet" "graceTicks" "I", .methodLink RX5 47 yX5_isWithin, .static yX5_isWithin, .initialized RX5, .code yX5_isWithin cX5_isWithin 3 (some .boolean)] ++ wsX50)
def wsJ6_bitCount_0f7a4 : List Cond := .code yJ6_bitCount_0f7a4 cJ6_bitCount_0f7a4 1 (some .int) :: ([.constant RJ6 265 (1431655765), .constant RJ6 266 (858993459), .constant RJ6 267 (252645135)])
def wsX5_forgives : List Cond := .code yX5_forgives cX5_forgives 4 (some .int) :: ([.methodLink RX5 151 yX5_askerAt, .instanceMethod yX5_askerAt, .selects RX5 yX5_askerAt yX5_askerAt, .initialized RX5, .code yX5_askerAt cX5_askerAt 2 (some (.object "MirrorNet$Asker")), .fieldLink RX5 31 "MirrorNet" "askers" "[LMirrorNet$Asker;", .methodLink RX5 47 yX5_isWithin, .static yX5_isWithin, .code yX5_isWithin cX5_isWithin 3 (some .boolean), .methodLink RX5 168 yJ6_bitCount_0f7a4, .static yJ6_bitCount_0f7a4, .initialized RJ6, .code yJ6_bitCount_0f7a4 cJ6_bitCount_0f7a4 1 (some .int), .constant RJ6 265 (1431655765), .constant RJ6 266 (858993459), .constant RJ6 267 (252645135)] ++ wsX00 ++ wsX50)
def wsX5_suits_r1 : List Cond := [Cond.fieldLink RX5 12 "MirrorNet" "shelf" "LMirrorNet$Shelf;", Cond.fieldLink RX5 55 "MirrorNet" "now" "I", Cond.fieldLink RX5 43 "MirrorNet" "graceTicks" "I", Cond.instanceMethod yX4_ageOf, Cond.initialized RX4, Cond.selects RX4 yX4_ageOf yX4_ageOf, Cond.code yX4_ageOf cX4_ageOf 3 (some .int), Cond.fieldLink RX4 18 "MirrorNet$Shelf" "stateTicks" "[I", Cond.methodLink RX4 82 yX4_hasState, Cond.instanceMethod yX4_hasState, Cond.selects RX4 yX4_hasState yX4_hasState, Cond.code yX4_hasState cX4_hasState 2 (some .boolean), Cond.fieldLink RX4 34 "MirrorNet$Shelf" "stateCount" "I", Cond.instanceMethod yX4_namesLongYanked, Cond.selects RX4 yX4_namesLongYanked yX4_namesLongYanked, Cond.code yX4_namesLongYanked cX4_namesLongYanked 7 (some .boolean), Cond.fieldLink RX4 65 "MirrorNet$Shelf" "yanked" "J", Cond.fieldLink RX4 38 "MirrorNet$Shelf" "fileCount" "I", Cond.fieldLink RX4 15 "MirrorNet$Shelf" "yankTicks" "[I", Cond.methodLink RX4 89 yX4_filesOf, Cond.instanceMethod yX4_filesOf, Cond.selects RX4 yX4_filesOf yX4_filesOf, Cond.code yX4_filesOf cX4_filesOf 2 (some .long), Cond.fieldLink RX4 21 "MirrorNet$Shelf" "stateFiles" "[J"]
def wsX5_suits_r2 : List Cond := [Cond.static yX5_bitOf, Cond.initialized RX5, Cond.code yX5_bitOf cX5_bitOf 1 (some .long), Cond.methodLink RX5 47 yX5_isWithin, Cond.static yX5_isWithin, Cond.code yX5_isWithin cX5_isWithin 3 (some .boolean)]
def wsX5_suits : List Cond := .code yX5_suits cX5_suits 4 (some .boolean) :: ((wsX5_suits_r1 ++ wsX5_suits_r2) ++ wsX50 ++ wsX40)
def wsX5_findIndex_r1 : List Cond := [Cond.fieldLink RX5 39 "MirrorNet" "latest" "LMirrorNet$Asking;", Cond.instanceMethod yX0_inLine, Cond.initialized RX0, Cond.selects RX0 yX0_inLine yX0_inLine, Cond.code yX0_inLine cX0_inLine 2 (some .int), Cond.fieldLink RX0 42 "MirrorNet$Asker" "lineLength" "I", Cond.fieldLink RX0 21 "MirrorNet$Asker" "line" "[I", Cond.static yX5_isWithin, Cond.initialized RX5, Cond.code yX5_isWithin cX5_isWithin 3 (some .boolean), Cond.methodLink RX5 96 yX5_mirrorAt, Cond.instanceMethod yX5_mirrorAt, Cond.selects RX5 yX5_mirrorAt yX5_mirrorAt, Cond.code yX5_mirrorAt cX5_mirrorAt 2 (some (.object "MirrorNet$Mirror")), Cond.fieldLink RX5 90 "MirrorNet" "mirrorCount" "I", Cond.fieldLink RX5 25 "MirrorNet" "mirrors" "[LMirrorNet$Mirror;", Cond.methodLink RX5 47 yX5_isWithin, Cond.instanceMethod yX0_knowsAsBad, Cond.selects RX0 yX0_knowsAsBad yX0_knowsAsBad, Cond.code yX0_knowsAsBad cX0_knowsAsBad 2 (some .boolean), Cond.fieldLink RX0 35 "MirrorNet$Asker" "bad" "I", Cond.static yX5_isIn, Cond.code yX5_isIn cX5_isIn 2 (some .boolean), Cond.instanceMethod yX0_costOf]
def wsX5_findIndex_r2 : List Cond := [Cond.selects RX0 yX0_costOf yX0_costOf, Cond.code yX0_costOf cX0_costOf 2 (some .int), Cond.fieldLink RX0 9 "MirrorNet$Asker" "costs" "[I", Cond.instanceMethod yX1_spend, Cond.initialized RX1, Cond.selects RX1 yX1_spend yX1_spend, Cond.code yX1_spend cX1_spend 2 none, Cond.fieldLink RX1 29 "MirrorNet$Asking" "spent" "I", Cond.fieldLink RX1 32 "MirrorNet$Asking" "askings" "I", Cond.methodLink RX5 137 yX5_isIn, Cond.instanceMethod yX0_markBad, Cond.selects RX0 yX0_markBad yX0_markBad, Cond.code yX0_markBad cX0_markBad 2 none, Cond.methodLink RX5 264 yX5_suits, Cond.instanceMethod yX5_suits, Cond.selects RX5 yX5_suits yX5_suits, Cond.code yX5_suits cX5_suits 4 (some .boolean), Cond.fieldLink RX5 12 "MirrorNet" "shelf" "LMirrorNet$Shelf;", Cond.fieldLink RX5 55 "MirrorNet" "now" "I", Cond.fieldLink RX5 43 "MirrorNet" "graceTicks" "I", Cond.instanceMethod yX4_ageOf, Cond.initialized RX4, Cond.selects RX4 yX4_ageOf yX4_ageOf, Cond.code yX4_ageOf cX4_ageOf 3 (some .int)]
def wsX5_findIndex_r3 : List Cond := [Cond.fieldLink RX4 18 "MirrorNet$Shelf" "stateTicks" "[I", Cond.methodLink RX4 82 yX4_hasState, Cond.instanceMethod yX4_hasState, Cond.selects RX4 yX4_hasState yX4_hasState, Cond.code yX4_hasState cX4_hasState 2 (some .boolean), Cond.fieldLink RX4 34 "MirrorNet$Shelf" "stateCount" "I", Cond.instanceMethod yX4_namesLongYanked, Cond.selects RX4 yX4_namesLongYanked yX4_namesLongYanked, Cond.code yX4_namesLongYanked cX4_namesLongYanked 7 (some .boolean), Cond.fieldLink RX4 65 "MirrorNet$Shelf" "yanked" "J", Cond.fieldLink RX4 38 "MirrorNet$Shelf" "fileCount" "I", Cond.fieldLink RX4 15 "MirrorNet$Shelf" "yankTicks" "[I", Cond.methodLink RX4 89 yX4_filesOf, Cond.instanceMethod yX4_filesOf, Cond.selects RX4 yX4_filesOf yX4_filesOf, Cond.code yX4_filesOf cX4_filesOf 2 (some .long), Cond.fieldLink RX4 21 "MirrorNet$Shelf" "stateFiles" "[J", Cond.static yX5_bitOf, Cond.code yX5_bitOf cX5_bitOf 1 (some .long)]
def wsX5_findIndex : List Cond := .code yX5_findIndex cX5_findIndex 6 (some .int) :: ((wsX5_findIndex_r1 ++ (wsX5_findIndex_r2 ++ wsX5_findIndex_r3)) ++ wsX00 ++ wsX50 ++ wsX30 ++ wsX10 ++ wsX40)
def wsX5_firstNotNamed : List Cond := .code yX5_firstNotNamed cX5_firstNotNamed 4 (some .int) :: ([.fieldLink RX5 12 "MirrorNet" "shelf" "LMirrorNet$Shelf;", .methodLink RX5 137 yX5_isIn, .static yX5_isIn, .initialized RX5, .code yX5_isIn cX5_isIn 2 (some .boolean), .methodLink RX5 47 yX5_isWithin, .static yX5_isWithin, .code yX5_isWithin cX5_isWithin 3 (some .boolean), .instanceMethod yX4_namedBy, .initialized RX4, .selects RX4 yX4_namedBy yX4_namedBy, .code yX4_namedBy cX4_namedBy 3 (some .int), .fieldLink RX4 25 "MirrorNet$Shelf" "named" "[I", .methodLink RX4 82 yX4_hasState, .instanceMethod yX4_hasState, .selects RX4 yX4_hasState yX4_hasState, .code yX4_hasState cX4_hasState 2 (some .boolean), .fieldLink RX4 34 "MirrorNet$Shelf" "stateCount" "I"] ++ wsX50 ++ wsX40)
def wsX5_findGiver_r1 : List Cond := [Cond.fieldLink RX5 39 "MirrorNet" "latest" "LMirrorNet$Asking;", Cond.instanceMethod yX0_inLine, Cond.initialized RX0, Cond.selects RX0 yX0_inLine yX0_inLine, Cond.code yX0_inLine cX0_inLine 2 (some .int), Cond.fieldLink RX0 42 "MirrorNet$Asker" "lineLength" "I", Cond.fieldLink RX0 21 "MirrorNet$Asker" "line" "[I", Cond.static yX5_isWithin, Cond.initialized RX5, Cond.code yX5_isWithin cX5_isWithin 3 (some .boolean), Cond.methodLink RX5 96 yX5_mirrorAt, Cond.instanceMethod yX5_mirrorAt, Cond.selects RX5 yX5_mirrorAt yX5_mirrorAt, Cond.code yX5_mirrorAt cX5_mirrorAt 2 (some (.object "MirrorNet$Mirror")), Cond.fieldLink RX5 90 "MirrorNet" "mirrorCount" "I", Cond.fieldLink RX5 25 "MirrorNet" "mirrors" "[LMirrorNet$Mirror;", Cond.methodLink RX5 47 yX5_isWithin, Cond.instanceMethod yX0_knowsAsBad, Cond.selects RX0 yX0_knowsAsBad yX0_knowsAsBad, Cond.code yX0_knowsAsBad cX0_knowsAsBad 2 (some .boolean), Cond.fieldLink RX0 35 "MirrorNet$Asker" "bad" "I", Cond.static yX5_isIn, Cond.code yX5_isIn cX5_isIn 2 (some .boolean), Cond.instanceMethod yX0_costOf]
def wsX5_findGiver_r2 : List Cond := [Cond.selects RX0 yX0_costOf yX0_costOf, Cond.code yX0_costOf cX0_costOf 2 (some .int), Cond.fieldLink RX0 9 "MirrorNet$Asker" "costs" "[I", Cond.instanceMethod yX1_spend, Cond.initialized RX1, Cond.selects RX1 yX1_spend yX1_spend, Cond.code yX1_spend cX1_spend 2 none, Cond.fieldLink RX1 29 "MirrorNet$Asking" "spent" "I", Cond.fieldLink RX1 32 "MirrorNet$Asking" "askings" "I", Cond.methodLink RX5 137 yX5_isIn, Cond.instanceMethod yX3_holds, Cond.initialized RX3, Cond.selects RX3 yX3_holds yX3_holds, Cond.code yX3_holds cX3_holds 2 (some .boolean), Cond.fieldLink RX3 34 "MirrorNet$Mirror" "files" "J", Cond.static yX5_bitOf, Cond.code yX5_bitOf cX5_bitOf 1 (some .long), Cond.instanceMethod yX0_markBad, Cond.selects RX0 yX0_markBad yX0_markBad, Cond.code yX0_markBad cX0_markBad 2 none]
def wsX5_findGiver : List Cond := .code yX5_findGiver cX5_findGiver 7 (some .int) :: ((wsX5_findGiver_r1 ++ wsX5_findGiver_r2) ++ wsX00 ++ wsX50 ++ wsX30 ++ wsX10)
def wsX5_getFiles_r1 : List Cond := [Cond.fieldLink RX5 12 "MirrorNet" "shelf" "LMirrorNet$Shelf;", Cond.fieldLink RX5 39 "MirrorNet" "latest" "LMirrorNet$Asking;", Cond.methodLink RX5 137 yX5_isIn, Cond.static yX5_isIn, Cond.initialized RX5, Cond.code yX5_isIn cX5_isIn 2 (some .boolean), Cond.methodLink RX5 47 yX5_isWithin, Cond.static yX5_isWithin, Cond.code yX5_isWithin cX5_isWithin 3 (some .boolean), Cond.instanceMethod yX4_namedBy, Cond.initialized RX4, Cond.selects RX4 yX4_namedBy yX4_namedBy, Cond.code yX4_namedBy cX4_namedBy 3 (some .int), Cond.fieldLink RX4 25 "MirrorNet$Shelf" "named" "[I", Cond.methodLink RX4 82 yX4_hasState, Cond.instanceMethod yX4_hasState, Cond.selects RX4 yX4_hasState yX4_hasState, Cond.code yX4_hasState cX4_hasState 2 (some .boolean), Cond.fieldLink RX4 34 "MirrorNet$Shelf" "stateCount" "I", Cond.methodLink RX5 270 yX5_findGiver, Cond.instanceMethod yX5_findGiver, Cond.selects RX5 yX5_findGiver yX5_findGiver, Cond.code yX5_findGiver cX5_findGiver 7 (some .int), Cond.instanceMethod yX0_inLine]
def wsX5_getFiles_r2 : List Cond := [Cond.initialized RX0, Cond.selects RX0 yX0_inLine yX0_inLine, Cond.code yX0_inLine cX0_inLine 2 (some .int), Cond.fieldLink RX0 42 "MirrorNet$Asker" "lineLength" "I", Cond.fieldLink RX0 21 "MirrorNet$Asker" "line" "[I", Cond.methodLink RX5 96 yX5_mirrorAt, Cond.instanceMethod yX5_mirrorAt, Cond.selects RX5 yX5_mirrorAt yX5_mirrorAt, Cond.code yX5_mirrorAt cX5_mirrorAt 2 (some (.object "MirrorNet$Mirror")), Cond.fieldLink RX5 90 "MirrorNet" "mirrorCount" "I", Cond.fieldLink RX5 25 "MirrorNet" "mirrors" "[LMirrorNet$Mirror;", Cond.instanceMethod yX0_knowsAsBad, Cond.selects RX0 yX0_knowsAsBad yX0_knowsAsBad, Cond.code yX0_knowsAsBad cX0_knowsAsBad 2 (some .boolean), Cond.fieldLink RX0 35 "MirrorNet$Asker" "bad" "I", Cond.instanceMethod yX0_costOf, Cond.selects RX0 yX0_costOf yX0_costOf, Cond.code yX0_costOf cX0_costOf 2 (some .int), Cond.fieldLink RX0 9 "MirrorNet$Asker" "costs" "[I", Cond.instanceMethod yX1_spend, Cond.initialized RX1, Cond.selects RX1 yX1_spend yX1_spend, Cond.code yX1_spend cX1_spend 2 none, Cond.fieldLink RX1 29 "MirrorNet$Asking" "spent" "I"]
def wsX5_getFiles_r3 : List Cond := [Cond.fieldLink RX1 32 "MirrorNet$Asking" "askings" "I", Cond.instanceMethod yX3_holds, Cond.initialized RX3, Cond.selects RX3 yX3_holds yX3_holds, Cond.code yX3_holds cX3_holds 2 (some .boolean), Cond.fieldLink RX3 34 "MirrorNet$Mirror" "files" "J", Cond.static yX5_bitOf, Cond.code yX5_bitOf cX5_bitOf 1 (some .long), Cond.instanceMethod yX0_markBad, Cond.selects RX0 yX0_markBad yX0_markBad, Cond.code yX0_markBad cX0_markBad 2 none, Cond.instanceMethod yX1_keepGot, Cond.selects RX1 yX1_keepGot yX1_keepGot, Cond.code yX1_keepGot cX1_keepGot 4 none, Cond.fieldLink RX1 35 "MirrorNet$Asking" "gotCount" "I", Cond.fieldLink RX1 9 "MirrorNet$Asking" "gotFiles" "[I", Cond.fieldLink RX1 15 "MirrorNet$Asking" "gotPackages" "[I", Cond.fieldLink RX1 18 "MirrorNet$Asking" "gotMirrors" "[I"]
def wsX5_getFiles : List Cond := .code yX5_getFiles cX5_getFiles 7 (some .int) :: ((wsX5_getFiles_r1 ++ (wsX5_getFiles_r2 ++ wsX5_getFiles_r3)) ++ wsX50 ++ wsX10 ++ wsX40 ++ wsX00 ++ wsX30)
def wsX5_carryOut_r1 : List Cond := [Cond.fieldLink RX5 39 "MirrorNet" "latest" "LMirrorNet$Asking;", Cond.methodLink RX5 238 yX5_findIndex, Cond.instanceMethod yX5_findIndex, Cond.selects RX5 yX5_findIndex yX5_findIndex, Cond.initialized RX5, Cond.code yX5_findIndex cX5_findIndex 6 (some .int), Cond.instanceMethod yX0_inLine, Cond.initialized RX0, Cond.selects RX0 yX0_inLine yX0_inLine, Cond.code yX0_inLine cX0_inLine 2 (some .int), Cond.fieldLink RX0 42 "MirrorNet$Asker" "lineLength" "I", Cond.fieldLink RX0 21 "MirrorNet$Asker" "line" "[I", Cond.static yX5_isWithin, Cond.code yX5_isWithin cX5_isWithin 3 (some .boolean), Cond.methodLink RX5 96 yX5_mirrorAt, Cond.instanceMethod yX5_mirrorAt, Cond.selects RX5 yX5_mirrorAt yX5_mirrorAt, Cond.code yX5_mirrorAt cX5_mirrorAt 2 (some (.object "MirrorNet$Mirror")), Cond.fieldLink RX5 90 "MirrorNet" "mirrorCount" "I", Cond.fieldLink RX5 25 "MirrorNet" "mirrors" "[LMirrorNet$Mirror;", Cond.methodLink RX5 47 yX5_isWithin, Cond.instanceMethod yX0_knowsAsBad, Cond.selects RX0 yX0_knowsAsBad yX0_knowsAsBad, Cond.code yX0_knowsAsBad cX0_knowsAsBad 2 (some .boolean)]
def wsX5_carryOut_r2 : List Cond := [Cond.fieldLink RX0 35 "MirrorNet$Asker" "bad" "I", Cond.static yX5_isIn, Cond.code yX5_isIn cX5_isIn 2 (some .boolean), Cond.instanceMethod yX0_costOf, Cond.selects RX0 yX0_costOf yX0_costOf, Cond.code yX0_costOf cX0_costOf 2 (some .int), Cond.fieldLink RX0 9 "MirrorNet$Asker" "costs" "[I", Cond.instanceMethod yX1_spend, Cond.initialized RX1, Cond.selects RX1 yX1_spend yX1_spend, Cond.code yX1_spend cX1_spend 2 none, Cond.fieldLink RX1 29 "MirrorNet$Asking" "spent" "I", Cond.fieldLink RX1 32 "MirrorNet$Asking" "askings" "I", Cond.methodLink RX5 137 yX5_isIn, Cond.instanceMethod yX0_markBad, Cond.selects RX0 yX0_markBad yX0_markBad, Cond.code yX0_markBad cX0_markBad 2 none, Cond.methodLink RX5 264 yX5_suits, Cond.instanceMethod yX5_suits, Cond.selects RX5 yX5_suits yX5_suits, Cond.code yX5_suits cX5_suits 4 (some .boolean), Cond.fieldLink RX5 12 "MirrorNet" "shelf" "LMirrorNet$Shelf;", Cond.fieldLink RX5 55 "MirrorNet" "now" "I", Cond.fieldLink RX5 43 "MirrorNet" "graceTicks" "I"]
def wsX5_carryOut_r3 : List Cond := [Cond.instanceMethod yX4_ageOf, Cond.initialized RX4, Cond.selects RX4 yX4_ageOf yX4_ageOf, Cond.code yX4_ageOf cX4_ageOf 3 (some .int), Cond.fieldLink RX4 18 "MirrorNet$Shelf" "stateTicks" "[I", Cond.methodLink RX4 82 yX4_hasState, Cond.instanceMethod yX4_hasState, Cond.selects RX4 yX4_hasState yX4_hasState, Cond.code yX4_hasState cX4_hasState 2 (some .boolean), Cond.fieldLink RX4 34 "MirrorNet$Shelf" "stateCount" "I", Cond.instanceMethod yX4_namesLongYanked, Cond.selects RX4 yX4_namesLongYanked yX4_namesLongYanked, Cond.code yX4_namesLongYanked cX4_namesLongYanked 7 (some .boolean), Cond.fieldLink RX4 65 "MirrorNet$Shelf" "yanked" "J", Cond.fieldLink RX4 38 "MirrorNet$Shelf" "fileCount" "I", Cond.fieldLink RX4 15 "MirrorNet$Shelf" "yankTicks" "[I", Cond.methodLink RX4 89 yX4_filesOf, Cond.instanceMethod yX4_filesOf, Cond.selects RX4 yX4_filesOf yX4_filesOf, Cond.code yX4_filesOf cX4_filesOf 2 (some .long), Cond.fieldLink RX4 21 "MirrorNet$Shelf" "stateFiles" "[J", Cond.static yX5_bitOf, Cond.code yX5_bitOf cX5_bitOf 1 (some .long), Cond.methodLink RX5 242 yX5_firstNotNamed]
def wsX5_carryOut_r4 : List Cond := [Cond.instanceMethod yX5_firstNotNamed, Cond.selects RX5 yX5_firstNotNamed yX5_firstNotNamed, Cond.code yX5_firstNotNamed cX5_firstNotNamed 4 (some .int), Cond.instanceMethod yX4_namedBy, Cond.selects RX4 yX4_namedBy yX4_namedBy, Cond.code yX4_namedBy cX4_namedBy 3 (some .int), Cond.fieldLink RX4 25 "MirrorNet$Shelf" "named" "[I", Cond.methodLink RX5 245 yX5_getFiles, Cond.instanceMethod yX5_getFiles, Cond.selects RX5 yX5_getFiles yX5_getFiles, Cond.code yX5_getFiles cX5_getFiles 7 (some .int), Cond.methodLink RX5 270 yX5_findGiver, Cond.instanceMethod yX5_findGiver, Cond.selects RX5 yX5_findGiver yX5_findGiver, Cond.code yX5_findGiver cX5_findGiver 7 (some .int), Cond.instanceMethod yX3_holds, Cond.initialized RX3, Cond.selects RX3 yX3_holds yX3_holds, Cond.code yX3_holds cX3_holds 2 (some .boolean), Cond.fieldLink RX3 34 "MirrorNet$Mirror" "files" "J", Cond.instanceMethod yX1_keepGot, Cond.selects RX1 yX1_keepGot yX1_keepGot, Cond.code yX1_keepGot cX1_keepGot 4 none, Cond.fieldLink RX1 35 "MirrorNet$Asking" "gotCount" "I"]
def wsX5_carryOut_r5 : List Cond := [Cond.fieldLink RX1 9 "MirrorNet$Asking" "gotFiles" "[I", Cond.fieldLink RX1 15 "MirrorNet$Asking" "gotPackages" "[I", Cond.fieldLink RX1 18 "MirrorNet$Asking" "gotMirrors" "[I"]
def wsX5_carryOut : List Cond := .code yX5_carryOut cX5_carryOut 4 (some .int) :: ((wsX5_carryOut_r1 ++ (wsX5_carryOut_r2 ++ (wsX5_carryOut_r3 ++ (wsX5_carryOut_r4 ++ wsX5_carryOut_r5)))) ++ wsX50 ++ wsX10 ++ wsX00 ++ wsX30 ++ wsX40)
def wsX5_wouldAnswer : List Cond := .code yX5_wouldAnswer cX5_wouldAnswer 4 (some .boolean) :: ([.instanceMethod yX0_costOf, .initialized RX0, .selects RX0 yX0_costOf yX0_costOf, .code yX0_costOf cX0_costOf 2 (some .int), .fieldLink RX0 9 "MirrorNet$Asker" "costs" "[I", .static yX5_isWithin, .initialized RX5, .code yX5_isWithin cX5_isWithin 3 (some .boolean), .methodLink RX5 137 yX5_isIn, .static yX5_isIn, .code yX5_isIn cX5_isIn 2 (some .boolean), .methodLink RX5 47 yX5_isWithin] ++ wsX30 ++ wsX00)
def wsX5_leastForIndex_r1 : List Cond := [Cond.fieldLink RX5 90 "MirrorNet" "mirrorCount" "I", Cond.fieldLink RX5 12 "MirrorNet" "shelf" "LMirrorNet$Shelf;", Cond.fieldLink RX5 39 "MirrorNet" "latest" "LMirrorNet$Asking;", Cond.methodLink RX5 289 Lib.Math.min.name, Cond.static Lib.Math.min.name, Cond.initialized "java/lang/Math", Cond.code Lib.Math.min.name Lib.Math.min.code 2 (some .int), Cond.methodLink RX5 96 yX5_mirrorAt, Cond.instanceMethod yX5_mirrorAt, Cond.selects RX5 yX5_mirrorAt yX5_mirrorAt, Cond.initialized RX5, Cond.code yX5_mirrorAt cX5_mirrorAt 2 (some (.object "MirrorNet$Mirror")), Cond.fieldLink RX5 25 "MirrorNet" "mirrors" "[LMirrorNet$Mirror;", Cond.methodLink RX5 47 yX5_isWithin, Cond.static yX5_isWithin, Cond.code yX5_isWithin cX5_isWithin 3 (some .boolean), Cond.methodLink RX5 282 yX5_wouldAnswer, Cond.static yX5_wouldAnswer, Cond.code yX5_wouldAnswer cX5_wouldAnswer 4 (some .boolean), Cond.instanceMethod yX0_costOf, Cond.initialized RX0, Cond.selects RX0 yX0_costOf yX0_costOf, Cond.code yX0_costOf cX0_costOf 2 (some .int), Cond.fieldLink RX0 9 "MirrorNet$Asker" "costs" "[I"]
def wsX5_leastForIndex_r2 : List Cond := [Cond.methodLink RX5 137 yX5_isIn, Cond.static yX5_isIn, Cond.code yX5_isIn cX5_isIn 2 (some .boolean), Cond.methodLink RX5 264 yX5_suits, Cond.instanceMethod yX5_suits, Cond.selects RX5 yX5_suits yX5_suits, Cond.code yX5_suits cX5_suits 4 (some .boolean), Cond.fieldLink RX5 55 "MirrorNet" "now" "I", Cond.fieldLink RX5 43 "MirrorNet" "graceTicks" "I", Cond.instanceMethod yX4_ageOf, Cond.initialized RX4, Cond.selects RX4 yX4_ageOf yX4_ageOf, Cond.code yX4_ageOf cX4_ageOf 3 (some .int), Cond.fieldLink RX4 18 "MirrorNet$Shelf" "stateTicks" "[I", Cond.methodLink RX4 82 yX4_hasState, Cond.instanceMethod yX4_hasState, Cond.selects RX4 yX4_hasState yX4_hasState, Cond.code yX4_hasState cX4_hasState 2 (some .boolean), Cond.fieldLink RX4 34 "MirrorNet$Shelf" "stateCount" "I", Cond.instanceMethod yX4_namesLongYanked, Cond.selects RX4 yX4_namesLongYanked yX4_namesLongYanked, Cond.code yX4_namesLongYanked cX4_namesLongYanked 7 (some .boolean), Cond.fieldLink RX4 65 "MirrorNet$Shelf" "yanked" "J", Cond.fieldLink RX4 38 "MirrorNet$Shelf" "fileCount" "I"]
def wsX5_leastForIndex_r3 : List Cond := [Cond.fieldLink RX4 15 "MirrorNet$Shelf" "yankTicks" "[I", Cond.methodLink RX4 89 yX4_filesOf, Cond.instanceMethod yX4_filesOf, Cond.selects RX4 yX4_filesOf yX4_filesOf, Cond.code yX4_filesOf cX4_filesOf 2 (some .long), Cond.fieldLink RX4 21 "MirrorNet$Shelf" "stateFiles" "[J", Cond.static yX5_bitOf, Cond.code yX5_bitOf cX5_bitOf 1 (some .long), Cond.instanceMethod yX4_namesAlike, Cond.selects RX4 yX4_namesAlike yX4_namesAlike, Cond.code yX4_namesAlike cX4_namesAlike 5 (some .boolean), Cond.methodLink RX4 53 yX4_namedBy, Cond.instanceMethod yX4_namedBy, Cond.selects RX4 yX4_namedBy yX4_namedBy, Cond.code yX4_namedBy cX4_namedBy 3 (some .int), Cond.fieldLink RX4 25 "MirrorNet$Shelf" "named" "[I"]
def wsX5_leastForIndex : List Cond := .code yX5_leastForIndex cX5_leastForIndex 8 (some .int) :: ((wsX5_leastForIndex_r1 ++ (wsX5_leastForIndex_r2 ++ wsX5_leastForIndex_r3)) ++ wsX50 ++ wsX30 ++ wsX00 ++ wsX10 ++ wsX40)
def wsX5_leastForFile_r1 : List Cond := [Cond.fieldLink RX5 90 "MirrorNet" "mirrorCount" "I", Cond.methodLink RX5 289 Lib.Math.min.name, Cond.static Lib.Math.min.name, Cond.initialized "java/lang/Math", Cond.code Lib.Math.min.name Lib.Math.min.code 2 (some .int), Cond.methodLink RX5 96 yX5_mirrorAt, Cond.instanceMethod yX5_mirrorAt, Cond.selects RX5 yX5_mirrorAt yX5_mirrorAt, Cond.initialized RX5, Cond.code yX5_mirrorAt cX5_mirrorAt 2 (some (.object "MirrorNet$Mirror")), Cond.fieldLink RX5 25 "MirrorNet" "mirrors" "[LMirrorNet$Mirror;", Cond.methodLink RX5 47 yX5_isWithin, Cond.static yX5_isWithin, Cond.code yX5_isWithin cX5_isWithin 3 (some .boolean), Cond.methodLink RX5 282 yX5_wouldAnswer, Cond.static yX5_wouldAnswer, Cond.code yX5_wouldAnswer cX5_wouldAnswer 4 (some .boolean), Cond.instanceMethod yX0_costOf, Cond.initialized RX0, Cond.selects RX0 yX0_costOf yX0_costOf, Cond.code yX0_costOf cX0_costOf 2 (some .int), Cond.fieldLink RX0 9 "MirrorNet$Asker" "costs" "[I", Cond.methodLink RX5 137 yX5_isIn, Cond.static yX5_isIn]
def wsX5_leastForFile_r2 : List Cond := [Cond.code yX5_isIn cX5_isIn 2 (some .boolean), Cond.instanceMethod yX3_holds, Cond.initialized RX3, Cond.selects RX3 yX3_holds yX3_holds, Cond.code yX3_holds cX3_holds 2 (some .boolean), Cond.fieldLink RX3 34 "MirrorNet$Mirror" "files" "J", Cond.static yX5_bitOf, Cond.code yX5_bitOf cX5_bitOf 1 (some .long)]
def wsX5_leastForFile : List Cond := .code yX5_leastForFile cX5_leastForFile 7 (some .int) :: ((wsX5_leastForFile_r1 ++ wsX5_leastForFile_r2) ++ wsX50 ++ wsX30 ++ wsX00)
def wsX5_foresee_r1 : List Cond := [Cond.fieldLink RX5 12 "MirrorNet" "shelf" "LMirrorNet$Shelf;", Cond.fieldLink RX5 39 "MirrorNet" "latest" "LMirrorNet$Asking;", Cond.methodLink RX5 276 yX5_leastForIndex, Cond.instanceMethod yX5_leastForIndex, Cond.selects RX5 yX5_leastForIndex yX5_leastForIndex, Cond.initialized RX5, Cond.code yX5_leastForIndex cX5_leastForIndex 8 (some .int), Cond.fieldLink RX5 90 "MirrorNet" "mirrorCount" "I", Cond.methodLink RX5 289 Lib.Math.min.name, Cond.static Lib.Math.min.name, Cond.initialized "java/lang/Math", Cond.code Lib.Math.min.name Lib.Math.min.code 2 (some .int), Cond.methodLink RX5 96 yX5_mirrorAt, Cond.instanceMethod yX5_mirrorAt, Cond.selects RX5 yX5_mirrorAt yX5_mirrorAt, Cond.code yX5_mirrorAt cX5_mirrorAt 2 (some (.object "MirrorNet$Mirror")), Cond.fieldLink RX5 25 "MirrorNet" "mirrors" "[LMirrorNet$Mirror;", Cond.methodLink RX5 47 yX5_isWithin, Cond.static yX5_isWithin, Cond.code yX5_isWithin cX5_isWithin 3 (some .boolean), Cond.methodLink RX5 282 yX5_wouldAnswer, Cond.static yX5_wouldAnswer, Cond.code yX5_wouldAnswer cX5_wouldAnswer 4 (some .boolean), Cond.instanceMethod yX0_costOf]
def wsX5_foresee_r2 : List Cond := [Cond.initialized RX0, Cond.selects RX0 yX0_costOf yX0_costOf, Cond.code yX0_costOf cX0_costOf 2 (some .int), Cond.fieldLink RX0 9 "MirrorNet$Asker" "costs" "[I", Cond.methodLink RX5 137 yX5_isIn, Cond.static yX5_isIn, Cond.code yX5_isIn cX5_isIn 2 (some .boolean), Cond.methodLink RX5 264 yX5_suits, Cond.instanceMethod yX5_suits, Cond.selects RX5 yX5_suits yX5_suits, Cond.code yX5_suits cX5_suits 4 (some .boolean), Cond.fieldLink RX5 55 "MirrorNet" "now" "I", Cond.fieldLink RX5 43 "MirrorNet" "graceTicks" "I", Cond.instanceMethod yX4_ageOf, Cond.initialized RX4, Cond.selects RX4 yX4_ageOf yX4_ageOf, Cond.code yX4_ageOf cX4_ageOf 3 (some .int), Cond.fieldLink RX4 18 "MirrorNet$Shelf" "stateTicks" "[I", Cond.methodLink RX4 82 yX4_hasState, Cond.instanceMethod yX4_hasState, Cond.selects RX4 yX4_hasState yX4_hasState, Cond.code yX4_hasState cX4_hasState 2 (some .boolean), Cond.fieldLink RX4 34 "MirrorNet$Shelf" "stateCount" "I", Cond.instanceMethod yX4_namesLongYanked]
def wsX5_foresee_r3 : List Cond := [Cond.selects RX4 yX4_namesLongYanked yX4_namesLongYanked, Cond.code yX4_namesLongYanked cX4_namesLongYanked 7 (some .boolean), Cond.fieldLink RX4 65 "MirrorNet$Shelf" "yanked" "J", Cond.fieldLink RX4 38 "MirrorNet$Shelf" "fileCount" "I", Cond.fieldLink RX4 15 "MirrorNet$Shelf" "yankTicks" "[I", Cond.methodLink RX4 89 yX4_filesOf, Cond.instanceMethod yX4_filesOf, Cond.selects RX4 yX4_filesOf yX4_filesOf, Cond.code yX4_filesOf cX4_filesOf 2 (some .long), Cond.fieldLink RX4 21 "MirrorNet$Shelf" "stateFiles" "[J", Cond.static yX5_bitOf, Cond.code yX5_bitOf cX5_bitOf 1 (some .long), Cond.instanceMethod yX4_namesAlike, Cond.selects RX4 yX4_namesAlike yX4_namesAlike, Cond.code yX4_namesAlike cX4_namesAlike 5 (some .boolean), Cond.methodLink RX4 53 yX4_namedBy, Cond.instanceMethod yX4_namedBy, Cond.selects RX4 yX4_namedBy yX4_namedBy, Cond.code yX4_namedBy cX4_namedBy 3 (some .int), Cond.fieldLink RX4 25 "MirrorNet$Shelf" "named" "[I", Cond.methodLink RX5 279 yX5_leastForFile, Cond.instanceMethod yX5_leastForFile, Cond.selects RX5 yX5_leastForFile yX5_leastForFile, Cond.code yX5_leastForFile cX5_leastForFile 7 (some .int)]
def wsX5_foresee_r4 : List Cond := [Cond.instanceMethod yX3_holds, Cond.initialized RX3, Cond.selects RX3 yX3_holds yX3_holds, Cond.code yX3_holds cX3_holds 2 (some .boolean), Cond.fieldLink RX3 34 "MirrorNet$Mirror" "files" "J"]
def wsX5_foresee : List Cond := .code yX5_foresee cX5_foresee 7 (some .int) :: ((wsX5_foresee_r1 ++ (wsX5_foresee_r2 ++ (wsX5_foresee_r3 ++ wsX5_foresee_r4))) ++ wsX50 ++ wsX10 ++ wsX30 ++ wsX00 ++ wsX40)
def wsX5_ask_r1 : List Cond := [Cond.fieldLink RX5 19 "MirrorNet" "falls" "LMirrorNet$Falls;", Cond.fieldLink RX5 55 "MirrorNet" "now" "I", Cond.fieldLink RX5 39 "MirrorNet" "latest" "LMirrorNet$Asking;", Cond.methodLink RX5 151 yX5_askerAt, Cond.instanceMethod yX5_askerAt, Cond.selects RX5 yX5_askerAt yX5_askerAt, Cond.initialized RX5, Cond.code yX5_askerAt cX5_askerAt 2 (some (.object "MirrorNet$Asker")), Cond.fieldLink RX5 31 "MirrorNet" "askers" "[LMirrorNet$Asker;", Cond.methodLink RX5 47 yX5_isWithin, Cond.static yX5_isWithin, Cond.code yX5_isWithin cX5_isWithin 3 (some .boolean), Cond.instanceMethod yX2_downAt, Cond.initialized RX2, Cond.selects RX2 yX2_downAt yX2_downAt, Cond.code yX2_downAt cX2_downAt 4 (some .int), Cond.fieldLink RX2 21 "MirrorNet$Falls" "told" "I", Cond.fieldLink RX2 15 "MirrorNet$Falls" "firsts" "[I", Cond.fieldLink RX2 18 "MirrorNet$Falls" "lasts" "[I", Cond.fieldLink RX2 9 "MirrorNet$Falls" "who" "[I", Cond.instanceMethod yX1_begin, Cond.initialized RX1, Cond.selects RX1 yX1_begin yX1_begin, Cond.code yX1_begin cX1_begin 1 none]
def wsX5_ask_r2 : List Cond := [Cond.fieldLink RX1 21 "MirrorNet$Asking" "isAny" "Z", Cond.fieldLink RX1 25 "MirrorNet$Asking" "index" "I", Cond.fieldLink RX1 29 "MirrorNet$Asking" "spent" "I", Cond.fieldLink RX1 32 "MirrorNet$Asking" "askings" "I", Cond.fieldLink RX1 35 "MirrorNet$Asking" "gotCount" "I", Cond.fieldLink RX1 38 "MirrorNet$Asking" "lacking" "I", Cond.fieldLink RX1 41 "MirrorNet$Asking" "foresight" "I", Cond.instanceMethod yX0_lineUp, Cond.initialized RX0, Cond.selects RX0 yX0_lineUp yX0_lineUp, Cond.code yX0_lineUp cX0_lineUp 2 none, Cond.fieldLink RX0 42 "MirrorNet$Asker" "lineLength" "I", Cond.fieldLink RX0 9 "MirrorNet$Asker" "costs" "[I", Cond.methodLink RX0 45 yX0_knowsAsBad, Cond.instanceMethod yX0_knowsAsBad, Cond.selects RX0 yX0_knowsAsBad yX0_knowsAsBad, Cond.code yX0_knowsAsBad cX0_knowsAsBad 2 (some .boolean), Cond.fieldLink RX0 35 "MirrorNet$Asker" "bad" "I", Cond.static yX5_isIn, Cond.code yX5_isIn cX5_isIn 2 (some .boolean), Cond.methodLink RX0 49 yX0_putInLine, Cond.instanceMethod yX0_putInLine, Cond.selects RX0 yX0_putInLine yX0_putInLine, Cond.code yX0_putInLine cX0_putInLine 3 none]
def wsX5_ask_r3 : List Cond := [Cond.fieldLink RX0 21 "MirrorNet$Asker" "line" "[I", Cond.methodLink RX5 181 yX5_carryOut, Cond.instanceMethod yX5_carryOut, Cond.selects RX5 yX5_carryOut yX5_carryOut, Cond.code yX5_carryOut cX5_carryOut 4 (some .int), Cond.methodLink RX5 238 yX5_findIndex, Cond.instanceMethod yX5_findIndex, Cond.selects RX5 yX5_findIndex yX5_findIndex, Cond.code yX5_findIndex cX5_findIndex 6 (some .int), Cond.instanceMethod yX0_inLine, Cond.selects RX0 yX0_inLine yX0_inLine, Cond.code yX0_inLine cX0_inLine 2 (some .int), Cond.methodLink RX5 96 yX5_mirrorAt, Cond.instanceMethod yX5_mirrorAt, Cond.selects RX5 yX5_mirrorAt yX5_mirrorAt, Cond.code yX5_mirrorAt cX5_mirrorAt 2 (some (.object "MirrorNet$Mirror")), Cond.fieldLink RX5 90 "MirrorNet" "mirrorCount" "I", Cond.fieldLink RX5 25 "MirrorNet" "mirrors" "[LMirrorNet$Mirror;", Cond.instanceMethod yX0_costOf, Cond.selects RX0 yX0_costOf yX0_costOf, Cond.code yX0_costOf cX0_costOf 2 (some .int), Cond.instanceMethod yX1_spend, Cond.selects RX1 yX1_spend yX1_spend, Cond.code yX1_spend cX1_spend 2 none]
def wsX5_ask_r4 : List Cond := [Cond.methodLink RX5 137 yX5_isIn, Cond.instanceMethod yX0_markBad, Cond.selects RX0 yX0_markBad yX0_markBad, Cond.code yX0_markBad cX0_markBad 2 none, Cond.methodLink RX5 264 yX5_suits, Cond.instanceMethod yX5_suits, Cond.selects RX5 yX5_suits yX5_suits, Cond.code yX5_suits cX5_suits 4 (some .boolean), Cond.fieldLink RX5 12 "MirrorNet" "shelf" "LMirrorNet$Shelf;", Cond.fieldLink RX5 43 "MirrorNet" "graceTicks" "I", Cond.instanceMethod yX4_ageOf, Cond.initialized RX4, Cond.selects RX4 yX4_ageOf yX4_ageOf, Cond.code yX4_ageOf cX4_ageOf 3 (some .int), Cond.fieldLink RX4 18 "MirrorNet$Shelf" "stateTicks" "[I", Cond.methodLink RX4 82 yX4_hasState, Cond.instanceMethod yX4_hasState, Cond.selects RX4 yX4_hasState yX4_hasState, Cond.code yX4_hasState cX4_hasState 2 (some .boolean), Cond.fieldLink RX4 34 "MirrorNet$Shelf" "stateCount" "I", Cond.instanceMethod yX4_namesLongYanked, Cond.selects RX4 yX4_namesLongYanked yX4_namesLongYanked, Cond.code yX4_namesLongYanked cX4_namesLongYanked 7 (some .boolean), Cond.fieldLink RX4 65 "MirrorNet$Shelf" "yanked" "J"]
def wsX5_ask_r5 : List Cond := [Cond.fieldLink RX4 38 "MirrorNet$Shelf" "fileCount" "I", Cond.fieldLink RX4 15 "MirrorNet$Shelf" "yankTicks" "[I", Cond.methodLink RX4 89 yX4_filesOf, Cond.instanceMethod yX4_filesOf, Cond.selects RX4 yX4_filesOf yX4_filesOf, Cond.code yX4_filesOf cX4_filesOf 2 (some .long), Cond.fieldLink RX4 21 "MirrorNet$Shelf" "stateFiles" "[J", Cond.static yX5_bitOf, Cond.code yX5_bitOf cX5_bitOf 1 (some .long), Cond.methodLink RX5 242 yX5_firstNotNamed, Cond.instanceMethod yX5_firstNotNamed, Cond.selects RX5 yX5_firstNotNamed yX5_firstNotNamed, Cond.code yX5_firstNotNamed cX5_firstNotNamed 4 (some .int), Cond.instanceMethod yX4_namedBy, Cond.selects RX4 yX4_namedBy yX4_namedBy, Cond.code yX4_namedBy cX4_namedBy 3 (some .int), Cond.fieldLink RX4 25 "MirrorNet$Shelf" "named" "[I", Cond.methodLink RX5 245 yX5_getFiles, Cond.instanceMethod yX5_getFiles, Cond.selects RX5 yX5_getFiles yX5_getFiles, Cond.code yX5_getFiles cX5_getFiles 7 (some .int), Cond.methodLink RX5 270 yX5_findGiver, Cond.instanceMethod yX5_findGiver, Cond.selects RX5 yX5_findGiver yX5_findGiver]
def wsX5_ask_r6 : List Cond := [Cond.code yX5_findGiver cX5_findGiver 7 (some .int), Cond.instanceMethod yX3_holds, Cond.initialized RX3, Cond.selects RX3 yX3_holds yX3_holds, Cond.code yX3_holds cX3_holds 2 (some .boolean), Cond.fieldLink RX3 34 "MirrorNet$Mirror" "files" "J", Cond.instanceMethod yX1_keepGot, Cond.selects RX1 yX1_keepGot yX1_keepGot, Cond.code yX1_keepGot cX1_keepGot 4 none, Cond.fieldLink RX1 9 "MirrorNet$Asking" "gotFiles" "[I", Cond.fieldLink RX1 15 "MirrorNet$Asking" "gotPackages" "[I", Cond.fieldLink RX1 18 "MirrorNet$Asking" "gotMirrors" "[I", Cond.methodLink RX5 185 yX5_foresee, Cond.instanceMethod yX5_foresee, Cond.selects RX5 yX5_foresee yX5_foresee, Cond.code yX5_foresee cX5_foresee 7 (some .int), Cond.methodLink RX5 276 yX5_leastForIndex, Cond.instanceMethod yX5_leastForIndex, Cond.selects RX5 yX5_leastForIndex yX5_leastForIndex, Cond.code yX5_leastForIndex cX5_leastForIndex 8 (some .int), Cond.methodLink RX5 289 Lib.Math.min.name, Cond.static Lib.Math.min.name, Cond.initialized "java/lang/Math", Cond.code Lib.Math.min.name Lib.Math.min.code 2 (some .int)]
def wsX5_ask_r7 : List Cond := [Cond.methodLink RX5 282 yX5_wouldAnswer, Cond.static yX5_wouldAnswer, Cond.code yX5_wouldAnswer cX5_wouldAnswer 4 (some .boolean), Cond.instanceMethod yX4_namesAlike, Cond.selects RX4 yX4_namesAlike yX4_namesAlike, Cond.code yX4_namesAlike cX4_namesAlike 5 (some .boolean), Cond.methodLink RX4 53 yX4_namedBy, Cond.methodLink RX5 279 yX5_leastForFile, Cond.instanceMethod yX5_leastForFile, Cond.selects RX5 yX5_leastForFile yX5_leastForFile, Cond.code yX5_leastForFile cX5_leastForFile 7 (some .int)]
def wsX5_ask : List Cond := .code yX5_ask cX5_ask 7 (some .int) :: ((wsX5_ask_r1 ++ (wsX5_ask_r2 ++ (wsX5_ask_r3 ++ (wsX5_ask_r4 ++ (wsX5_ask_r5 ++ (wsX5_ask_r6 ++ wsX5_ask_r7)))))) ++ wsX00 ++ wsX50 ++ wsX10 ++ wsX20 ++ wsX30 ++ wsX40)
def wsX5_asked : List Cond := .code yX5_asked cX5_asked 2 (some .int) :: ([.fieldLink RX5 39 "MirrorNet" "latest" "LMirrorNet$Asking;"] ++ wsX50 ++ wsX10)
def wsX5_got : List Cond := .code yX5_got cX5_got 3 (some .int) :: ([.fieldLink RX5 39 "MirrorNet" "latest" "LMirrorNet$Asking;", .instanceMethod yX1_gotten, .initialized RX1, .selects RX1 yX1_gotten yX1_gotten, .code yX1_gotten cX1_gotten 3 (some .int), .fieldLink RX1 35 "MirrorNet$Asking" "gotCount" "I", .fieldLink RX1 9 "MirrorNet$Asking" "gotFiles" "[I", .fieldLink RX1 15 "MirrorNet$Asking" "gotPackages" "[I", .fieldLink RX1 18 "MirrorNet$Asking" "gotMirrors" "[I", .static yX5_isWithin, .initialized RX5, .code yX5_isWithin cX5_isWithin 3 (some .boolean)] ++ wsX50 ++ wsX10)
def wsX5_asker : List Cond := .code yX5_asker cX5_asker 4 (some .int) :: ([.methodLink RX5 151 yX5_askerAt, .instanceMethod yX5_askerAt, .selects RX5 yX5_askerAt yX5_askerAt, .initialized RX5, .code yX5_askerAt cX5_askerAt 2 (some (.object "MirrorNet$Asker")), .fieldLink RX5 31 "MirrorNet" "askers" "[LMirrorNet$Asker;", .methodLink RX5 47 yX5_isWithin, .static yX5_isWithin, .code yX5_isWithin cX5_isWithin 3 (some .boolean)] ++ wsX00 ++ wsX50)
def wsX5_count : List Cond := .code yX5_count cX5_count 2 (some .int) :: ([.fieldLink RX5 55 "MirrorNet" "now" "I", .fieldLink RX5 12 "MirrorNet" "shelf" "LMirrorNet$Shelf;", .fieldLink RX5 90 "MirrorNet" "mirrorCount" "I", .fieldLink RX5 19 "MirrorNet" "falls" "LMirrorNet$Falls;", .fieldLink RX5 43 "MirrorNet" "graceTicks" "I", .methodLink RX5 123 yJ13_bitCount_95d88, .static yJ13_bitCount_95d88, .initialized RJ13, .code yJ13_bitCount_95d88 cJ13_bitCount_95d88 2 (some .int), .constantLong RJ13 314 (6148914691236517205), .constantLong RJ13 316 (3689348814741910323), .constantLong RJ13 318 (1085102592571150095)] ++ wsX50 ++ wsX40 ++ wsX20)
def wsX6_init_r1 : List Cond := [Cond.methodLink RX6 1 objectInit, Cond.instanceMethod objectInit, Cond.code objectInit ⟨#[0xb1]⟩ 1 none, Cond.arrayClass .int, Cond.fieldLink RX6 7 "MirrorNetModel" "size" "[I", Cond.fieldLink RX6 13 "MirrorNetModel" "yankedAt" "[I", Cond.fieldLink RX6 16 "MirrorNetModel" "states" "I", Cond.fieldLink RX6 20 "MirrorNetModel" "stateTick" "[I", Cond.fieldLink RX6 23 "MirrorNetModel" "named" "[I", Cond.fieldLink RX6 26 "MirrorNetModel" "from" "[I", Cond.fieldLink RX6 29 "MirrorNetModel" "speed" "[I", Cond.fieldLink RX6 32 "MirrorNetModel" "keep" "[I", Cond.fieldLink RX6 35 "MirrorNetModel" "index" "[I", Cond.fieldLink RX6 38 "MirrorNetModel" "target" "[I", Cond.fieldLink RX6 41 "MirrorNetModel" "done" "[I", Cond.fieldLink RX6 44 "MirrorNetModel" "taken" "[I", Cond.arrayClass .boolean, Cond.fieldLink RX6 47 "MirrorNetModel" "isLying" "[Z", Cond.fieldLink RX6 51 "MirrorNetModel" "hasFile" "[Z", Cond.fieldLink RX6 54 "MirrorNetModel" "ahead" "[I", Cond.fieldLink RX6 57 "MirrorNetModel" "aheadMany" "[I", Cond.fieldLink RX6 60 "MirrorNetModel" "fallOf" "[I", Cond.fieldLink RX6 63 "MirrorNetModel" "fallFrom" "[I", Cond.fieldLink RX6 66 "MirrorNetModel" "fallTo" "[I"]
def wsX6_init_r2 : List Cond := [Cond.fieldLink RX6 69 "MirrorNetModel" "grace" "I", Cond.fieldLink RX6 72 "MirrorNetModel" "costOf" "[I", Cond.fieldLink RX6 75 "MirrorNetModel" "bears" "[I", Cond.fieldLink RX6 78 "MirrorNetModel" "seen" "[I", Cond.fieldLink RX6 81 "MirrorNetModel" "bad" "[I", Cond.fieldLink RX6 84 "MirrorNetModel" "order" "[I", Cond.fieldLink RX6 87 "MirrorNetModel" "gotFile" "[I", Cond.fieldLink RX6 90 "MirrorNetModel" "gotPack" "[I", Cond.fieldLink RX6 93 "MirrorNetModel" "gotOf" "[I"]
def wsX6_init : List Cond := .code yX6_init cX6_init 2 none :: ((wsX6_init_r1 ++ wsX6_init_r2) ++ wsX60)
def wsX6_in : List Cond := .code yX6_in cX6_in 3 (some .boolean) :: ([])
def wsX6_file : List Cond := .code yX6_file cX6_file 2 (some .int) :: ([.fieldLink RX6 96 "MirrorNetModel" "files" "I", .fieldLink RX6 7 "MirrorNetModel" "size" "[I", .fieldLink RX6 13 "MirrorNetModel" "yankedAt" "[I", .methodLink RX6 99 yX6_in, .static yX6_in, .initialized RX6, .code yX6_in cX6_in 3 (some .boolean)] ++ wsX60)
def wsX6_isFile : List Cond := .code yX6_isFile cX6_isFile 2 (some .boolean) :: ([.fieldLink RX6 96 "MirrorNetModel" "files" "I", .methodLink RX6 99 yX6_in, .static yX6_in, .initialized RX6, .code yX6_in cX6_in 3 (some .boolean)] ++ wsX60)
def wsX6_comes : List Cond := .code yX6_comes cX6_comes 2 none :: ([.fieldLink RX6 23 "MirrorNetModel" "named" "[I", .fieldLink RX6 16 "MirrorNetModel" "states" "I", .fieldLink RX6 20 "MirrorNetModel" "stateTick" "[I", .fieldLink RX6 103 "MirrorNetModel" "now" "I"] ++ wsX60)
def wsX6_put : List Cond := .code yX6_put cX6_put 3 (some .int) :: ([.fieldLink RX6 16 "MirrorNetModel" "states" "I", .fieldLink RX6 13 "MirrorNetModel" "yankedAt" "[I", .fieldLink RX6 23 "MirrorNetModel" "named" "[I", .methodLink RX6 99 yX6_in, .static yX6_in, .initialized RX6, .code yX6_in cX6_in 3 (some .boolean), .methodLink RX6 106 yX6_isFile, .instanceMethod yX6_isFile, .selects RX6 yX6_isFile yX6_isFile, .code yX6_isFile cX6_isFile 2 (some .boolean), .fieldLink RX6 96 "MirrorNetModel" "files" "I", .methodLink RX6 110 yX6_comes, .instanceMethod yX6_comes, .selects RX6 yX6_comes yX6_comes, .code yX6_comes cX6_comes 2 none, .fieldLink RX6 20 "MirrorNetModel" "stateTick" "[I", .fieldLink RX6 103 "MirrorNetModel" "now" "I"] ++ wsX60)
def wsX6_yank : List Cond := .code yX6_yank cX6_yank 3 (some .int) :: ([.fieldLink RX6 16 "MirrorNetModel" "states" "I", .fieldLink RX6 13 "MirrorNetModel" "yankedAt" "[I", .fieldLink RX6 103 "MirrorNetModel" "now" "I", .fieldLink RX6 23 "MirrorNetModel" "named" "[I", .methodLink RX6 106 yX6_isFile, .instanceMethod yX6_isFile, .selects RX6 yX6_isFile yX6_isFile, .initialized RX6, .code yX6_isFile cX6_isFile 2 (some .boolean), .fieldLink RX6 96 "MirrorNetModel" "files" "I", .methodLink RX6 99 yX6_in, .static yX6_in, .code yX6_in cX6_in 3 (some .boolean), .methodLink RX6 110 yX6_comes, .instanceMethod yX6_comes, .selects RX6 yX6_comes yX6_comes, .code yX6_comes cX6_comes 2 none, .fieldLink RX6 20 "MirrorNetModel" "stateTick" "[I"] ++ wsX60)
def wsX6_mirror : List Cond := .code yX6_mirror cX6_mirror 4 (some .int) :: ([.fieldLink RX6 113 "MirrorNetModel" "mirrors" "I", .fieldLink RX6 26 "MirrorNetModel" "from" "[I", .fieldLink RX6 29 "MirrorNetModel" "speed" "[I", .fieldLink RX6 32 "MirrorNetModel" "keep" "[I", .fieldLink RX6 38 "MirrorNetModel" "target" "[I", .methodLink RX6 99 yX6_in, .static yX6_in, .initialized RX6, .code yX6_in cX6_in 3 (some .boolean)] ++ wsX60)
def wsX6_isMirror : List Cond := .code yX6_isMirror cX6_isMirror 2 (some .boolean) :: ([.fieldLink RX6 113 "MirrorNetModel" "mirrors" "I", .methodLink RX6 99 yX6_in, .static yX6_in, .initialized RX6, .code yX6_in cX6_in 3 (some .boolean)] ++ wsX60)
def wsX6_speed : List Cond := .code yX6_speed cX6_speed 4 (some .int) :: ([.fieldLink RX6 29 "MirrorNetModel" "speed" "[I", .methodLink RX6 116 yX6_isMirror, .instanceMethod yX6_isMirror, .selects RX6 yX6_isMirror yX6_isMirror, .initialized RX6, .code yX6_isMirror cX6_isMirror 2 (some .boolean), .fieldLink RX6 113 "MirrorNetModel" "mirrors" "I", .methodLink RX6 99 yX6_in, .static yX6_in, .code yX6_in cX6_in 3 (some .boolean)] ++ wsX60)
def wsX6_fall : List Cond := .code yX6_fall cX6_fall 4 (some .int) :: ([.fieldLink RX6 119 "MirrorNetModel" "falls" "I", .fieldLink RX6 103 "MirrorNetModel" "now" "I", .fieldLink RX6 60 "MirrorNetModel" "fallOf" "[I", .fieldLink RX6 63 "MirrorNetModel" "fallFrom" "[I", .fieldLink RX6 66 "MirrorNetModel" "fallTo" "[I", .methodLink RX6 116 yX6_isMirror, .instanceMethod yX6_isMirror, .selects RX6 yX6_isMirror yX6_isMirror, .initialized RX6, .code yX6_isMirror cX6_isMirror 2 (some .boolean), .fieldLink RX6 113 "MirrorNetModel" "mirrors" "I", .methodLink RX6 99 yX6_in, .static yX6_in, .code yX6_in cX6_in 3 (some .boolean)] ++ wsX60)
def wsX6_lies : List Cond := .code yX6_lies cX6_lies 3 (some .boolean) :: ([.fieldLink RX6 47 "MirrorNetModel" "isLying" "[Z", .methodLink RX6 116 yX6_isMirror, .instanceMethod yX6_isMirror, .selects RX6 yX6_isMirror yX6_isMirror, .initialized RX6, .code yX6_isMirror cX6_isMirror 2 (some .boolean), .fieldLink RX6 113 "MirrorNetModel" "mirrors" "I", .methodLink RX6 99 yX6_in, .static yX6_in, .code yX6_in cX6_in 3 (some .boolean)] ++ wsX60)
def wsX6_isFallen : List Cond := .code yX6_isFallen cX6_isFallen 3 (some .boolean) :: ([.fieldLink RX6 119 "MirrorNetModel" "falls" "I", .fieldLink RX6 60 "MirrorNetModel" "fallOf" "[I", .fieldLink RX6 63 "MirrorNetModel" "fallFrom" "[I", .fieldLink RX6 103 "MirrorNetModel" "now" "I", .fieldLink RX6 66 "MirrorNetModel" "fallTo" "[I"] ++ wsX60)
def wsX6_isNamed : List Cond := .code yX6_isNamed cX6_isNamed 4 (some .boolean) :: ([.fieldLink RX6 23 "MirrorNetModel" "named" "[I"] ++ wsX60)
def wsX6_lacking : List Cond := .code yX6_lacking cX6_lacking 3 (some .int) :: ([.fieldLink RX6 96 "MirrorNetModel" "files" "I", .fieldLink RX6 51 "MirrorNetModel" "hasFile" "[Z", .fieldLink RX6 38 "MirrorNetModel" "target" "[I", .methodLink RX6 122 yX6_isNamed, .instanceMethod yX6_isNamed, .selects RX6 yX6_isNamed yX6_isNamed, .initialized RX6, .code yX6_isNamed cX6_isNamed 4 (some .boolean), .fieldLink RX6 23 "MirrorNetModel" "named" "[I"] ++ wsX60)
def wsX6_copies : List Cond := .code yX6_copies cX6_copies 5 (some .boolean) :: ([.fieldLink RX6 29 "MirrorNetModel" "speed" "[I", .fieldLink RX6 26 "MirrorNetModel" "from" "[I", .fieldLink RX6 51 "MirrorNetModel" "hasFile" "[Z", .fieldLink RX6 38 "MirrorNetModel" "target" "[I", .fieldLink RX6 41 "MirrorNetModel" "done" "[I", .fieldLink RX6 7 "MirrorNetModel" "size" "[I", .fieldLink RX6 44 "MirrorNetModel" "taken" "[I", .methodLink RX6 126 yX6_lacking, .instanceMethod yX6_lacking, .selects RX6 yX6_lacking yX6_lacking, .initialized RX6, .code yX6_lacking cX6_lacking 3 (some .int), .fieldLink RX6 96 "MirrorNetModel" "files" "I", .methodLink RX6 122 yX6_isNamed, .instanceMethod yX6_isNamed, .selects RX6 yX6_isNamed yX6_isNamed, .code yX6_isNamed cX6_isNamed 4 (some .boolean), .fieldLink RX6 23 "MirrorNetModel" "named" "[I"] ++ wsX60)
def wsX6_turns : List Cond := .code yX6_turns cX6_turns 5 none :: ([.fieldLink RX6 54 "MirrorNetModel" "ahead" "[I", .fieldLink RX6 35 "MirrorNetModel" "index" "[I", .fieldLink RX6 57 "MirrorNetModel" "aheadMany" "[I", .fieldLink RX6 38 "MirrorNetModel" "target" "[I", .fieldLink RX6 41 "MirrorNetModel" "done" "[I", .fieldLink RX6 96 "MirrorNetModel" "files" "I", .fieldLink RX6 32 "MirrorNetModel" "keep" "[I", .fieldLink RX6 51 "MirrorNetModel" "hasFile" "[Z", .methodLink RX6 122 yX6_isNamed, .instanceMethod yX6_isNamed, .selects RX6 yX6_isNamed yX6_isNamed, .initialized RX6, .code yX6_isNamed cX6_isNamed 4 (some .boolean), .fieldLink RX6 23 "MirrorNetModel" "named" "[I"] ++ wsX60)
def wsX6_goes_r1 : List Cond := [Cond.fieldLink RX6 41 "MirrorNetModel" "done" "[I", Cond.fieldLink RX6 26 "MirrorNetModel" "from" "[I", Cond.fieldLink RX6 38 "MirrorNetModel" "target" "[I", Cond.fieldLink RX6 16 "MirrorNetModel" "states" "I", Cond.fieldLink RX6 35 "MirrorNetModel" "index" "[I", Cond.methodLink RX6 130 yX6_isFallen, Cond.instanceMethod yX6_isFallen, Cond.selects RX6 yX6_isFallen yX6_isFallen, Cond.initialized RX6, Cond.code yX6_isFallen cX6_isFallen 3 (some .boolean), Cond.fieldLink RX6 119 "MirrorNetModel" "falls" "I", Cond.fieldLink RX6 60 "MirrorNetModel" "fallOf" "[I", Cond.fieldLink RX6 63 "MirrorNetModel" "fallFrom" "[I", Cond.fieldLink RX6 103 "MirrorNetModel" "now" "I", Cond.fieldLink RX6 66 "MirrorNetModel" "fallTo" "[I", Cond.methodLink RX6 133 yX6_copies, Cond.instanceMethod yX6_copies, Cond.selects RX6 yX6_copies yX6_copies, Cond.code yX6_copies cX6_copies 5 (some .boolean), Cond.fieldLink RX6 29 "MirrorNetModel" "speed" "[I", Cond.fieldLink RX6 51 "MirrorNetModel" "hasFile" "[Z", Cond.fieldLink RX6 7 "MirrorNetModel" "size" "[I", Cond.fieldLink RX6 44 "MirrorNetModel" "taken" "[I", Cond.methodLink RX6 126 yX6_lacking]
def wsX6_goes_r2 : List Cond := [Cond.instanceMethod yX6_lacking, Cond.selects RX6 yX6_lacking yX6_lacking, Cond.code yX6_lacking cX6_lacking 3 (some .int), Cond.fieldLink RX6 96 "MirrorNetModel" "files" "I", Cond.methodLink RX6 122 yX6_isNamed, Cond.instanceMethod yX6_isNamed, Cond.selects RX6 yX6_isNamed yX6_isNamed, Cond.code yX6_isNamed cX6_isNamed 4 (some .boolean), Cond.fieldLink RX6 23 "MirrorNetModel" "named" "[I", Cond.methodLink RX6 136 yX6_turns, Cond.instanceMethod yX6_turns, Cond.selects RX6 yX6_turns yX6_turns, Cond.code yX6_turns cX6_turns 5 none, Cond.fieldLink RX6 54 "MirrorNetModel" "ahead" "[I", Cond.fieldLink RX6 57 "MirrorNetModel" "aheadMany" "[I", Cond.fieldLink RX6 32 "MirrorNetModel" "keep" "[I"]
def wsX6_goes : List Cond := .code yX6_goes cX6_goes 3 none :: ((wsX6_goes_r1 ++ wsX6_goes_r2) ++ wsX60)
def wsX6_pass_r1 : List Cond := [Cond.fieldLink RX6 103 "MirrorNetModel" "now" "I", Cond.fieldLink RX6 113 "MirrorNetModel" "mirrors" "I", Cond.methodLink RX6 99 yX6_in, Cond.static yX6_in, Cond.initialized RX6, Cond.code yX6_in cX6_in 3 (some .boolean), Cond.methodLink RX6 140 yX6_goes, Cond.instanceMethod yX6_goes, Cond.selects RX6 yX6_goes yX6_goes, Cond.code yX6_goes cX6_goes 3 none, Cond.fieldLink RX6 41 "MirrorNetModel" "done" "[I", Cond.fieldLink RX6 26 "MirrorNetModel" "from" "[I", Cond.fieldLink RX6 38 "MirrorNetModel" "target" "[I", Cond.fieldLink RX6 16 "MirrorNetModel" "states" "I", Cond.fieldLink RX6 35 "MirrorNetModel" "index" "[I", Cond.methodLink RX6 130 yX6_isFallen, Cond.instanceMethod yX6_isFallen, Cond.selects RX6 yX6_isFallen yX6_isFallen, Cond.code yX6_isFallen cX6_isFallen 3 (some .boolean), Cond.fieldLink RX6 119 "MirrorNetModel" "falls" "I", Cond.fieldLink RX6 60 "MirrorNetModel" "fallOf" "[I", Cond.fieldLink RX6 63 "MirrorNetModel" "fallFrom" "[I", Cond.fieldLink RX6 66 "MirrorNetModel" "fallTo" "[I", Cond.methodLink RX6 133 yX6_copies]
def wsX6_pass_r2 : List Cond := [Cond.instanceMethod yX6_copies, Cond.selects RX6 yX6_copies yX6_copies, Cond.code yX6_copies cX6_copies 5 (some .boolean), Cond.fieldLink RX6 29 "MirrorNetModel" "speed" "[I", Cond.fieldLink RX6 51 "MirrorNetModel" "hasFile" "[Z", Cond.fieldLink RX6 7 "MirrorNetModel" "size" "[I", Cond.fieldLink RX6 44 "MirrorNetModel" "taken" "[I", Cond.methodLink RX6 126 yX6_lacking, Cond.instanceMethod yX6_lacking, Cond.selects RX6 yX6_lacking yX6_lacking, Cond.code yX6_lacking cX6_lacking 3 (some .int), Cond.fieldLink RX6 96 "MirrorNetModel" "files" "I", Cond.methodLink RX6 122 yX6_isNamed, Cond.instanceMethod yX6_isNamed, Cond.selects RX6 yX6_isNamed yX6_isNamed, Cond.code yX6_isNamed cX6_isNamed 4 (some .boolean), Cond.fieldLink RX6 23 "MirrorNetModel" "named" "[I", Cond.methodLink RX6 136 yX6_turns, Cond.instanceMethod yX6_turns, Cond.selects RX6 yX6_turns yX6_turns, Cond.code yX6_turns cX6_turns 5 none, Cond.fieldLink RX6 54 "MirrorNetModel" "ahead" "[I", Cond.fieldLink RX6 57 "MirrorNetModel" "aheadMany" "[I", Cond.fieldLink RX6 32 "MirrorNetModel" "keep" "[I"]
def wsX6_pass : List Cond := .code yX6_pass cX6_pass 4 (some .int) :: ((wsX6_pass_r1 ++ wsX6_pass_r2) ++ wsX60)
def wsX6_isAsker : List Cond := .code yX6_isAsker cX6_isAsker 1 (some .boolean) :: ([.methodLink RX6 99 yX6_in, .static yX6_in, .initialized RX6, .code yX6_in cX6_in 3 (some .boolean)])
def wsX6_cost : List Cond := .code yX6_cost cX6_cost 5 (some .int) :: ([.fieldLink RX6 72 "MirrorNetModel" "costOf" "[I", .methodLink RX6 143 yX6_isAsker, .static yX6_isAsker, .initialized RX6, .code yX6_isAsker cX6_isAsker 1 (some .boolean), .methodLink RX6 99 yX6_in, .static yX6_in, .code yX6_in cX6_in 3 (some .boolean), .methodLink RX6 116 yX6_isMirror, .instanceMethod yX6_isMirror, .selects RX6 yX6_isMirror yX6_isMirror, .code yX6_isMirror cX6_isMirror 2 (some .boolean), .fieldLink RX6 113 "MirrorNetModel" "mirrors" "I"] ++ wsX60)
def wsX6_bears : List Cond := .code yX6_bears cX6_bears 4 (some .int) :: ([.fieldLink RX6 75 "MirrorNetModel" "bears" "[I", .methodLink RX6 143 yX6_isAsker, .static yX6_isAsker, .initialized RX6, .code yX6_isAsker cX6_isAsker 1 (some .boolean), .methodLink RX6 99 yX6_in, .static yX6_in, .code yX6_in cX6_in 3 (some .boolean)] ++ wsX60)
def wsX6_grace : List Cond := .code yX6_grace cX6_grace 3 (some .int) :: ([.fieldLink RX6 69 "MirrorNetModel" "grace" "I", .methodLink RX6 99 yX6_in, .static yX6_in, .initialized RX6, .code yX6_in cX6_in 3 (some .boolean)] ++ wsX60)
def wsX6_forgives : List Cond := .code yX6_forgives cX6_forgives 4 (some .int) :: ([.fieldLink RX6 81 "MirrorNetModel" "bad" "[I", .methodLink RX6 143 yX6_isAsker, .static yX6_isAsker, .initialized RX6, .code yX6_isAsker cX6_isAsker 1 (some .boolean), .methodLink RX6 99 yX6_in, .static yX6_in, .code yX6_in cX6_in 3 (some .boolean)] ++ wsX60)
def wsX6_ageOf : List Cond := .code yX6_ageOf cX6_ageOf 2 (some .int) :: ([.fieldLink RX6 16 "MirrorNetModel" "states" "I", .fieldLink RX6 103 "MirrorNetModel" "now" "I", .fieldLink RX6 20 "MirrorNetModel" "stateTick" "[I"] ++ wsX60)
def wsX6_isGood : List Cond := .code yX6_isGood cX6_isGood 6 (some .boolean) :: ([.fieldLink RX6 75 "MirrorNetModel" "bears" "[I", .fieldLink RX6 23 "MirrorNetModel" "named" "[I", .fieldLink RX6 13 "MirrorNetModel" "yankedAt" "[I", .fieldLink RX6 103 "MirrorNetModel" "now" "I", .fieldLink RX6 69 "MirrorNetModel" "grace" "I", .methodLink RX6 146 yX6_ageOf, .instanceMethod yX6_ageOf, .selects RX6 yX6_ageOf yX6_ageOf, .initialized RX6, .code yX6_ageOf cX6_ageOf 2 (some .int), .fieldLink RX6 16 "MirrorNetModel" "states" "I", .fieldLink RX6 20 "MirrorNetModel" "stateTick" "[I"] ++ wsX60)
def wsX6_orders : List Cond := .code yX6_orders cX6_orders 4 none :: ([.fieldLink RX6 149 "MirrorNetModel" "ordered" "I", .fieldLink RX6 113 "MirrorNetModel" "mirrors" "I", .fieldLink RX6 72 "MirrorNetModel" "costOf" "[I", .fieldLink RX6 81 "MirrorNetModel" "bad" "[I", .fieldLink RX6 84 "MirrorNetModel" "order" "[I"] ++ wsX60)
def wsX6_tells : List Cond := .code yX6_tells cX6_tells 3 (some .boolean) :: ([.fieldLink RX6 152 "MirrorNetModel" "spent" "I", .fieldLink RX6 72 "MirrorNetModel" "costOf" "[I", .fieldLink RX6 155 "MirrorNetModel" "askings" "I", .methodLink RX6 130 yX6_isFallen, .instanceMethod yX6_isFallen, .selects RX6 yX6_isFallen yX6_isFallen, .initialized RX6, .code yX6_isFallen cX6_isFallen 3 (some .boolean), .fieldLink RX6 119 "MirrorNetModel" "falls" "I", .fieldLink RX6 60 "MirrorNetModel" "fallOf" "[I", .fieldLink RX6 63 "MirrorNetModel" "fallFrom" "[I", .fieldLink RX6 103 "MirrorNetModel" "now" "I", .fieldLink RX6 66 "MirrorNetModel" "fallTo" "[I"] ++ wsX60)
def wsX6_indexFor_r1 : List Cond := [Cond.fieldLink RX6 149 "MirrorNetModel" "ordered" "I", Cond.fieldLink RX6 84 "MirrorNetModel" "order" "[I", Cond.fieldLink RX6 47 "MirrorNetModel" "isLying" "[Z", Cond.fieldLink RX6 81 "MirrorNetModel" "bad" "[I", Cond.fieldLink RX6 35 "MirrorNetModel" "index" "[I", Cond.fieldLink RX6 78 "MirrorNetModel" "seen" "[I", Cond.methodLink RX6 158 yX6_tells, Cond.instanceMethod yX6_tells, Cond.selects RX6 yX6_tells yX6_tells, Cond.initialized RX6, Cond.code yX6_tells cX6_tells 3 (some .boolean), Cond.fieldLink RX6 152 "MirrorNetModel" "spent" "I", Cond.fieldLink RX6 72 "MirrorNetModel" "costOf" "[I", Cond.fieldLink RX6 155 "MirrorNetModel" "askings" "I", Cond.methodLink RX6 130 yX6_isFallen, Cond.instanceMethod yX6_isFallen, Cond.selects RX6 yX6_isFallen yX6_isFallen, Cond.code yX6_isFallen cX6_isFallen 3 (some .boolean), Cond.fieldLink RX6 119 "MirrorNetModel" "falls" "I", Cond.fieldLink RX6 60 "MirrorNetModel" "fallOf" "[I", Cond.fieldLink RX6 63 "MirrorNetModel" "fallFrom" "[I", Cond.fieldLink RX6 103 "MirrorNetModel" "now" "I", Cond.fieldLink RX6 66 "MirrorNetModel" "fallTo" "[I", Cond.methodLink RX6 161 yX6_isGood]
def wsX6_indexFor_r2 : List Cond := [Cond.instanceMethod yX6_isGood, Cond.selects RX6 yX6_isGood yX6_isGood, Cond.code yX6_isGood cX6_isGood 6 (some .boolean), Cond.fieldLink RX6 75 "MirrorNetModel" "bears" "[I", Cond.fieldLink RX6 23 "MirrorNetModel" "named" "[I", Cond.fieldLink RX6 13 "MirrorNetModel" "yankedAt" "[I", Cond.fieldLink RX6 69 "MirrorNetModel" "grace" "I", Cond.methodLink RX6 146 yX6_ageOf, Cond.instanceMethod yX6_ageOf, Cond.selects RX6 yX6_ageOf yX6_ageOf, Cond.code yX6_ageOf cX6_ageOf 2 (some .int), Cond.fieldLink RX6 16 "MirrorNetModel" "states" "I", Cond.fieldLink RX6 20 "MirrorNetModel" "stateTick" "[I"]
def wsX6_indexFor : List Cond := .code yX6_indexFor cX6_indexFor 4 (some .int) :: ((wsX6_indexFor_r1 ++ wsX6_indexFor_r2) ++ wsX60)
def wsX6_giver : List Cond := .code yX6_giver cX6_giver 5 (some .int) :: ([.fieldLink RX6 149 "MirrorNetModel" "ordered" "I", .fieldLink RX6 84 "MirrorNetModel" "order" "[I", .fieldLink RX6 81 "MirrorNetModel" "bad" "[I", .fieldLink RX6 51 "MirrorNetModel" "hasFile" "[Z", .fieldLink RX6 47 "MirrorNetModel" "isLying" "[Z", .methodLink RX6 158 yX6_tells, .instanceMethod yX6_tells, .selects RX6 yX6_tells yX6_tells, .initialized RX6, .code yX6_tells cX6_tells 3 (some .boolean), .fieldLink RX6 152 "MirrorNetModel" "spent" "I", .fieldLink RX6 72 "MirrorNetModel" "costOf" "[I", .fieldLink RX6 155 "MirrorNetModel" "askings" "I", .methodLink RX6 130 yX6_isFallen, .instanceMethod yX6_isFallen, .selects RX6 yX6_isFallen yX6_isFallen, .code yX6_isFallen cX6_isFallen 3 (some .boolean), .fieldLink RX6 119 "MirrorNetModel" "falls" "I", .fieldLink RX6 60 "MirrorNetModel" "fallOf" "[I", .fieldLink RX6 63 "MirrorNetModel" "fallFrom" "[I", .fieldLink RX6 103 "MirrorNetModel" "now" "I", .fieldLink RX6 66 "MirrorNetModel" "fallTo" "[I"] ++ wsX60)
def wsX6_least_r1 : List Cond := [Cond.fieldLink RX6 113 "MirrorNetModel" "mirrors" "I", Cond.fieldLink RX6 72 "MirrorNetModel" "costOf" "[I", Cond.fieldLink RX6 47 "MirrorNetModel" "isLying" "[Z", Cond.fieldLink RX6 35 "MirrorNetModel" "index" "[I", Cond.fieldLink RX6 23 "MirrorNetModel" "named" "[I", Cond.fieldLink RX6 164 "MirrorNetModel" "askedIndex" "I", Cond.fieldLink RX6 167 "MirrorNetModel" "gotMany" "I", Cond.fieldLink RX6 51 "MirrorNetModel" "hasFile" "[Z", Cond.fieldLink RX6 87 "MirrorNetModel" "gotFile" "[I", Cond.methodLink RX6 130 yX6_isFallen, Cond.instanceMethod yX6_isFallen, Cond.selects RX6 yX6_isFallen yX6_isFallen, Cond.initialized RX6, Cond.code yX6_isFallen cX6_isFallen 3 (some .boolean), Cond.fieldLink RX6 119 "MirrorNetModel" "falls" "I", Cond.fieldLink RX6 60 "MirrorNetModel" "fallOf" "[I", Cond.fieldLink RX6 63 "MirrorNetModel" "fallFrom" "[I", Cond.fieldLink RX6 103 "MirrorNetModel" "now" "I", Cond.fieldLink RX6 66 "MirrorNetModel" "fallTo" "[I", Cond.methodLink RX6 161 yX6_isGood, Cond.instanceMethod yX6_isGood, Cond.selects RX6 yX6_isGood yX6_isGood, Cond.code yX6_isGood cX6_isGood 6 (some .boolean), Cond.fieldLink RX6 75 "MirrorNetModel" "bears" "[I"]
def wsX6_least_r2 : List Cond := [Cond.fieldLink RX6 13 "MirrorNetModel" "yankedAt" "[I", Cond.fieldLink RX6 69 "MirrorNetModel" "grace" "I", Cond.methodLink RX6 146 yX6_ageOf, Cond.instanceMethod yX6_ageOf, Cond.selects RX6 yX6_ageOf yX6_ageOf, Cond.code yX6_ageOf cX6_ageOf 2 (some .int), Cond.fieldLink RX6 16 "MirrorNetModel" "states" "I", Cond.fieldLink RX6 20 "MirrorNetModel" "stateTick" "[I"]
def wsX6_least : List Cond := .code yX6_least cX6_least 9 (some .int) :: ((wsX6_least_r1 ++ wsX6_least_r2) ++ wsX60)
def wsX6_ask_r1 : List Cond := [Cond.fieldLink RX6 170 "MirrorNetModel" "hasAsked" "Z", Cond.fieldLink RX6 152 "MirrorNetModel" "spent" "I", Cond.fieldLink RX6 155 "MirrorNetModel" "askings" "I", Cond.fieldLink RX6 167 "MirrorNetModel" "gotMany" "I", Cond.fieldLink RX6 174 "MirrorNetModel" "lacks" "I", Cond.fieldLink RX6 177 "MirrorNetModel" "foresight" "I", Cond.fieldLink RX6 78 "MirrorNetModel" "seen" "[I", Cond.fieldLink RX6 164 "MirrorNetModel" "askedIndex" "I", Cond.fieldLink RX6 23 "MirrorNetModel" "named" "[I", Cond.fieldLink RX6 87 "MirrorNetModel" "gotFile" "[I", Cond.fieldLink RX6 90 "MirrorNetModel" "gotPack" "[I", Cond.fieldLink RX6 93 "MirrorNetModel" "gotOf" "[I", Cond.methodLink RX6 143 yX6_isAsker, Cond.static yX6_isAsker, Cond.initialized RX6, Cond.code yX6_isAsker cX6_isAsker 1 (some .boolean), Cond.methodLink RX6 99 yX6_in, Cond.static yX6_in, Cond.code yX6_in cX6_in 3 (some .boolean), Cond.methodLink RX6 180 yX6_orders, Cond.instanceMethod yX6_orders, Cond.selects RX6 yX6_orders yX6_orders, Cond.code yX6_orders cX6_orders 4 none, Cond.fieldLink RX6 149 "MirrorNetModel" "ordered" "I"]
def wsX6_ask_r2 : List Cond := [Cond.fieldLink RX6 113 "MirrorNetModel" "mirrors" "I", Cond.fieldLink RX6 72 "MirrorNetModel" "costOf" "[I", Cond.fieldLink RX6 81 "MirrorNetModel" "bad" "[I", Cond.fieldLink RX6 84 "MirrorNetModel" "order" "[I", Cond.methodLink RX6 183 yX6_indexFor, Cond.instanceMethod yX6_indexFor, Cond.selects RX6 yX6_indexFor yX6_indexFor, Cond.code yX6_indexFor cX6_indexFor 4 (some .int), Cond.fieldLink RX6 47 "MirrorNetModel" "isLying" "[Z", Cond.fieldLink RX6 35 "MirrorNetModel" "index" "[I", Cond.methodLink RX6 158 yX6_tells, Cond.instanceMethod yX6_tells, Cond.selects RX6 yX6_tells yX6_tells, Cond.code yX6_tells cX6_tells 3 (some .boolean), Cond.methodLink RX6 130 yX6_isFallen, Cond.instanceMethod yX6_isFallen, Cond.selects RX6 yX6_isFallen yX6_isFallen, Cond.code yX6_isFallen cX6_isFallen 3 (some .boolean), Cond.fieldLink RX6 119 "MirrorNetModel" "falls" "I", Cond.fieldLink RX6 60 "MirrorNetModel" "fallOf" "[I", Cond.fieldLink RX6 63 "MirrorNetModel" "fallFrom" "[I", Cond.fieldLink RX6 103 "MirrorNetModel" "now" "I", Cond.fieldLink RX6 66 "MirrorNetModel" "fallTo" "[I", Cond.methodLink RX6 161 yX6_isGood]
def wsX6_ask_r3 : List Cond := [Cond.instanceMethod yX6_isGood, Cond.selects RX6 yX6_isGood yX6_isGood, Cond.code yX6_isGood cX6_isGood 6 (some .boolean), Cond.fieldLink RX6 75 "MirrorNetModel" "bears" "[I", Cond.fieldLink RX6 13 "MirrorNetModel" "yankedAt" "[I", Cond.fieldLink RX6 69 "MirrorNetModel" "grace" "I", Cond.methodLink RX6 146 yX6_ageOf, Cond.instanceMethod yX6_ageOf, Cond.selects RX6 yX6_ageOf yX6_ageOf, Cond.code yX6_ageOf cX6_ageOf 2 (some .int), Cond.fieldLink RX6 16 "MirrorNetModel" "states" "I", Cond.fieldLink RX6 20 "MirrorNetModel" "stateTick" "[I", Cond.methodLink RX6 186 yX6_giver, Cond.instanceMethod yX6_giver, Cond.selects RX6 yX6_giver yX6_giver, Cond.code yX6_giver cX6_giver 5 (some .int), Cond.fieldLink RX6 51 "MirrorNetModel" "hasFile" "[Z", Cond.methodLink RX6 190 yX6_least, Cond.instanceMethod yX6_least, Cond.selects RX6 yX6_least yX6_least, Cond.code yX6_least cX6_least 9 (some .int)]
def wsX6_ask : List Cond := .code yX6_ask cX6_ask 7 (some .int) :: ((wsX6_ask_r1 ++ (wsX6_ask_r2 ++ wsX6_ask_r3)) ++ wsX60)
def wsX6_asked : List Cond := .code yX6_asked cX6_asked 2 (some .int) :: ([.fieldLink RX6 170 "MirrorNetModel" "hasAsked" "Z", .fieldLink RX6 164 "MirrorNetModel" "askedIndex" "I", .fieldLink RX6 152 "MirrorNetModel" "spent" "I", .fieldLink RX6 155 "MirrorNetModel" "askings" "I", .fieldLink RX6 167 "MirrorNetModel" "gotMany" "I", .fieldLink RX6 174 "MirrorNetModel" "lacks" "I", .fieldLink RX6 177 "MirrorNetModel" "foresight" "I"] ++ wsX60)
def wsX6_got : List Cond := .code yX6_got cX6_got 3 (some .int) :: ([.fieldLink RX6 170 "MirrorNetModel" "hasAsked" "Z", .fieldLink RX6 167 "MirrorNetModel" "gotMany" "I", .fieldLink RX6 87 "MirrorNetModel" "gotFile" "[I", .fieldLink RX6 90 "MirrorNetModel" "gotPack" "[I", .fieldLink RX6 93 "MirrorNetModel" "gotOf" "[I", .methodLink RX6 99 yX6_in, .static yX6_in, .initialized RX6, .code yX6_in cX6_in 3 (some .boolean)] ++ wsX60)
def wsX6_asker : List Cond := .code yX6_asker cX6_asker 3 (some .int) :: ([.fieldLink RX6 78 "MirrorNetModel" "seen" "[I", .fieldLink RX6 75 "MirrorNetModel" "bears" "[I", .fieldLink RX6 81 "MirrorNetModel" "bad" "[I", .methodLink RX6 143 yX6_isAsker, .static yX6_isAsker, .initialized RX6, .code yX6_isAsker cX6_isAsker 1 (some .boolean), .methodLink RX6 99 yX6_in, .static yX6_in, .code yX6_in cX6_in 3 (some .boolean)] ++ wsX60)
def wsX6_names : List Cond := .code yX6_names cX6_names 3 (some .int) :: ([.fieldLink RX6 16 "MirrorNetModel" "states" "I", .fieldLink RX6 23 "MirrorNetModel" "named" "[I", .methodLink RX6 99 yX6_in, .static yX6_in, .initialized RX6, .code yX6_in cX6_in 3 (some .boolean)] ++ wsX60)
def wsX6_state : List Cond := .code yX6_state cX6_state 5 (some .int) :: ([.fieldLink RX6 16 "MirrorNetModel" "states" "I", .fieldLink RX6 20 "MirrorNetModel" "stateTick" "[I", .fieldLink RX6 23 "MirrorNetModel" "named" "[I", .fieldLink RX6 96 "MirrorNetModel" "files" "I", .fieldLink RX6 7 "MirrorNetModel" "size" "[I", .methodLink RX6 99 yX6_in, .static yX6_in, .initialized RX6, .code yX6_in cX6_in 3 (some .boolean), .methodLink RX6 146 yX6_ageOf, .instanceMethod yX6_ageOf, .selects RX6 yX6_ageOf yX6_ageOf, .code yX6_ageOf cX6_ageOf 2 (some .int), .fieldLink RX6 103 "MirrorNetModel" "now" "I", .methodLink RX6 122 yX6_isNamed, .instanceMethod yX6_isNamed, .selects RX6 yX6_isNamed yX6_isNamed, .code yX6_isNamed cX6_isNamed 4 (some .boolean)] ++ wsX60)
def wsX6_about_r1 : List Cond := [Cond.fieldLink RX6 41 "MirrorNetModel" "done" "[I", Cond.fieldLink RX6 96 "MirrorNetModel" "files" "I", Cond.fieldLink RX6 51 "MirrorNetModel" "hasFile" "[Z", Cond.fieldLink RX6 7 "MirrorNetModel" "size" "[I", Cond.fieldLink RX6 38 "MirrorNetModel" "target" "[I", Cond.fieldLink RX6 35 "MirrorNetModel" "index" "[I", Cond.fieldLink RX6 44 "MirrorNetModel" "taken" "[I", Cond.fieldLink RX6 47 "MirrorNetModel" "isLying" "[Z", Cond.methodLink RX6 116 yX6_isMirror, Cond.instanceMethod yX6_isMirror, Cond.selects RX6 yX6_isMirror yX6_isMirror, Cond.initialized RX6, Cond.code yX6_isMirror cX6_isMirror 2 (some .boolean), Cond.fieldLink RX6 113 "MirrorNetModel" "mirrors" "I", Cond.methodLink RX6 99 yX6_in, Cond.static yX6_in, Cond.code yX6_in cX6_in 3 (some .boolean), Cond.methodLink RX6 122 yX6_isNamed, Cond.instanceMethod yX6_isNamed, Cond.selects RX6 yX6_isNamed yX6_isNamed, Cond.code yX6_isNamed cX6_isNamed 4 (some .boolean), Cond.fieldLink RX6 23 "MirrorNetModel" "named" "[I", Cond.methodLink RX6 130 yX6_isFallen, Cond.instanceMethod yX6_isFallen]
def wsX6_about_r2 : List Cond := [Cond.selects RX6 yX6_isFallen yX6_isFallen, Cond.code yX6_isFallen cX6_isFallen 3 (some .boolean), Cond.fieldLink RX6 119 "MirrorNetModel" "falls" "I", Cond.fieldLink RX6 60 "MirrorNetModel" "fallOf" "[I", Cond.fieldLink RX6 63 "MirrorNetModel" "fallFrom" "[I", Cond.fieldLink RX6 103 "MirrorNetModel" "now" "I", Cond.fieldLink RX6 66 "MirrorNetModel" "fallTo" "[I"]
def wsX6_about : List Cond := .code yX6_about cX6_about 8 (some .int) :: ((wsX6_about_r1 ++ wsX6_about_r2) ++ wsX60)
def wsX6_has : List Cond := .code yX6_has cX6_has 3 (some .int) :: ([.fieldLink RX6 51 "MirrorNetModel" "hasFile" "[Z", .methodLink RX6 116 yX6_isMirror, .instanceMethod yX6_isMirror, .selects RX6 yX6_isMirror yX6_isMirror, .initialized RX6, .code yX6_isMirror cX6_isMirror 2 (some .boolean), .fieldLink RX6 113 "MirrorNetModel" "mirrors" "I", .methodLink RX6 99 yX6_in, .static yX6_in, .code yX6_in cX6_in 3 (some .boolean), .methodLink RX6 106 yX6_isFile, .instanceMethod yX6_isFile, .selects RX6 yX6_isFile yX6_isFile, .code yX6_isFile cX6_isFile 2 (some .boolean), .fieldLink RX6 96 "MirrorNetModel" "files" "I"] ++ wsX60)
def wsX6_count : List Cond := .code yX6_count cX6_count 4 (some .int) :: ([.fieldLink RX6 103 "MirrorNetModel" "now" "I", .fieldLink RX6 96 "MirrorNetModel" "files" "I", .fieldLink RX6 16 "MirrorNetModel" "states" "I", .fieldLink RX6 113 "MirrorNetModel" "mirrors" "I", .fieldLink RX6 119 "MirrorNetModel" "falls" "I", .fieldLink RX6 69 "MirrorNetModel" "grace" "I", .fieldLink RX6 13 "MirrorNetModel" "yankedAt" "[I"] ++ wsX60)
def wsJ9_min_7cf53 : List Cond := .code yJ9_min_7cf53 cJ9_min_7cf53 2 (some .int) :: ([])
def wsL_law_r1 : List Cond := [Cond.classLink RL 7 RX5, Cond.instantiable RX5 8, Cond.initialized RX5, Cond.classLink RL 10 RX6, Cond.instantiable RX6 40, Cond.initialized RX6, Cond.methodLink RL 9 yX5_init, Cond.instanceMethod yX5_init, Cond.code yX5_init cX5_init 2 none, Cond.methodLink RX5 3 objectInit, Cond.instanceMethod objectInit, Cond.code objectInit ⟨#[0xb1]⟩ 1 none, Cond.classLink RX5 9 RX4, Cond.instantiable RX4 8, Cond.initialized RX4, Cond.fieldLink RX5 12 "MirrorNet" "shelf" "LMirrorNet$Shelf;", Cond.classLink RX5 16 RX2, Cond.instantiable RX2 4, Cond.initialized RX2, Cond.fieldLink RX5 19 "MirrorNet" "falls" "LMirrorNet$Falls;", Cond.classLink RX5 23 RX3, Cond.fieldLink RX5 25 "MirrorNet" "mirrors" "[LMirrorNet$Mirror;", Cond.classLink RX5 29 RX0, Cond.fieldLink RX5 31 "MirrorNet" "askers" "[LMirrorNet$Asker;"]
def wsL_law_r2 : List Cond := [Cond.instantiable RX0 6, Cond.initialized RX0, Cond.classLink RX5 36 RX1, Cond.instantiable RX1 10, Cond.initialized RX1, Cond.fieldLink RX5 39 "MirrorNet" "latest" "LMirrorNet$Asking;", Cond.fieldLink RX5 43 "MirrorNet" "graceTicks" "I", Cond.instanceMethod yX4_init, Cond.code yX4_init cX4_init 1 none, Cond.methodLink RX4 3 objectInit, Cond.arrayClass .int, Cond.fieldLink RX4 9 "MirrorNet$Shelf" "sizes" "[I", Cond.fieldLink RX4 15 "MirrorNet$Shelf" "yankTicks" "[I", Cond.fieldLink RX4 18 "MirrorNet$Shelf" "stateTicks" "[I", Cond.arrayClass .long, Cond.fieldLink RX4 21 "MirrorNet$Shelf" "stateFiles" "[J", Cond.fieldLink RX4 25 "MirrorNet$Shelf" "named" "[I", Cond.fieldLink RX4 34 "MirrorNet$Shelf" "stateCount" "I", Cond.methodLink RX4 28 yJ7_fill_53178, Cond.static yJ7_fill_53178, Cond.initialized RJ7, Cond.code yJ7_fill_53178 cJ7_fill_53178 4 none, Cond.instanceMethod yX2_init, Cond.code yX2_init cX2_init 1 none]
def wsL_law_r3 : List Cond := [Cond.methodLink RX2 3 objectInit, Cond.fieldLink RX2 9 "MirrorNet$Falls" "who" "[I", Cond.fieldLink RX2 15 "MirrorNet$Falls" "firsts" "[I", Cond.fieldLink RX2 18 "MirrorNet$Falls" "lasts" "[I", Cond.instanceMethod yX0_init, Cond.code yX0_init cX0_init 1 none, Cond.methodLink RX0 3 objectInit, Cond.fieldLink RX0 9 "MirrorNet$Asker" "costs" "[I", Cond.fieldLink RX0 21 "MirrorNet$Asker" "line" "[I", Cond.fieldLink RX0 24 "MirrorNet$Asker" "mostAge" "I", Cond.fieldLink RX0 28 "MirrorNet$Asker" "last" "I", Cond.methodLink RX0 15 yJ7_fill_53178, Cond.instanceMethod yX1_init, Cond.code yX1_init cX1_init 1 none, Cond.methodLink RX1 3 objectInit, Cond.fieldLink RX1 9 "MirrorNet$Asking" "gotFiles" "[I", Cond.fieldLink RX1 15 "MirrorNet$Asking" "gotPackages" "[I", Cond.fieldLink RX1 18 "MirrorNet$Asking" "gotMirrors" "[I", Cond.methodLink RL 12 yX6_init, Cond.instanceMethod yX6_init, Cond.code yX6_init cX6_init 2 none, Cond.methodLink RX6 1 objectInit, Cond.fieldLink RX6 7 "MirrorNetModel" "size" "[I", Cond.fieldLink RX6 13 "MirrorNetModel" "yankedAt" "[I"]
def wsL_law_r4 : List Cond := [Cond.fieldLink RX6 16 "MirrorNetModel" "states" "I", Cond.fieldLink RX6 20 "MirrorNetModel" "stateTick" "[I", Cond.fieldLink RX6 23 "MirrorNetModel" "named" "[I", Cond.fieldLink RX6 26 "MirrorNetModel" "from" "[I", Cond.fieldLink RX6 29 "MirrorNetModel" "speed" "[I", Cond.fieldLink RX6 32 "MirrorNetModel" "keep" "[I", Cond.fieldLink RX6 35 "MirrorNetModel" "index" "[I", Cond.fieldLink RX6 38 "MirrorNetModel" "target" "[I", Cond.fieldLink RX6 41 "MirrorNetModel" "done" "[I", Cond.fieldLink RX6 44 "MirrorNetModel" "taken" "[I", Cond.arrayClass .boolean, Cond.fieldLink RX6 47 "MirrorNetModel" "isLying" "[Z", Cond.fieldLink RX6 51 "MirrorNetModel" "hasFile" "[Z", Cond.fieldLink RX6 54 "MirrorNetModel" "ahead" "[I", Cond.fieldLink RX6 57 "MirrorNetModel" "aheadMany" "[I", Cond.fieldLink RX6 60 "MirrorNetModel" "fallOf" "[I", Cond.fieldLink RX6 63 "MirrorNetModel" "fallFrom" "[I", Cond.fieldLink RX6 66 "MirrorNetModel" "fallTo" "[I", Cond.fieldLink RX6 69 "MirrorNetModel" "grace" "I", Cond.fieldLink RX6 72 "MirrorNetModel" "costOf" "[I", Cond.fieldLink RX6 75 "MirrorNetModel" "bears" "[I", Cond.fieldLink RX6 78 "MirrorNetModel" "seen" "[I", Cond.fieldLink RX6 81 "MirrorNetModel" "bad" "[I", Cond.fieldLink RX6 84 "MirrorNetModel" "order" "[I"]
def wsL_law_r5 : List Cond := [Cond.fieldLink RX6 87 "MirrorNetModel" "gotFile" "[I", Cond.fieldLink RX6 90 "MirrorNetModel" "gotPack" "[I", Cond.fieldLink RX6 93 "MirrorNetModel" "gotOf" "[I", Cond.methodLink RL 13 yX5_file, Cond.instanceMethod yX5_file, Cond.selects RX5 yX5_file yX5_file, Cond.code yX5_file cX5_file 2 (some .int), Cond.methodLink RX5 47 yX5_isWithin, Cond.static yX5_isWithin, Cond.code yX5_isWithin cX5_isWithin 3 (some .boolean), Cond.instanceMethod yX4_addFile, Cond.selects RX4 yX4_addFile yX4_addFile, Cond.code yX4_addFile cX4_addFile 2 (some .int), Cond.fieldLink RX4 38 "MirrorNet$Shelf" "fileCount" "I", Cond.methodLink RL 17 yX6_file, Cond.instanceMethod yX6_file, Cond.selects RX6 yX6_file yX6_file, Cond.code yX6_file cX6_file 2 (some .int), Cond.fieldLink RX6 96 "MirrorNetModel" "files" "I", Cond.methodLink RX6 99 yX6_in, Cond.static yX6_in, Cond.code yX6_in cX6_in 3 (some .boolean), Cond.methodLink RL 18 yX5_put, Cond.instanceMethod yX5_put]
def wsL_law_r6 : List Cond := [Cond.selects RX5 yX5_put yX5_put, Cond.code yX5_put cX5_put 3 (some .int), Cond.fieldLink RX5 55 "MirrorNet" "now" "I", Cond.instanceMethod yX4_addPut, Cond.selects RX4 yX4_addPut yX4_addPut, Cond.code yX4_addPut cX4_addPut 5 (some .int), Cond.methodLink RX4 45 yX4_mayChange, Cond.instanceMethod yX4_mayChange, Cond.selects RX4 yX4_mayChange yX4_mayChange, Cond.code yX4_mayChange cX4_mayChange 2 (some .boolean), Cond.fieldLink RX4 65 "MirrorNet$Shelf" "yanked" "J", Cond.methodLink RX4 73 yX4_hasFile, Cond.instanceMethod yX4_hasFile, Cond.selects RX4 yX4_hasFile yX4_hasFile, Cond.code yX4_hasFile cX4_hasFile 2 (some .boolean), Cond.static yX5_bitOf, Cond.code yX5_bitOf cX5_bitOf 1 (some .long), Cond.methodLink RX4 49 yX4_latestState, Cond.instanceMethod yX4_latestState, Cond.selects RX4 yX4_latestState yX4_latestState, Cond.code yX4_latestState cX4_latestState 1 (some .int), Cond.methodLink RX4 53 yX4_namedBy, Cond.instanceMethod yX4_namedBy, Cond.selects RX4 yX4_namedBy yX4_namedBy]
def wsL_law_r7 : List Cond := [Cond.code yX4_namedBy cX4_namedBy 3 (some .int), Cond.methodLink RX4 82 yX4_hasState, Cond.instanceMethod yX4_hasState, Cond.selects RX4 yX4_hasState yX4_hasState, Cond.code yX4_hasState cX4_hasState 2 (some .boolean), Cond.methodLink RX4 57 yX4_addState, Cond.instanceMethod yX4_addState, Cond.selects RX4 yX4_addState yX4_addState, Cond.code yX4_addState cX4_addState 3 (some .int), Cond.methodLink RX4 76 arraycopyName, Cond.native arraycopyName, Cond.static arraycopyName, Cond.initialized "java/lang/System", Cond.methodLink RX4 61 yX4_gatherFiles, Cond.instanceMethod yX4_gatherFiles, Cond.selects RX4 yX4_gatherFiles yX4_gatherFiles, Cond.code yX4_gatherFiles cX4_gatherFiles 5 none, Cond.methodLink RL 22 yX6_put, Cond.instanceMethod yX6_put, Cond.selects RX6 yX6_put yX6_put, Cond.code yX6_put cX6_put 3 (some .int), Cond.methodLink RX6 106 yX6_isFile, Cond.instanceMethod yX6_isFile, Cond.selects RX6 yX6_isFile yX6_isFile]
def wsL_law_r8 : List Cond := [Cond.code yX6_isFile cX6_isFile 2 (some .boolean), Cond.methodLink RX6 110 yX6_comes, Cond.instanceMethod yX6_comes, Cond.selects RX6 yX6_comes yX6_comes, Cond.code yX6_comes cX6_comes 2 none, Cond.fieldLink RX6 103 "MirrorNetModel" "now" "I", Cond.methodLink RL 23 yX5_yank, Cond.instanceMethod yX5_yank, Cond.selects RX5 yX5_yank yX5_yank, Cond.code yX5_yank cX5_yank 2 (some .int), Cond.instanceMethod yX4_addYank, Cond.selects RX4 yX4_addYank yX4_addYank, Cond.code yX4_addYank cX4_addYank 5 (some .int), Cond.methodLink RL 26 yX6_yank, Cond.instanceMethod yX6_yank, Cond.selects RX6 yX6_yank yX6_yank, Cond.code yX6_yank cX6_yank 3 (some .int), Cond.methodLink RL 27 yX5_mirror, Cond.instanceMethod yX5_mirror, Cond.selects RX5 yX5_mirror yX5_mirror, Cond.code yX5_mirror cX5_mirror 4 (some .int), Cond.fieldLink RX5 90 "MirrorNet" "mirrorCount" "I", Cond.instantiable RX3 10, Cond.initialized RX3]
def wsL_law_r9 : List Cond := [Cond.instanceMethod yX3_init, Cond.code yX3_init cX3_init 4 none, Cond.methodLink RX3 3 objectInit, Cond.fieldLink RX3 9 "MirrorNet$Mirror" "source" "I", Cond.fieldLink RX3 15 "MirrorNet$Mirror" "bytesATick" "I", Cond.fieldLink RX3 18 "MirrorNet$Mirror" "keep" "I", Cond.fieldLink RX3 21 "MirrorNet$Mirror" "earlier" "[I", Cond.fieldLink RX3 31 "MirrorNet$Mirror" "target" "I", Cond.methodLink RX3 25 yJ7_fill_53178, Cond.methodLink RL 31 yX6_mirror, Cond.instanceMethod yX6_mirror, Cond.selects RX6 yX6_mirror yX6_mirror, Cond.code yX6_mirror cX6_mirror 4 (some .int), Cond.fieldLink RX6 113 "MirrorNetModel" "mirrors" "I", Cond.methodLink RL 32 yX5_speed, Cond.instanceMethod yX5_speed, Cond.selects RX5 yX5_speed yX5_speed, Cond.code yX5_speed cX5_speed 5 (some .int), Cond.methodLink RX5 96 yX5_mirrorAt, Cond.instanceMethod yX5_mirrorAt, Cond.selects RX5 yX5_mirrorAt yX5_mirrorAt, Cond.code yX5_mirrorAt cX5_mirrorAt 2 (some (.object "MirrorNet$Mirror")), Cond.methodLink RL 35 yX6_speed, Cond.instanceMethod yX6_speed]
def wsL_law_r10 : List Cond := [Cond.selects RX6 yX6_speed yX6_speed, Cond.code yX6_speed cX6_speed 4 (some .int), Cond.methodLink RX6 116 yX6_isMirror, Cond.instanceMethod yX6_isMirror, Cond.selects RX6 yX6_isMirror yX6_isMirror, Cond.code yX6_isMirror cX6_isMirror 2 (some .boolean), Cond.methodLink RL 36 yX5_fall, Cond.instanceMethod yX5_fall, Cond.selects RX5 yX5_fall yX5_fall, Cond.code yX5_fall cX5_fall 4 (some .int), Cond.instanceMethod yX2_add, Cond.selects RX2 yX2_add yX2_add, Cond.code yX2_add cX2_add 4 (some .int), Cond.fieldLink RX2 21 "MirrorNet$Falls" "told" "I", Cond.methodLink RL 39 yX6_fall, Cond.instanceMethod yX6_fall, Cond.selects RX6 yX6_fall yX6_fall, Cond.code yX6_fall cX6_fall 4 (some .int), Cond.fieldLink RX6 119 "MirrorNetModel" "falls" "I", Cond.methodLink RL 40 yX5_lies, Cond.instanceMethod yX5_lies, Cond.selects RX5 yX5_lies yX5_lies, Cond.code yX5_lies cX5_lies 4 (some .boolean), Cond.methodLink RL 44 yX6_lies]
def wsL_law_r11 : List Cond := [Cond.instanceMethod yX6_lies, Cond.selects RX6 yX6_lies yX6_lies, Cond.code yX6_lies cX6_lies 3 (some .boolean), Cond.methodLink RL 45 yX5_pass, Cond.instanceMethod yX5_pass, Cond.selects RX5 yX5_pass yX5_pass, Cond.code yX5_pass cX5_pass 3 (some .int), Cond.methodLink RX5 110 yX5_stepAll, Cond.instanceMethod yX5_stepAll, Cond.selects RX5 yX5_stepAll yX5_stepAll, Cond.code yX5_stepAll cX5_stepAll 5 none, Cond.instanceMethod yX2_downAt, Cond.selects RX2 yX2_downAt yX2_downAt, Cond.code yX2_downAt cX2_downAt 4 (some .int), Cond.methodLink RX5 137 yX5_isIn, Cond.static yX5_isIn, Cond.code yX5_isIn cX5_isIn 2 (some .boolean), Cond.instanceMethod yX4_allFiles, Cond.selects RX4 yX4_allFiles yX4_allFiles, Cond.code yX4_allFiles cX4_allFiles 1 (some .long), Cond.instanceMethod yX3_step, Cond.selects RX3 yX3_step yX3_step, Cond.code yX3_step cX3_step 5 none, Cond.fieldLink RX3 60 "MirrorNet$Mirror" "index" "I"]
def wsL_law_r12 : List Cond := [Cond.methodLink RX3 63 yX3_copyFiles, Cond.instanceMethod yX3_copyFiles, Cond.selects RX3 yX3_copyFiles yX3_copyFiles, Cond.code yX3_copyFiles cX3_copyFiles 9 none, Cond.fieldLink RX3 57 "MirrorNet$Mirror" "done" "I", Cond.methodLink RX3 49 yX3_missing, Cond.instanceMethod yX3_missing, Cond.selects RX3 yX3_missing yX3_missing, Cond.code yX3_missing cX3_missing 2 (some .long), Cond.fieldLink RX3 34 "MirrorNet$Mirror" "files" "J", Cond.constantLong RX3 47 (-1), Cond.instanceMethod yX4_filesOf, Cond.selects RX4 yX4_filesOf yX4_filesOf, Cond.code yX4_filesOf cX4_filesOf 2 (some .long), Cond.static yX5_leastOf, Cond.code yX5_leastOf cX5_leastOf 2 (some .int), Cond.methodLink RX5 123 yJ13_bitCount_95d88, Cond.static yJ13_bitCount_95d88, Cond.initialized RJ13, Cond.code yJ13_bitCount_95d88 cJ13_bitCount_95d88 2 (some .int), Cond.constantLong RJ13 314 (6148914691236517205), Cond.constantLong RJ13 316 (3689348814741910323), Cond.constantLong RJ13 318 (1085102592571150095), Cond.instanceMethod yX4_sizeOf]
def wsL_law_r13 : List Cond := [Cond.selects RX4 yX4_sizeOf yX4_sizeOf, Cond.code yX4_sizeOf cX4_sizeOf 2 (some .int), Cond.methodLink RX3 81 yX3_takeBytes, Cond.instanceMethod yX3_takeBytes, Cond.selects RX3 yX3_takeBytes yX3_takeBytes, Cond.code yX3_takeBytes cX3_takeBytes 5 (some .int), Cond.methodLink RX3 85 Lib.Math.min.name, Cond.static Lib.Math.min.name, Cond.initialized "java/lang/Math", Cond.code Lib.Math.min.name Lib.Math.min.code 2 (some .int), Cond.fieldLink RX3 91 "MirrorNet$Mirror" "taken" "I", Cond.methodLink RX3 67 yX3_takeIndex, Cond.instanceMethod yX3_takeIndex, Cond.selects RX3 yX3_takeIndex yX3_takeIndex, Cond.code yX3_takeIndex cX3_takeIndex 2 none, Cond.methodLink RX3 70 yX3_dropOld, Cond.instanceMethod yX3_dropOld, Cond.selects RX3 yX3_dropOld yX3_dropOld, Cond.code yX3_dropOld cX3_dropOld 5 none, Cond.methodLink RL 48 yX6_pass, Cond.instanceMethod yX6_pass, Cond.selects RX6 yX6_pass yX6_pass, Cond.code yX6_pass cX6_pass 4 (some .int), Cond.methodLink RX6 140 yX6_goes]
def wsL_law_r14 : List Cond := [Cond.instanceMethod yX6_goes, Cond.selects RX6 yX6_goes yX6_goes, Cond.code yX6_goes cX6_goes 3 none, Cond.methodLink RX6 130 yX6_isFallen, Cond.instanceMethod yX6_isFallen, Cond.selects RX6 yX6_isFallen yX6_isFallen, Cond.code yX6_isFallen cX6_isFallen 3 (some .boolean), Cond.methodLink RX6 133 yX6_copies, Cond.instanceMethod yX6_copies, Cond.selects RX6 yX6_copies yX6_copies, Cond.code yX6_copies cX6_copies 5 (some .boolean), Cond.methodLink RX6 126 yX6_lacking, Cond.instanceMethod yX6_lacking, Cond.selects RX6 yX6_lacking yX6_lacking, Cond.code yX6_lacking cX6_lacking 3 (some .int), Cond.methodLink RX6 122 yX6_isNamed, Cond.instanceMethod yX6_isNamed, Cond.selects RX6 yX6_isNamed yX6_isNamed, Cond.code yX6_isNamed cX6_isNamed 4 (some .boolean), Cond.methodLink RX6 136 yX6_turns, Cond.instanceMethod yX6_turns, Cond.selects RX6 yX6_turns yX6_turns, Cond.code yX6_turns cX6_turns 5 none, Cond.methodLink RL 49 yX5_cost]
def wsL_law_r15 : List Cond := [Cond.instanceMethod yX5_cost, Cond.selects RX5 yX5_cost yX5_cost, Cond.code yX5_cost cX5_cost 6 (some .int), Cond.methodLink RX5 151 yX5_askerAt, Cond.instanceMethod yX5_askerAt, Cond.selects RX5 yX5_askerAt yX5_askerAt, Cond.code yX5_askerAt cX5_askerAt 2 (some (.object "MirrorNet$Asker")), Cond.instanceMethod yX0_costOf, Cond.selects RX0 yX0_costOf yX0_costOf, Cond.code yX0_costOf cX0_costOf 2 (some .int), Cond.instanceMethod yX0_setCost, Cond.selects RX0 yX0_setCost yX0_setCost, Cond.code yX0_setCost cX0_setCost 3 none, Cond.methodLink RL 52 yX6_cost, Cond.instanceMethod yX6_cost, Cond.selects RX6 yX6_cost yX6_cost, Cond.code yX6_cost cX6_cost 5 (some .int), Cond.methodLink RX6 143 yX6_isAsker, Cond.static yX6_isAsker, Cond.code yX6_isAsker cX6_isAsker 1 (some .boolean), Cond.methodLink RL 53 yX5_bears, Cond.instanceMethod yX5_bears, Cond.selects RX5 yX5_bears yX5_bears, Cond.code yX5_bears cX5_bears 5 (some .int)]
def wsL_law_r16 : List Cond := [Cond.methodLink RL 56 yX6_bears, Cond.instanceMethod yX6_bears, Cond.selects RX6 yX6_bears yX6_bears, Cond.code yX6_bears cX6_bears 4 (some .int), Cond.methodLink RL 57 yX5_grace, Cond.instanceMethod yX5_grace, Cond.selects RX5 yX5_grace yX5_grace, Cond.code yX5_grace cX5_grace 3 (some .int), Cond.methodLink RL 60 yX6_grace, Cond.instanceMethod yX6_grace, Cond.selects RX6 yX6_grace yX6_grace, Cond.code yX6_grace cX6_grace 3 (some .int), Cond.methodLink RL 61 yX5_forgives, Cond.instanceMethod yX5_forgives, Cond.selects RX5 yX5_forgives yX5_forgives, Cond.code yX5_forgives cX5_forgives 4 (some .int), Cond.methodLink RX5 168 yJ6_bitCount_0f7a4, Cond.static yJ6_bitCount_0f7a4, Cond.initialized RJ6, Cond.code yJ6_bitCount_0f7a4 cJ6_bitCount_0f7a4 1 (some .int), Cond.constant RJ6 265 (1431655765), Cond.constant RJ6 266 (858993459), Cond.constant RJ6 267 (252645135), Cond.methodLink RL 64 yX6_forgives]
def wsL_law_r17 : List Cond := [Cond.instanceMethod yX6_forgives, Cond.selects RX6 yX6_forgives yX6_forgives, Cond.code yX6_forgives cX6_forgives 4 (some .int), Cond.methodLink RL 65 yX5_ask, Cond.instanceMethod yX5_ask, Cond.selects RX5 yX5_ask yX5_ask, Cond.code yX5_ask cX5_ask 7 (some .int), Cond.instanceMethod yX1_begin, Cond.selects RX1 yX1_begin yX1_begin, Cond.code yX1_begin cX1_begin 1 none, Cond.fieldLink RX1 21 "MirrorNet$Asking" "isAny" "Z", Cond.fieldLink RX1 25 "MirrorNet$Asking" "index" "I", Cond.fieldLink RX1 29 "MirrorNet$Asking" "spent" "I", Cond.fieldLink RX1 32 "MirrorNet$Asking" "askings" "I", Cond.fieldLink RX1 35 "MirrorNet$Asking" "gotCount" "I", Cond.fieldLink RX1 38 "MirrorNet$Asking" "lacking" "I", Cond.fieldLink RX1 41 "MirrorNet$Asking" "foresight" "I", Cond.instanceMethod yX0_lineUp, Cond.selects RX0 yX0_lineUp yX0_lineUp, Cond.code yX0_lineUp cX0_lineUp 2 none, Cond.fieldLink RX0 42 "MirrorNet$Asker" "lineLength" "I", Cond.methodLink RX0 45 yX0_knowsAsBad, Cond.instanceMethod yX0_knowsAsBad, Cond.selects RX0 yX0_knowsAsBad yX0_knowsAsBad]
def wsL_law_r18 : List Cond := [Cond.code yX0_knowsAsBad cX0_knowsAsBad 2 (some .boolean), Cond.fieldLink RX0 35 "MirrorNet$Asker" "bad" "I", Cond.methodLink RX0 49 yX0_putInLine, Cond.instanceMethod yX0_putInLine, Cond.selects RX0 yX0_putInLine yX0_putInLine, Cond.code yX0_putInLine cX0_putInLine 3 none, Cond.methodLink RX5 181 yX5_carryOut, Cond.instanceMethod yX5_carryOut, Cond.selects RX5 yX5_carryOut yX5_carryOut, Cond.code yX5_carryOut cX5_carryOut 4 (some .int), Cond.methodLink RX5 238 yX5_findIndex, Cond.instanceMethod yX5_findIndex, Cond.selects RX5 yX5_findIndex yX5_findIndex, Cond.code yX5_findIndex cX5_findIndex 6 (some .int), Cond.instanceMethod yX0_inLine, Cond.selects RX0 yX0_inLine yX0_inLine, Cond.code yX0_inLine cX0_inLine 2 (some .int), Cond.instanceMethod yX1_spend, Cond.selects RX1 yX1_spend yX1_spend, Cond.code yX1_spend cX1_spend 2 none, Cond.instanceMethod yX0_markBad, Cond.selects RX0 yX0_markBad yX0_markBad, Cond.code yX0_markBad cX0_markBad 2 none, Cond.methodLink RX5 264 yX5_suits]
def wsL_law_r19 : List Cond := [Cond.instanceMethod yX5_suits, Cond.selects RX5 yX5_suits yX5_suits, Cond.code yX5_suits cX5_suits 4 (some .boolean), Cond.instanceMethod yX4_ageOf, Cond.selects RX4 yX4_ageOf yX4_ageOf, Cond.code yX4_ageOf cX4_ageOf 3 (some .int), Cond.instanceMethod yX4_namesLongYanked, Cond.selects RX4 yX4_namesLongYanked yX4_namesLongYanked, Cond.code yX4_namesLongYanked cX4_namesLongYanked 7 (some .boolean), Cond.methodLink RX4 89 yX4_filesOf, Cond.methodLink RX5 242 yX5_firstNotNamed, Cond.instanceMethod yX5_firstNotNamed, Cond.selects RX5 yX5_firstNotNamed yX5_firstNotNamed, Cond.code yX5_firstNotNamed cX5_firstNotNamed 4 (some .int), Cond.methodLink RX5 245 yX5_getFiles, Cond.instanceMethod yX5_getFiles, Cond.selects RX5 yX5_getFiles yX5_getFiles, Cond.code yX5_getFiles cX5_getFiles 7 (some .int), Cond.methodLink RX5 270 yX5_findGiver, Cond.instanceMethod yX5_findGiver, Cond.selects RX5 yX5_findGiver yX5_findGiver, Cond.code yX5_findGiver cX5_findGiver 7 (some .int), Cond.instanceMethod yX3_holds, Cond.selects RX3 yX3_holds yX3_holds]
def wsL_law_r20 : List Cond := [Cond.code yX3_holds cX3_holds 2 (some .boolean), Cond.instanceMethod yX1_keepGot, Cond.selects RX1 yX1_keepGot yX1_keepGot, Cond.code yX1_keepGot cX1_keepGot 4 none, Cond.methodLink RX5 185 yX5_foresee, Cond.instanceMethod yX5_foresee, Cond.selects RX5 yX5_foresee yX5_foresee, Cond.code yX5_foresee cX5_foresee 7 (some .int), Cond.methodLink RX5 276 yX5_leastForIndex, Cond.instanceMethod yX5_leastForIndex, Cond.selects RX5 yX5_leastForIndex yX5_leastForIndex, Cond.code yX5_leastForIndex cX5_leastForIndex 8 (some .int), Cond.methodLink RX5 289 Lib.Math.min.name, Cond.methodLink RX5 282 yX5_wouldAnswer, Cond.static yX5_wouldAnswer, Cond.code yX5_wouldAnswer cX5_wouldAnswer 4 (some .boolean), Cond.instanceMethod yX4_namesAlike, Cond.selects RX4 yX4_namesAlike yX4_namesAlike, Cond.code yX4_namesAlike cX4_namesAlike 5 (some .boolean), Cond.methodLink RX5 279 yX5_leastForFile, Cond.instanceMethod yX5_leastForFile, Cond.selects RX5 yX5_leastForFile yX5_leastForFile, Cond.code yX5_leastForFile cX5_leastForFile 7 (some .int), Cond.methodLink RL 68 yX6_ask]
def wsL_law_r21 : List Cond := [Cond.instanceMethod yX6_ask, Cond.selects RX6 yX6_ask yX6_ask, Cond.code yX6_ask cX6_ask 7 (some .int), Cond.fieldLink RX6 170 "MirrorNetModel" "hasAsked" "Z", Cond.fieldLink RX6 152 "MirrorNetModel" "spent" "I", Cond.fieldLink RX6 155 "MirrorNetModel" "askings" "I", Cond.fieldLink RX6 167 "MirrorNetModel" "gotMany" "I", Cond.fieldLink RX6 174 "MirrorNetModel" "lacks" "I", Cond.fieldLink RX6 177 "MirrorNetModel" "foresight" "I", Cond.fieldLink RX6 164 "MirrorNetModel" "askedIndex" "I", Cond.methodLink RX6 180 yX6_orders, Cond.instanceMethod yX6_orders, Cond.selects RX6 yX6_orders yX6_orders, Cond.code yX6_orders cX6_orders 4 none, Cond.fieldLink RX6 149 "MirrorNetModel" "ordered" "I", Cond.methodLink RX6 183 yX6_indexFor, Cond.instanceMethod yX6_indexFor, Cond.selects RX6 yX6_indexFor yX6_indexFor, Cond.code yX6_indexFor cX6_indexFor 4 (some .int), Cond.methodLink RX6 158 yX6_tells, Cond.instanceMethod yX6_tells, Cond.selects RX6 yX6_tells yX6_tells, Cond.code yX6_tells cX6_tells 3 (some .boolean), Cond.methodLink RX6 161 yX6_isGood]
def wsL_law_r22 : List Cond := [Cond.instanceMethod yX6_isGood, Cond.selects RX6 yX6_isGood yX6_isGood, Cond.code yX6_isGood cX6_isGood 6 (some .boolean), Cond.methodLink RX6 146 yX6_ageOf, Cond.instanceMethod yX6_ageOf, Cond.selects RX6 yX6_ageOf yX6_ageOf, Cond.code yX6_ageOf cX6_ageOf 2 (some .int), Cond.methodLink RX6 186 yX6_giver, Cond.instanceMethod yX6_giver, Cond.selects RX6 yX6_giver yX6_giver, Cond.code yX6_giver cX6_giver 5 (some .int), Cond.methodLink RX6 190 yX6_least, Cond.instanceMethod yX6_least, Cond.selects RX6 yX6_least yX6_least, Cond.code yX6_least cX6_least 9 (some .int), Cond.methodLink RL 69 yX5_asked, Cond.instanceMethod yX5_asked, Cond.selects RX5 yX5_asked yX5_asked, Cond.code yX5_asked cX5_asked 2 (some .int), Cond.methodLink RL 72 yX6_asked, Cond.instanceMethod yX6_asked, Cond.selects RX6 yX6_asked yX6_asked, Cond.code yX6_asked cX6_asked 2 (some .int), Cond.methodLink RL 73 yX5_got]
def wsL_law_r23 : List Cond := [Cond.instanceMethod yX5_got, Cond.selects RX5 yX5_got yX5_got, Cond.code yX5_got cX5_got 3 (some .int), Cond.instanceMethod yX1_gotten, Cond.selects RX1 yX1_gotten yX1_gotten, Cond.code yX1_gotten cX1_gotten 3 (some .int), Cond.methodLink RL 76 yX6_got, Cond.instanceMethod yX6_got, Cond.selects RX6 yX6_got yX6_got, Cond.code yX6_got cX6_got 3 (some .int), Cond.methodLink RL 77 yX5_asker, Cond.instanceMethod yX5_asker, Cond.selects RX5 yX5_asker yX5_asker, Cond.code yX5_asker cX5_asker 4 (some .int), Cond.methodLink RL 80 yX6_asker, Cond.instanceMethod yX6_asker, Cond.selects RX6 yX6_asker yX6_asker, Cond.code yX6_asker cX6_asker 3 (some .int), Cond.methodLink RL 81 yX5_names, Cond.instanceMethod yX5_names, Cond.selects RX5 yX5_names yX5_names, Cond.code yX5_names cX5_names 3 (some .int), Cond.methodLink RL 84 yX6_names, Cond.instanceMethod yX6_names]
def wsL_law_r24 : List Cond := [Cond.selects RX6 yX6_names yX6_names, Cond.code yX6_names cX6_names 3 (some .int), Cond.methodLink RL 85 yX5_state, Cond.instanceMethod yX5_state, Cond.selects RX5 yX5_state yX5_state, Cond.code yX5_state cX5_state 3 (some .int), Cond.instanceMethod yX4_tickOf, Cond.selects RX4 yX4_tickOf yX4_tickOf, Cond.code yX4_tickOf cX4_tickOf 2 (some .int), Cond.instanceMethod yX4_packagesNamedIn, Cond.selects RX4 yX4_packagesNamedIn yX4_packagesNamedIn, Cond.code yX4_packagesNamedIn cX4_packagesNamedIn 4 (some .int), Cond.instanceMethod yX4_bytesOf, Cond.selects RX4 yX4_bytesOf yX4_bytesOf, Cond.code yX4_bytesOf cX4_bytesOf 5 (some .int), Cond.methodLink RL 88 yX6_state, Cond.instanceMethod yX6_state, Cond.selects RX6 yX6_state yX6_state, Cond.code yX6_state cX6_state 5 (some .int), Cond.methodLink RL 89 yX5_about, Cond.instanceMethod yX5_about, Cond.selects RX5 yX5_about yX5_about, Cond.code yX5_about cX5_about 4 (some .int), Cond.instanceMethod yX3_bytesWanted]
def wsL_law_r25 : List Cond := [Cond.selects RX3 yX3_bytesWanted yX3_bytesWanted, Cond.code yX3_bytesWanted cX3_bytesWanted 2 (some .int), Cond.methodLink RL 92 yX6_about, Cond.instanceMethod yX6_about, Cond.selects RX6 yX6_about yX6_about, Cond.code yX6_about cX6_about 8 (some .int), Cond.methodLink RL 93 yX5_has, Cond.instanceMethod yX5_has, Cond.selects RX5 yX5_has yX5_has, Cond.code yX5_has cX5_has 4 (some .int), Cond.methodLink RL 96 yX6_has, Cond.instanceMethod yX6_has, Cond.selects RX6 yX6_has yX6_has, Cond.code yX6_has cX6_has 3 (some .int), Cond.methodLink RL 97 yX5_count, Cond.instanceMethod yX5_count, Cond.selects RX5 yX5_count yX5_count, Cond.code yX5_count cX5_count 2 (some .int), Cond.methodLink RL 100 yX6_count, Cond.instanceMethod yX6_count, Cond.selects RX6 yX6_count yX6_count, Cond.code yX6_count cX6_count 4 (some .int)]
def wsL_law : List Cond := (wsL_law_r1 ++ (wsL_law_r2 ++ (wsL_law_r3 ++ (wsL_law_r4 ++ (wsL_law_r5 ++ (wsL_law_r6 ++ (wsL_law_r7 ++ (wsL_law_r8 ++ (wsL_law_r9 ++ (wsL_law_r10 ++ (wsL_law_r11 ++ (wsL_law_r12 ++ (wsL_law_r13 ++ (wsL_law_r14 ++ (wsL_law_r15 ++ (wsL_law_r16 ++ (wsL_law_r17 ++ (wsL_law_r18 ++ (wsL_law_r19 ++ (wsL_law_r20 ++ (wsL_law_r21 ++ (wsL_law_r22 ++ (wsL_law_r23 ++ (wsL_law_r24 ++ wsL_law_r25)))))))))))))))))))))))) ++ wsX50 ++ wsX60 ++ wsX40 ++ wsX20 ++ wsX00 ++ wsX10 ++ wsX30 ++ ([] : List Cond)
theorem inlX0 : ∀ w ∈ wsX00, w ∈ wsL_law := fun _ h => List.mem_append_left _ (List.mem_append_left _ (List.mem_append_left _ (List.mem_append_right _ h)))
theorem inlX1 : ∀ w ∈ wsX10, w ∈ wsL_law := fun _ h => List.mem_append_left _ (List.mem_append_left _ (List.mem_append_right _ h))
theorem inlX2 : ∀ w ∈ wsX20, w ∈ wsL_law := fun _ h => List.mem_append_left _ (List.mem_append_left _ (List.mem_append_left _ (List.mem_append_left _ (List.mem_append_right _ h))))
theorem inlX3 : ∀ w ∈ wsX30, w ∈ wsL_law := fun _ h => List.mem_append_left _ (List.mem_append_right _ h)
theorem inlX4 : ∀ w ∈ wsX40, w ∈ wsL_law := fun _ h => List.mem_append_left _ (List.mem_append_left _ (List.mem_append_left _ (List.mem_append_left _ (List.mem_append_left _ (List.mem_append_right _ h)))))
theorem inlX5 : ∀ w ∈ wsX50, w ∈ wsL_law := fun _ h => List.mem_append_left _ (List.mem_append_left _ (List.mem_append_left _ (List.mem_append_left _ (List.mem_append_left _ (List.mem_append_left _ (List.mem_append_left _ (List.mem_append_right _ h)))))))
theorem inlX6 : ∀ w ∈ wsX60, w ∈ wsL_law := fun _ h => List.mem_append_left _ (List.mem_append_left _ (List.mem_append_left _ (List.mem_append_left _ (List.mem_append_left _ (List.mem_append_left _ (List.mem_append_right _ h))))))
end
section
set_option maxRecDepth 20000 in
theorem ggX0_init_J7_fill_53178 : GoodIn wsX0_init wsJ7_fill_53178 := goodIn_r _ [12] (by decide +kernel) (by decide +kernel)
set_option maxRecDepth 20000 in
theorem gX0_init_J7_fill_53178 : GoodIn wsX0_init (va_wsS RX0 15 yJ7_fill_53178 wsJ7_fill_53178) := goodIn_app (goodIn_of _ (by decide +kernel)) ggX0_init_J7_fill_53178
theorem dX0_init_0 : decode cX0_init 0 = .ok (.aload_n 0, 1) := by decide +kernel
theorem dX0_init_1 : decode cX0_init 1 = .ok (.invokespecial 3, 3) := by decide +kernel
theorem dX0_init_4 : decode cX0_init 4 = .ok (.aload_n 0, 1) := by decide +kernel
theorem dX0_init_5 : decode cX0_init 5 = .ok (.bipush 8, 2) := by decide +kernel
theorem dX0_init_7 : decode cX0_init 7 = .ok (.newarray .int, 2) := by decide +kernel
theorem dX0_init_9 : decode cX0_init 9 = .ok (.putfield 9, 3) := by decide +kernel
theorem dX0_init_12 : decode cX0_init 12 = .ok (.aload_n 0, 1) := by decide +kernel
theorem dX0_init_13 : decode cX0_init 13 = .ok (.getfield 9, 3) := by decide +kernel
theorem dX0_init_16 : decode cX0_init 16 = .ok (.iconst (-1), 1) := by decide +kernel
theorem dX0_init_17 : decode cX0_init 17 = .ok (.invokestatic 15, 3) := by decide +kernel
theorem dX0_init_20 : decode cX0_init 20 = .ok (.aload_n 0, 1) := by decide +kernel
theorem dX0_init_21 : decode cX0_init 21 = .ok (.bipush 8, 2) := by decide +kernel
theorem dX0_init_23 : decode cX0_init 23 = .ok (.newarray .int, 2) := by decide +kernel
theorem dX0_init_25 : decode cX0_init 25 = .ok (.putfield 21, 3) := by decide +kernel
theorem dX0_init_28 : decode cX0_init 28 = .ok (.aload_n 0, 1) := by decide +kernel
theorem dX0_init_29 : decode cX0_init 29 = .ok (.sipush 9999, 3) := by decide +kernel
theorem dX0_init_32 : decode cX0_init 32 = .ok (.putfield 24, 3) := by decide +kernel
theorem dX0_init_35 : decode cX0_init 35 = .ok (.aload_n 0, 1) := by decide +kernel
theorem dX0_init_36 : decode cX0_init 36 = .ok (.iconst (-1), 1) := by decide +kernel
theorem dX0_init_37 : decode cX0_init 37 = .ok (.putfield 28, 3) := by decide +kernel
theorem dX0_init_40 : decode cX0_init 40 = .ok (.return_, 1) := by decide +kernel
set_option maxRecDepth 20000 in
theorem ggX0_costOf_X5_isWithin : GoodIn wsX0_costOf wsX5_isWithin := goodIn_r _ [4] (by decide +kernel) (by decide +kernel)
set_option maxRecDepth 20000 in
theorem gX0_costOf_X5_isWithin_n31 : GoodIn wsX0_costOf (wsX5_isWithin) := ggX0_costOf_X5_isWithin
theorem dX0_costOf_0 : decode cX0_costOf 0 = .ok (.iload_n 1, 1) := by decide +kernel
theorem dX0_costOf_1 : decode cX0_costOf 1 = .ok (.iconst 0, 1) := by decide +kernel
theorem dX0_costOf_2 : decode cX0_costOf 2 = .ok (.bipush 7, 2) := by decide +kernel
theorem dX0_costOf_4 : decode cX0_costOf 4 = .ok (.invokestatic 31, 3) := by decide +kernel
theorem dX0_costOf_7 : decode cX0_costOf 7 = .ok (.ifCond .eq 12, 3) := by decide +kernel
theorem dX0_costOf_10 : decode cX0_costOf 10 = .ok (.aload_n 0, 1) := by decide +kernel
theorem dX0_costOf_11 : decode cX0_costOf 11 = .ok (.getfield 9, 3) := by decide +kernel
theorem dX0_costOf_14 : decode cX0_costOf 14 = .ok (.iload_n 1, 1) := by decide +kernel
theorem dX0_costOf_15 : decode cX0_costOf 15 = .ok (.iaload, 1) := by decide +kernel
theorem dX0_costOf_16 : decode cX0_costOf 16 = .ok (.goto 4, 3) := by decide +kernel
theorem dX0_costOf_19 : decode cX0_costOf 19 = .ok (.iconst (-1), 1) := by decide +kernel
theorem dX0_costOf_20 : decode cX0_costOf 20 = .ok (.ireturn, 1) := by decide +kernel
set_option maxRecDepth 20000 in
theorem ggX0_setCost_X5_isWithin : GoodIn wsX0_setCost wsX5_isWithin := goodIn_r _ [4] (by decide +kernel) (by decide +kernel)
set_option maxRecDepth 20000 in
theorem gX0_setCost_X5_isWithin_n31 : GoodIn wsX0_setCost (wsX5_isWithin) := ggX0_setCost_X5_isWithin
theorem dX0_setCost_0 : decode cX0_setCost 0 = .ok (.iload_n 1, 1) := by decide +kernel
theorem dX0_setCost_1 : decode cX0_setCost 1 = .ok (.iconst 0, 1) := by decide +kernel
theorem dX0_setCost_2 : decode cX0_setCost 2 = .ok (.bipush 7, 2) := by decide +kernel
theorem dX0_setCost_4 : decode cX0_setCost 4 = .ok (.invokestatic 31, 3) := by decide +kernel
theorem dX0_setCost_7 : decode cX0_setCost 7 = .ok (.ifCond .eq 10, 3) := by decide +kernel
theorem dX0_setCost_10 : decode cX0_setCost 10 = .ok (.aload_n 0, 1) := by decide +kernel
theorem dX0_setCost_11 : decode cX0_setCost 11 = .ok (.getfield 9, 3) := by decide +kernel
theorem dX0_setCost_14 : decode cX0_setCost 14 = .ok (.iload_n 1, 1) := by decide +kernel
theorem dX0_setCost_15 : decode cX0_setCost 15 = .ok (.iload_n 2, 1) := by decide +kernel
theorem dX0_setCost_16 : decode cX0_setCost 16 = .ok (.iastore, 1) := by decide +kernel
theorem dX0_setCost_17 : decode cX0_setCost 17 = .ok (.return_, 1) := by decide +kernel
set_option maxRecDepth 20000 in
theorem ggX0_knowsAsBad_X5_isIn : GoodIn wsX0_knowsAsBad wsX5_isIn := goodIn_r _ [4, 5, 6, 3, 7] (by decide +kernel) (by decide +kernel)
set_option maxRecDepth 20000 in
theorem gX0_knowsAsBad_X5_isIn_n38 : GoodIn wsX0_knowsAsBad (wsX5_isIn) := ggX0_knowsAsBad_X5_isIn
theorem dX0_knowsAsBad_0 : decode cX0_knowsAsBad 0 = .ok (.aload_n 0, 1) := by decide +kernel
theorem dX0_knowsAsBad_1 : decode cX0_knowsAsBad 1 = .ok (.getfield 35, 3) := by decide +kernel
theorem dX0_knowsAsBad_4 : decode cX0_knowsAsBad 4 = .ok (.iload_n 1, 1) := by decide +kernel
theorem dX0_knowsAsBad_5 : decode cX0_knowsAsBad 5 = .ok (.invokestatic 38, 3) := by decide +kernel
theorem dX0_knowsAsBad_8 : decode cX0_knowsAsBad 8 = .ok (.ireturn, 1) := by decide +kernel
set_option maxRecDepth 20000 in
theorem ggX0_markBad_X5_isWithin : GoodIn wsX0_markBad wsX5_isWithin := goodIn_r _ [4] (by decide +kernel) (by decide +kernel)
set_option maxRecDepth 20000 in
theorem gX0_markBad_X5_isWithin_n31 : GoodIn wsX0_markBad (wsX5_isWithin) := ggX0_markBad_X5_isWithin
theorem dX0_markBad_0 : decode cX0_markBad 0 = .ok (.iload_n 1, 1) := by decide +kernel
theorem dX0_markBad_1 : decode cX0_markBad 1 = .ok (.iconst 0, 1) := by decide +kernel
theorem dX0_markBad_2 : decode cX0_markBad 2 = .ok (.bipush 7, 2) := by decide +kernel
theorem dX0_markBad_4 : decode cX0_markBad 4 = .ok (.invokestatic 31, 3) := by decide +kernel
theorem dX0_markBad_7 : decode cX0_markBad 7 = .ok (.ifCond .eq 15, 3) := by decide +kernel
theorem dX0_markBad_10 : decode cX0_markBad 10 = .ok (.aload_n 0, 1) := by decide +kernel
theorem dX0_markBad_11 : decode cX0_markBad 11 = .ok (.dup, 1) := by decide +kernel
theorem dX0_markBad_12 : decode cX0_markBad 12 = .ok (.getfield 35, 3) := by decide +kernel
theorem dX0_markBad_15 : decode cX0_markBad 15 = .ok (.iconst 1, 1) := by decide +kernel
theorem dX0_markBad_16 : decode cX0_markBad 16 = .ok (.iload_n 1, 1) := by decide +kernel
theorem dX0_markBad_17 : decode cX0_markBad 17 = .ok (.ishl, 1) := by decide +kernel
theorem dX0_markBad_18 : decode cX0_markBad 18 = .ok (.ior, 1) := by decide +kernel
theorem dX0_markBad_19 : decode cX0_markBad 19 = .ok (.putfield 35, 3) := by decide +kernel
theorem dX0_markBad_22 : decode cX0_markBad 22 = .ok (.return_, 1) := by decide +kernel
set_option maxRecDepth 20000 in
theorem ggX0_inLine_X5_isWithin : GoodIn wsX0_inLine wsX5_isWithin := goodIn_r _ [5] (by decide +kernel) (by decide +kernel)
set_option maxRecDepth 20000 in
theorem gX0_inLine_X5_isWithin_n31 : GoodIn wsX0_inLine (wsX5_isWithin) := ggX0_inLine_X5_isWithin
theorem dX0_inLine_0 : decode cX0_inLine 0 = .ok (.iload_n 1, 1) := by decide +kernel
theorem dX0_inLine_1 : decode cX0_inLine 1 = .ok (.iconst 0, 1) := by decide +kernel
theorem dX0_inLine_2 : decode cX0_inLine 2 = .ok (.aload_n 0, 1) := by decide +kernel
theorem dX0_inLine_3 : decode cX0_inLine 3 = .ok (.getfield 42, 3) := by decide +kernel
theorem dX0_inLine_6 : decode cX0_inLine 6 = .ok (.iconst 1, 1) := by decide +kernel
theorem dX0_inLine_7 : decode cX0_inLine 7 = .ok (.isub, 1) := by decide +kernel
theorem dX0_inLine_8 : decode cX0_inLine 8 = .ok (.invokestatic 31, 3) := by decide +kernel
theorem dX0_inLine_11 : decode cX0_inLine 11 = .ok (.ifCond .eq 12, 3) := by decide +kernel
theorem dX0_inLine_14 : decode cX0_inLine 14 = .ok (.aload_n 0, 1) := by decide +kernel
theorem dX0_inLine_15 : decode cX0_inLine 15 = .ok (.getfield 21, 3) := by decide +kernel
theorem dX0_inLine_18 : decode cX0_inLine 18 = .ok (.iload_n 1, 1) := by decide +kernel
theorem dX0_inLine_19 : decode cX0_inLine 19 = .ok (.iaload, 1) := by decide +kernel
theorem dX0_inLine_20 : decode cX0_inLine 20 = .ok (.goto 4, 3) := by decide +kernel
theorem dX0_inLine_23 : decode cX0_inLine 23 = .ok (.iconst (-1), 1) := by decide +kernel
theorem dX0_inLine_24 : decode cX0_inLine 24 = .ok (.ireturn, 1) := by decide +kernel
set_option maxRecDepth 20000 in
theorem ggX0_lineUp_X0_knowsAsBad : GoodIn wsX0_lineUp wsX0_knowsAsBad := goodIn_r _ [7, 8, 9, 10, 11, 12, 13, 14, 20, 21, 22, 23, 24, 25] (by decide +kernel) (by decide +kernel)
set_option maxRecDepth 20000 in
theorem gX0_lineUp_X0_knowsAsBad : GoodIn wsX0_lineUp (wsV RX0 45 RX0 yX0_knowsAsBad wsX0_knowsAsBad) := goodIn_app (goodIn_of _ (by decide +kernel)) ggX0_lineUp_X0_knowsAsBad
set_option maxRecDepth 20000 in
theorem ggX0_lineUp_X0_putInLine : GoodIn wsX0_lineUp wsX0_putInLine := goodIn_r _ [18, 1, 2, 19, 20, 21, 22, 23, 24, 25] (by decide +kernel) (by decide +kernel)
set_option maxRecDepth 20000 in
theorem gX0_lineUp_X0_putInLine : GoodIn wsX0_lineUp (wsV RX0 49 RX0 yX0_putInLine wsX0_putInLine) := goodIn_app (goodIn_of _ (by decide +kernel)) ggX0_lineUp_X0_putInLine
theorem dX0_lineUp_0 : decode cX0_lineUp 0 = .ok (.aload_n 0, 1) := by decide +kernel
theorem dX0_lineUp_1 : decode cX0_lineUp 1 = .ok (.iconst 0, 1) := by decide +kernel
theorem dX0_lineUp_2 : decode cX0_lineUp 2 = .ok (.putfield 42, 3) := by decide +kernel
theorem dX0_lineUp_5 : decode cX0_lineUp 5 = .ok (.iconst 0, 1) := by decide +kernel
theorem dX0_lineUp_6 : decode cX0_lineUp 6 = .ok (.istore_n 1, 1) := by decide +kernel
theorem dX0_lineUp_7 : decode cX0_lineUp 7 = .ok (.iload_n 1, 1) := by decide +kernel
theorem dX0_lineUp_8 : decode cX0_lineUp 8 = .ok (.bipush 8, 2) := by decide +kernel
theorem dX0_lineUp_10 : decode cX0_lineUp 10 = .ok (.if_icmp .ge 32, 3) := by decide +kernel
theorem dX0_lineUp_13 : decode cX0_lineUp 13 = .ok (.aload_n 0, 1) := by decide +kernel
theorem dX0_lineUp_14 : decode cX0_lineUp 14 = .ok (.getfield 9, 3) := by decide +kernel
theorem dX0_lineUp_17 : decode cX0_lineUp 17 = .ok (.iload_n 1, 1) := by decide +kernel
theorem dX0_lineUp_18 : decode cX0_lineUp 18 = .ok (.iaload, 1) := by decide +kernel
theorem dX0_lineUp_19 : decode cX0_lineUp 19 = .ok (.iconst (-1), 1) := by decide +kernel
theorem dX0_lineUp_20 : decode cX0_lineUp 20 = .ok (.if_icmp .eq 16, 3) := by decide +kernel
theorem dX0_lineUp_23 : decode cX0_lineUp 23 = .ok (.aload_n 0, 1) := by decide +kernel
theorem dX0_lineUp_24 : decode cX0_lineUp 24 = .ok (.iload_n 1, 1) := by decide +kernel
theorem dX0_lineUp_25 : decode cX0_lineUp 25 = .ok (.invokevirtual 45, 3) := by decide +kernel
theorem dX0_lineUp_28 : decode cX0_lineUp 28 = .ok (.ifCond .ne 8, 3) := by decide +kernel
theorem dX0_lineUp_31 : decode cX0_lineUp 31 = .ok (.aload_n 0, 1) := by decide +kernel
theorem dX0_lineUp_32 : decode cX0_lineUp 32 = .ok (.iload_n 1, 1) := by decide +kernel
theorem dX0_lineUp_33 : decode cX0_lineUp 33 = .ok (.invokevirtual 49, 3) := by decide +kernel
theorem dX0_lineUp_36 : decode cX0_lineUp 36 = .ok (.iinc 1 1, 3) := by decide +kernel
theorem dX0_lineUp_39 : decode cX0_lineUp 39 = .ok (.goto (-32), 3) := by decide +kernel
theorem dX0_lineUp_42 : decode cX0_lineUp 42 = .ok (.return_, 1) := by decide +kernel
theorem dX0_putInLine_0 : decode cX0_putInLine 0 = .ok (.aload_n 0, 1) := by decide +kernel
theorem dX0_putInLine_1 : decode cX0_putInLine 1 = .ok (.getfield 42, 3) := by decide +kernel
theorem dX0_putInLine_4 : decode cX0_putInLine 4 = .ok (.bipush 8, 2) := by decide +kernel
theorem dX0_putInLine_6 : decode cX0_putInLine 6 = .ok (.if_icmp .lt 4, 3) := by decide +kernel
theorem dX0_putInLine_9 : decode cX0_putInLine 9 = .ok (.return_, 1) := by decide +kernel
theorem dX0_putInLine_10 : decode cX0_putInLine 10 = .ok (.aload_n 0, 1) := by decide +kernel
theorem dX0_putInLine_11 : decode cX0_putInLine 11 = .ok (.getfield 42, 3) := by decide +kernel
theorem dX0_putInLine_14 : decode cX0_putInLine 14 = .ok (.istore_n 2, 1) := by decide +kernel
theorem dX0_putInLine_15 : decode cX0_putInLine 15 = .ok (.iload_n 2, 1) := by decide +kernel
theorem dX0_putInLine_16 : decode cX0_putInLine 16 = .ok (.ifCond .le 45, 3) := by decide +kernel
theorem dX0_putInLine_19 : decode cX0_putInLine 19 = .ok (.aload_n 0, 1) := by decide +kernel
theorem dX0_putInLine_20 : decode cX0_putInLine 20 = .ok (.getfield 9, 3) := by decide +kernel
theorem dX0_putInLine_23 : decode cX0_putInLine 23 = .ok (.aload_n 0, 1) := by decide +kernel
theorem dX0_putInLine_24 : decode cX0_putInLine 24 = .ok (.getfield 21, 3) := by decide +kernel
theorem dX0_putInLine_27 : decode cX0_putInLine 27 = .ok (.iload_n 2, 1) := by decide +kernel
theorem dX0_putInLine_28 : decode cX0_putInLine 28 = .ok (.iconst 1, 1) := by decide +kernel
theorem dX0_putInLine_29 : decode cX0_putInLine 29 = .ok (.isub, 1) := by decide +kernel
theorem dX0_putInLine_30 : decode cX0_putInLine 30 = .ok (.iaload, 1) := by decide +kernel
theorem dX0_putInLine_31 : decode cX0_putInLine 31 = .ok (.iaload, 1) := by decide +kernel
theorem dX0_putInLine_32 : decode cX0_putInLine 32 = .ok (.aload_n 0, 1) := by decide +kernel
theorem dX0_putInLine_33 : decode cX0_putInLine 33 = .ok (.getfield 9, 3) := by decide +kernel
theorem dX0_putInLine_36 : decode cX0_putInLine 36 = .ok (.iload_n 1, 1) := by decide +kernel
theorem dX0_putInLine_37 : decode cX0_putInLine 37 = .ok (.iaload, 1) := by decide +kernel
theorem dX0_putInLine_38 : decode cX0_putInLine 38 = .ok (.if_icmp .le 23, 3) := by decide +kernel
theorem dX0_putInLine_41 : decode cX0_putInLine 41 = .ok (.aload_n 0, 1) := by decide +kernel
theorem dX0_putInLine_42 : decode cX0_putInLine 42 = .ok (.getfield 21, 3) := by decide +kernel
theorem dX0_putInLine_45 : decode cX0_putInLine 45 = .ok (.iload_n 2, 1) := by decide +kernel
theorem dX0_putInLine_46 : decode cX0_putInLine 46 = .ok (.aload_n 0, 1) := by decide +kernel
theorem dX0_putInLine_47 : decode cX0_putInLine 47 = .ok (.getfield 21, 3) := by decide +kernel
theorem dX0_putInLine_50 : decode cX0_putInLine 50 = .ok (.iload_n 2, 1) := by decide +kernel
theorem dX0_putInLine_51 : decode cX0_putInLine 51 = .ok (.iconst 1, 1) := by decide +kernel
theorem dX0_putInLine_52 : decode cX0_putInLine 52 = .ok (.isub, 1) := by decide +kernel
theorem dX0_putInLine_53 : decode cX0_putInLine 53 = .ok (.iaload, 1) := by decide +kernel
theorem dX0_putInLine_54 : decode cX0_putInLine 54 = .ok (.iastore, 1) := by decide +kernel
theorem dX0_putInLine_55 : decode cX0_putInLine 55 = .ok (.iinc 2 (-1), 3) := by decide +kernel
theorem dX0_putInLine_58 : decode cX0_putInLine 58 = .ok (.goto (-43), 3) := by decide +kernel
theorem dX0_putInLine_61 : decode cX0_putInLine 61 = .ok (.aload_n 0, 1) := by decide +kernel
theorem dX0_putInLine_62 : decode cX0_putInLine 62 = .ok (.getfield 21, 3) := by decide +kernel
theorem dX0_putInLine_65 : decode cX0_putInLine 65 = .ok (.iload_n 2, 1) := by decide +kernel
theorem dX0_putInLine_66 : decode cX0_putInLine 66 = .ok (.iload_n 1, 1) := by decide +kernel
theorem dX0_putInLine_67 : decode cX0_putInLine 67 = .ok (.iastore, 1) := by decide +kernel
theorem dX0_putInLine_68 : decode cX0_putInLine 68 = .ok (.aload_n 0, 1) := by decide +kernel
theorem dX0_putInLine_69 : decode cX0_putInLine 69 = .ok (.dup, 1) := by decide +kernel
theorem dX0_putInLine_70 : decode cX0_putInLine 70 = .ok (.getfield 42, 3) := by decide +kernel
theorem dX0_putInLine_73 : decode cX0_putInLine 73 = .ok (.iconst 1, 1) := by decide +kernel
theorem dX0_putInLine_74 : decode cX0_putInLine 74 = .ok (.iadd, 1) := by decide +kernel
theorem dX0_putInLine_75 : decode cX0_putInLine 75 = .ok (.putfield 42, 3) := by decide +kernel
theorem dX0_putInLine_78 : decode cX0_putInLine 78 = .ok (.return_, 1) := by decide +kernel
theorem dX1_init_0 : decode cX1_init 0 = .ok (.aload_n 0, 1) := by decide +kernel
theorem dX1_init_1 : decode cX1_init 1 = .ok (.invokespecial 3, 3) := by decide +kernel
theorem dX1_init_4 : decode cX1_init 4 = .ok (.aload_n 0, 1) := by decide +kernel
theorem dX1_init_5 : decode cX1_init 5 = .ok (.bipush 12, 2) := by decide +kernel
theorem dX1_init_7 : decode cX1_init 7 = .ok (.newarray .int, 2) := by decide +kernel
theorem dX1_init_9 : decode cX1_init 9 = .ok (.putfield 9, 3) := by decide +kernel
theorem dX1_init_12 : decode cX1_init 12 = .ok (.aload_n 0, 1) := by decide +kernel
theorem dX1_init_13 : decode cX1_init 13 = .ok (.bipush 12, 2) := by decide +kernel
theorem dX1_init_15 : decode cX1_init 15 = .ok (.newarray .int, 2) := by decide +kernel
theorem dX1_init_17 : decode cX1_init 17 = .ok (.putfield 15, 3) := by decide +kernel
theorem dX1_init_20 : decode cX1_init 20 = .ok (.aload_n 0, 1) := by decide +kernel
theorem dX1_init_21 : decode cX1_init 21 = .ok (.bipush 12, 2) := by decide +kernel
theorem dX1_init_23 : decode cX1_init 23 = .ok (.newarray .int, 2) := by decide +kernel
theorem dX1_init_25 : decode cX1_init 25 = .ok (.putfield 18, 3) := by decide +kernel
theorem dX1_init_28 : decode cX1_init 28 = .ok (.return_, 1) := by decide +kernel
theorem dX1_begin_0 : decode cX1_begin 0 = .ok (.aload_n 0, 1) := by decide +kernel
theorem dX1_begin_1 : decode cX1_begin 1 = .ok (.iconst 1, 1) := by decide +kernel
theorem dX1_begin_2 : decode cX1_begin 2 = .ok (.putfield 21, 3) := by decide +kernel
theorem dX1_begin_5 : decode cX1_begin 5 = .ok (.aload_n 0, 1) := by decide +kernel
theorem dX1_begin_6 : decode cX1_begin 6 = .ok (.iconst (-1), 1) := by decide +kernel
theorem dX1_begin_7 : decode cX1_begin 7 = .ok (.putfield 25, 3) := by decide +kernel
theorem dX1_begin_10 : decode cX1_begin 10 = .ok (.aload_n 0, 1) := by decide +kernel
theorem dX1_begin_11 : decode cX1_begin 11 = .ok (.iconst 0, 1) := by decide +kernel
theorem dX1_begin_12 : decode cX1_begin 12 = .ok (.putfield 29, 3) := by decide +kernel
theorem dX1_begin_15 : decode cX1_begin 15 = .ok (.aload_n 0, 1) := by decide +kernel
theorem dX1_begin_16 : decode cX1_begin 16 = .ok (.iconst 0, 1) := by decide +kernel
theorem dX1_begin_17 : decode cX1_begin 17 = .ok (.putfield 32, 3) := by decide +kernel
theorem dX1_begin_20 : decode cX1_begin 20 = .ok (.aload_n 0, 1) := by decide +kernel
theorem dX1_begin_21 : decode cX1_begin 21 = .ok (.iconst 0, 1) := by decide +kernel
theorem dX1_begin_22 : decode cX1_begin 22 = .ok (.putfield 35, 3) := by decide +kernel
theorem dX1_begin_25 : decode cX1_begin 25 = .ok (.aload_n 0, 1) := by decide +kernel
theorem dX1_begin_26 : decode cX1_begin 26 = .ok (.iconst (-1), 1) := by decide +kernel
theorem dX1_begin_27 : decode cX1_begin 27 = .ok (.putfield 38, 3) := by decide +kernel
theorem dX1_begin_30 : decode cX1_begin 30 = .ok (.aload_n 0, 1) := by decide +kernel
theorem dX1_begin_31 : decode cX1_begin 31 = .ok (.iconst (-1), 1) := by decide +kernel
theorem dX1_begin_32 : decode cX1_begin 32 = .ok (.putfield 41, 3) := by decide +kernel
theorem dX1_begin_35 : decode cX1_begin 35 = .ok (.return_, 1) := by decide +kernel
theorem dX1_spend_0 : decode cX1_spend 0 = .ok (.aload_n 0, 1) := by decide +kernel
theorem dX1_spend_1 : decode cX1_spend 1 = .ok (.dup, 1) := by decide +kernel
theorem dX1_spend_2 : decode cX1_spend 2 = .ok (.getfield 29, 3) := by decide +kernel
theorem dX1_spend_5 : decode cX1_spend 5 = .ok (.iload_n 1, 1) := by decide +kernel
theorem dX1_spend_6 : decode cX1_spend 6 = .ok (.iadd, 1) := by decide +kernel
theorem dX1_spend_7 : decode cX1_spend 7 = .ok (.putfield 29, 3) := by decide +kernel
theorem dX1_spend_10 : decode cX1_spend 10 = .ok (.aload_n 0, 1) := by decide +kernel
theorem dX1_spend_11 : decode cX1_spend 11 = .ok (.dup, 1) := by decide +kernel
theorem dX1_spend_12 : decode cX1_spend 12 = .ok (.getfield 32, 3) := by decide +kernel
theorem dX1_spend_15 : decode cX1_spend 15 = .ok (.iconst 1, 1) := by decide +kernel
theorem dX1_spend_16 : decode cX1_spend 16 = .ok (.iadd, 1) := by decide +kernel
theorem dX1_spend_17 : decode cX1_spend 17 = .ok (.putfield 32, 3) := by decide +kernel
theorem dX1_spend_20 : decode cX1_spend 20 = .ok (.return_, 1) := by decide +kernel
theorem dX1_keepGot_0 : decode cX1_keepGot 0 = .ok (.aload_n 0, 1) := by decide +kernel
theorem dX1_keepGot_1 : decode cX1_keepGot 1 = .ok (.getfield 35, 3) := by decide +kernel
theorem dX1_keepGot_4 : decode cX1_keepGot 4 = .ok (.bipush 12, 2) := by decide +kernel
theorem dX1_keepGot_6 : decode cX1_keepGot 6 = .ok (.if_icmp .ge 43, 3) := by decide +kernel
theorem dX1_keepGot_9 : decode cX1_keepGot 9 = .ok (.aload_n 0, 1) := by decide +kernel
theorem dX1_keepGot_10 : decode cX1_keepGot 10 = .ok (.getfield 9, 3) := by decide +kernel
theorem dX1_keepGot_13 : decode cX1_keepGot 13 = .ok (.aload_n 0, 1) := by decide +kernel
theorem dX1_keepGot_14 : decode cX1_keepGot 14 = .ok (.getfield 35, 3) := by decide +kernel
theorem dX1_keepGot_17 : decode cX1_keepGot 17 = .ok (.iload_n 1, 1) := by decide +kernel
theorem dX1_keepGot_18 : decode cX1_keepGot 18 = .ok (.iastore, 1) := by decide +kernel
theorem dX1_keepGot_19 : decode cX1_keepGot 19 = .ok (.aload_n 0, 1) := by decide +kernel
theorem dX1_keepGot_20 : decode cX1_keepGot 20 = .ok (.getfield 15, 3) := by decide +kernel
theorem dX1_keepGot_23 : decode cX1_keepGot 23 = .ok (.aload_n 0, 1) := by decide +kernel
theorem dX1_keepGot_24 : decode cX1_keepGot 24 = .ok (.getfield 35, 3) := by decide +kernel
theorem dX1_keepGot_27 : decode cX1_keepGot 27 = .ok (.iload_n 2, 1) := by decide +kernel
theorem dX1_keepGot_28 : decode cX1_keepGot 28 = .ok (.iastore, 1) := by decide +kernel
theorem dX1_keepGot_29 : decode cX1_keepGot 29 = .ok (.aload_n 0, 1) := by decide +kernel
theorem dX1_keepGot_30 : decode cX1_keepGot 30 = .ok (.getfield 18, 3) := by decide +kernel
theorem dX1_keepGot_33 : decode cX1_keepGot 33 = .ok (.aload_n 0, 1) := by decide +kernel
theorem dX1_keepGot_34 : decode cX1_keepGot 34 = .ok (.getfield 35, 3) := by decide +kernel
theorem dX1_keepGot_37 : decode cX1_keepGot 37 = .ok (.iload_n 3, 1) := by decide +kernel
theorem dX1_keepGot_38 : decode cX1_keepGot 38 = .ok (.iastore, 1) := by decide +kernel
theorem dX1_keepGot_39 : decode cX1_keepGot 39 = .ok (.aload_n 0, 1) := by decide +kernel
theorem dX1_keepGot_40 : decode cX1_keepGot 40 = .ok (.dup, 1) := by decide +kernel
theorem dX1_keepGot_41 : decode cX1_keepGot 41 = .ok (.getfield 35, 3) := by decide +kernel
theorem dX1_keepGot_44 : decode cX1_keepGot 44 = .ok (.iconst 1, 1) := by decide +kernel
theorem dX1_keepGot_45 : decode cX1_keepGot 45 = .ok (.iadd, 1) := by decide +kernel
theorem dX1_keepGot_46 : decode cX1_keepGot 46 = .ok (.putfield 35, 3) := by decide +kernel
theorem dX1_keepGot_49 : decode cX1_keepGot 49 = .ok (.return_, 1) := by decide +kernel
set_option maxRecDepth 20000 in
theorem ggX1_gotten_X5_isWithin : GoodIn wsX1_gotten wsX5_isWithin := goodIn_r _ [7] (by decide +kernel) (by decide +kernel)
set_option maxRecDepth 20000 in
theorem gX1_gotten_X5_isWithin_n44 : GoodIn wsX1_gotten (wsX5_isWithin) := ggX1_gotten_X5_isWithin
theorem dX1_gotten_0 : decode cX1_gotten 0 = .ok (.iload_n 1, 1) := by decide +kernel
theorem dX1_gotten_1 : decode cX1_gotten 1 = .ok (.iconst 0, 1) := by decide +kernel
theorem dX1_gotten_2 : decode cX1_gotten 2 = .ok (.aload_n 0, 1) := by decide +kernel
theorem dX1_gotten_3 : decode cX1_gotten 3 = .ok (.getfield 35, 3) := by decide +kernel
theorem dX1_gotten_6 : decode cX1_gotten 6 = .ok (.iconst 1, 1) := by decide +kernel
theorem dX1_gotten_7 : decode cX1_gotten 7 = .ok (.isub, 1) := by decide +kernel
theorem dX1_gotten_8 : decode cX1_gotten 8 = .ok (.invokestatic 44, 3) := by decide +kernel
theorem dX1_gotten_11 : decode cX1_gotten 11 = .ok (.ifCond .ne 5, 3) := by decide +kernel
theorem dX1_gotten_14 : decode cX1_gotten 14 = .ok (.iconst (-1), 1) := by decide +kernel
theorem dX1_gotten_15 : decode cX1_gotten 15 = .ok (.ireturn, 1) := by decide +kernel
theorem dX1_gotten_16 : decode cX1_gotten 16 = .ok (.iload_n 2, 1) := by decide +kernel
theorem dX1_gotten_17 : decode cX1_gotten 17 = .ok (.tableswitch 48 0 2 #[27, 34, 41], 27) := by decide +kernel
theorem dX1_gotten_44 : decode cX1_gotten 44 = .ok (.aload_n 0, 1) := by decide +kernel
theorem dX1_gotten_45 : decode cX1_gotten 45 = .ok (.getfield 9, 3) := by decide +kernel
theorem dX1_gotten_48 : decode cX1_gotten 48 = .ok (.iload_n 1, 1) := by decide +kernel
theorem dX1_gotten_49 : decode cX1_gotten 49 = .ok (.iaload, 1) := by decide +kernel
theorem dX1_gotten_50 : decode cX1_gotten 50 = .ok (.ireturn, 1) := by decide +kernel
theorem dX1_gotten_51 : decode cX1_gotten 51 = .ok (.aload_n 0, 1) := by decide +kernel
theorem dX1_gotten_52 : decode cX1_gotten 52 = .ok (.getfield 15, 3) := by decide +kernel
theorem dX1_gotten_55 : decode cX1_gotten 55 = .ok (.iload_n 1, 1) := by decide +kernel
theorem dX1_gotten_56 : decode cX1_gotten 56 = .ok (.iaload, 1) := by decide +kernel
theorem dX1_gotten_57 : decode cX1_gotten 57 = .ok (.ireturn, 1) := by decide +kernel
theorem dX1_gotten_58 : decode cX1_gotten 58 = .ok (.aload_n 0, 1) := by decide +kernel
theorem dX1_gotten_59 : decode cX1_gotten 59 = .ok (.getfield 18, 3) := by decide +kernel
theorem dX1_gotten_62 : decode cX1_gotten 62 = .ok (.iload_n 1, 1) := by decide +kernel
theorem dX1_gotten_63 : decode cX1_gotten 63 = .ok (.iaload, 1) := by decide +kernel
theorem dX1_gotten_64 : decode cX1_gotten 64 = .ok (.ireturn, 1) := by decide +kernel
theorem dX1_gotten_65 : decode cX1_gotten 65 = .ok (.iconst (-1), 1) := by decide +kernel
theorem dX1_gotten_66 : decode cX1_gotten 66 = .ok (.ireturn, 1) := by decide +kernel
theorem dX2_init_0 : decode cX2_init 0 = .ok (.aload_n 0, 1) := by decide +kernel
theorem dX2_init_1 : decode cX2_init 1 = .ok (.invokespecial 3, 3) := by decide +kernel
theorem dX2_init_4 : decode cX2_init 4 = .ok (.aload_n 0, 1) := by decide +kernel
theorem dX2_init_5 : decode cX2_init 5 = .ok (.bipush 40, 2) := by decide +kernel
theorem dX2_init_7 : decode cX2_init 7 = .ok (.newarray .int, 2) := by decide +kernel
theorem dX2_init_9 : decode cX2_init 9 = .ok (.putfield 9, 3) := by decide +kernel
theorem dX2_init_12 : decode cX2_init 12 = .ok (.aload_n 0, 1) := by decide +kernel
theorem dX2_init_13 : decode cX2_init 13 = .ok (.bipush 40, 2) := by decide +kernel
theorem dX2_init_15 : decode cX2_init 15 = .ok (.newarray .int, 2) := by decide +kernel
theorem dX2_init_17 : decode cX2_init 17 = .ok (.putfield 15, 3) := by decide +kernel
theorem dX2_init_20 : decode cX2_init 20 = .ok (.aload_n 0, 1) := by decide +kernel
theorem dX2_init_21 : decode cX2_init 21 = .ok (.bipush 40, 2) := by decide +kernel
theorem dX2_init_23 : decode cX2_init 23 = .ok (.newarray .int, 2) := by decide +kernel
theorem dX2_init_25 : decode cX2_init 25 = .ok (.putfield 18, 3) := by decide +kernel
theorem dX2_init_28 : decode cX2_init 28 = .ok (.return_, 1) := by decide +kernel
theorem dX2_add_0 : decode cX2_add 0 = .ok (.aload_n 0, 1) := by decide +kernel
theorem dX2_add_1 : decode cX2_add 1 = .ok (.getfield 21, 3) := by decide +kernel
theorem dX2_add_4 : decode cX2_add 4 = .ok (.bipush 40, 2) := by decide +kernel
theorem dX2_add_6 : decode cX2_add 6 = .ok (.if_icmp .lt 5, 3) := by decide +kernel
theorem dX2_add_9 : decode cX2_add 9 = .ok (.iconst (-1), 1) := by decide +kernel
theorem dX2_add_10 : decode cX2_add 10 = .ok (.ireturn, 1) := by decide +kernel
theorem dX2_add_11 : decode cX2_add 11 = .ok (.aload_n 0, 1) := by decide +kernel
theorem dX2_add_12 : decode cX2_add 12 = .ok (.getfield 9, 3) := by decide +kernel
theorem dX2_add_15 : decode cX2_add 15 = .ok (.aload_n 0, 1) := by decide +kernel
theorem dX2_add_16 : decode cX2_add 16 = .ok (.getfield 21, 3) := by decide +kernel
theorem dX2_add_19 : decode cX2_add 19 = .ok (.iload_n 1, 1) := by decide +kernel
theorem dX2_add_20 : decode cX2_add 20 = .ok (.iastore, 1) := by decide +kernel
theorem dX2_add_21 : decode cX2_add 21 = .ok (.aload_n 0, 1) := by decide +kernel
theorem dX2_add_22 : decode cX2_add 22 = .ok (.getfield 15, 3) := by decide +kernel
theorem dX2_add_25 : decode cX2_add 25 = .ok (.aload_n 0, 1) := by decide +kernel
theorem dX2_add_26 : decode cX2_add 26 = .ok (.getfield 21, 3) := by decide +kernel
theorem dX2_add_29 : decode cX2_add 29 = .ok (.iload_n 2, 1) := by decide +kernel
theorem dX2_add_30 : decode cX2_add 30 = .ok (.iastore, 1) := by decide +kernel
theorem dX2_add_31 : decode cX2_add 31 = .ok (.aload_n 0, 1) := by decide +kernel
theorem dX2_add_32 : decode cX2_add 32 = .ok (.getfield 18, 3) := by decide +kernel
theorem dX2_add_35 : decode cX2_add 35 = .ok (.aload_n 0, 1) := by decide +kernel
theorem dX2_add_36 : decode cX2_add 36 = .ok (.getfield 21, 3) := by decide +kernel
theorem dX2_add_39 : decode cX2_add 39 = .ok (.iload_n 3, 1) := by decide +kernel
theorem dX2_add_40 : decode cX2_add 40 = .ok (.iastore, 1) := by decide +kernel
theorem dX2_add_41 : decode cX2_add 41 = .ok (.aload_n 0, 1) := by decide +kernel
theorem dX2_add_42 : decode cX2_add 42 = .ok (.dup, 1) := by decide +kernel
theorem dX2_add_43 : decode cX2_add 43 = .ok (.getfield 21, 3) := by decide +kernel
theorem dX2_add_46 : decode cX2_add 46 = .ok (.iconst 1, 1) := by decide +kernel
theorem dX2_add_47 : decode cX2_add 47 = .ok (.iadd, 1) := by decide +kernel
theorem dX2_add_48 : decode cX2_add 48 = .ok (.putfield 21, 3) := by decide +kernel
theorem dX2_add_51 : decode cX2_add 51 = .ok (.aload_n 0, 1) := by decide +kernel
theorem dX2_add_52 : decode cX2_add 52 = .ok (.getfield 21, 3) := by decide +kernel
theorem dX2_add_55 : decode cX2_add 55 = .ok (.ireturn, 1) := by decide +kernel
set_option maxRecDepth 20000 in
theorem ggX2_downAt_X5_isWithin : GoodIn wsX2_downAt wsX5_isWithin := goodIn_r _ [7] (by decide +kernel) (by decide +kernel)
set_option maxRecDepth 20000 in
theorem gX2_downAt_X5_isWithin_n25 : GoodIn wsX2_downAt (wsX5_isWithin) := ggX2_downAt_X5_isWithin
theorem dX2_downAt_0 : decode cX2_downAt 0 = .ok (.iconst 0, 1) := by decide +kernel
theorem dX2_downAt_1 : decode cX2_downAt 1 = .ok (.istore_n 2, 1) := by decide +kernel
theorem dX2_downAt_2 : decode cX2_downAt 2 = .ok (.iconst 0, 1) := by decide +kernel
theorem dX2_downAt_3 : decode cX2_downAt 3 = .ok (.istore_n 3, 1) := by decide +kernel
theorem dX2_downAt_4 : decode cX2_downAt 4 = .ok (.iload_n 3, 1) := by decide +kernel
theorem dX2_downAt_5 : decode cX2_downAt 5 = .ok (.aload_n 0, 1) := by decide +kernel
theorem dX2_downAt_6 : decode cX2_downAt 6 = .ok (.getfield 21, 3) := by decide +kernel
theorem dX2_downAt_9 : decode cX2_downAt 9 = .ok (.if_icmp .ge 39, 3) := by decide +kernel
theorem dX2_downAt_12 : decode cX2_downAt 12 = .ok (.iload_n 1, 1) := by decide +kernel
theorem dX2_downAt_13 : decode cX2_downAt 13 = .ok (.aload_n 0, 1) := by decide +kernel
theorem dX2_downAt_14 : decode cX2_downAt 14 = .ok (.getfield 15, 3) := by decide +kernel
theorem dX2_downAt_17 : decode cX2_downAt 17 = .ok (.iload_n 3, 1) := by decide +kernel
theorem dX2_downAt_18 : decode cX2_downAt 18 = .ok (.iaload, 1) := by decide +kernel
theorem dX2_downAt_19 : decode cX2_downAt 19 = .ok (.aload_n 0, 1) := by decide +kernel
theorem dX2_downAt_20 : decode cX2_downAt 20 = .ok (.getfield 18, 3) := by decide +kernel
theorem dX2_downAt_23 : decode cX2_downAt 23 = .ok (.iload_n 3, 1) := by decide +kernel
theorem dX2_downAt_24 : decode cX2_downAt 24 = .ok (.iaload, 1) := by decide +kernel
theorem dX2_downAt_25 : decode cX2_downAt 25 = .ok (.invokestatic 25, 3) := by decide +kernel
theorem dX2_downAt_28 : decode cX2_downAt 28 = .ok (.ifCond .eq 14, 3) := by decide +kernel
theorem dX2_downAt_31 : decode cX2_downAt 31 = .ok (.iload_n 2, 1) := by decide +kernel
theorem dX2_downAt_32 : decode cX2_downAt 32 = .ok (.iconst 1, 1) := by decide +kernel
theorem dX2_downAt_33 : decode cX2_downAt 33 = .ok (.aload_n 0, 1) := by decide +kernel
theorem dX2_downAt_34 : decode cX2_downAt 34 = .ok (.getfield 9, 3) := by decide +kernel
theorem dX2_downAt_37 : decode cX2_downAt 37 = .ok (.iload_n 3, 1) := by decide +kernel
theorem dX2_downAt_38 : decode cX2_downAt 38 = .ok (.iaload, 1) := by decide +kernel
theorem dX2_downAt_39 : decode cX2_downAt 39 = .ok (.ishl, 1) := by decide +kernel
theorem dX2_downAt_40 : decode cX2_downAt 40 = .ok (.ior, 1) := by decide +kernel
theorem dX2_downAt_41 : decode cX2_downAt 41 = .ok (.istore_n 2, 1) := by decide +kernel
theorem dX2_downAt_42 : decode cX2_downAt 42 = .ok (.iinc 3 1, 3) := by decide +kernel
theorem dX2_downAt_45 : decode cX2_downAt 45 = .ok (.goto (-41), 3) := by decide +kernel
theorem dX2_downAt_48 : decode cX2_downAt 48 = .ok (.iload_n 2, 1) := by decide +kernel
theorem dX2_downAt_49 : decode cX2_downAt 49 = .ok (.ireturn, 1) := by decide +kernel
set_option maxRecDepth 20000 in
theorem ggX3_init_J7_fill_53178 : GoodIn wsX3_init wsJ7_fill_53178 := goodIn_r _ [13] (by decide +kernel) (by decide +kernel)
set_option maxRecDepth 20000 in
theorem gX3_init_J7_fill_53178 : GoodIn wsX3_init (va_wsS RX3 25 yJ7_fill_53178 wsJ7_fill_53178) := goodIn_app (goodIn_of _ (by decide +kernel)) ggX3_init_J7_fill_53178
theorem dX3_init_0 : decode cX3_init 0 = .ok (.aload_n 0, 1) := by decide +kernel
theorem dX3_init_1 : decode cX3_init 1 = .ok (.invokespecial 3, 3) := by decide +kernel
theorem dX3_init_4 : decode cX3_init 4 = .ok (.aload_n 0, 1) := by decide +kernel
theorem dX3_init_5 : decode cX3_init 5 = .ok (.iload_n 1, 1) := by decide +kernel
theorem dX3_init_6 : decode cX3_init 6 = .ok (.putfield 9, 3) := by decide +kernel
theorem dX3_init_9 : decode cX3_init 9 = .ok (.aload_n 0, 1) := by decide +kernel
theorem dX3_init_10 : decode cX3_init 10 = .ok (.iload_n 2, 1) := by decide +kernel
theorem dX3_init_11 : decode cX3_init 11 = .ok (.putfield 15, 3) := by decide +kernel
theorem dX3_init_14 : decode cX3_init 14 = .ok (.aload_n 0, 1) := by decide +kernel
theorem dX3_init_15 : decode cX3_init 15 = .ok (.iload_n 3, 1) := by decide +kernel
theorem dX3_init_16 : decode cX3_init 16 = .ok (.putfield 18, 3) := by decide +kernel
theorem dX3_init_19 : decode cX3_init 19 = .ok (.aload_n 0, 1) := by decide +kernel
theorem dX3_init_20 : decode cX3_init 20 = .ok (.iconst 3, 1) := by decide +kernel
theorem dX3_init_21 : decode cX3_init 21 = .ok (.newarray .int, 2) := by decide +kernel
theorem dX3_init_23 : decode cX3_init 23 = .ok (.putfield 21, 3) := by decide +kernel
theorem dX3_init_26 : decode cX3_init 26 = .ok (.aload_n 0, 1) := by decide +kernel
theorem dX3_init_27 : decode cX3_init 27 = .ok (.getfield 21, 3) := by decide +kernel
theorem dX3_init_30 : decode cX3_init 30 = .ok (.iconst (-1), 1) := by decide +kernel
theorem dX3_init_31 : decode cX3_init 31 = .ok (.invokestatic 25, 3) := by decide +kernel
theorem dX3_init_34 : decode cX3_init 34 = .ok (.aload_n 0, 1) := by decide +kernel
theorem dX3_init_35 : decode cX3_init 35 = .ok (.iconst (-1), 1) := by decide +kernel
theorem dX3_init_36 : decode cX3_init 36 = .ok (.putfield 31, 3) := by decide +kernel
theorem dX3_init_39 : decode cX3_init 39 = .ok (.return_, 1) := by decide +kernel
set_option maxRecDepth 20000 in
theorem ggX3_holds_X5_bitOf : GoodIn wsX3_holds wsX5_bitOf := goodIn_r _ [4, 5, 6, 3, 7] (by decide +kernel) (by decide +kernel)
set_option maxRecDepth 20000 in
theorem gX3_holds_X5_bitOf_n38 : GoodIn wsX3_holds (wsX5_bitOf) := ggX3_holds_X5_bitOf
theorem dX3_holds_0 : decode cX3_holds 0 = .ok (.aload_n 0, 1) := by decide +kernel
theorem dX3_holds_1 : decode cX3_holds 1 = .ok (.getfield 34, 3) := by decide +kernel
theorem dX3_holds_4 : decode cX3_holds 4 = .ok (.iload_n 1, 1) := by decide +kernel
theorem dX3_holds_5 : decode cX3_holds 5 = .ok (.invokestatic 38, 3) := by decide +kernel
theorem dX3_holds_8 : decode cX3_holds 8 = .ok (.land, 1) := by decide +kernel
theorem dX3_holds_9 : decode cX3_holds 9 = .ok (.lconst 0, 1) := by decide +kernel
theorem dX3_holds_10 : decode cX3_holds 10 = .ok (.lcmp, 1) := by decide +kernel
theorem dX3_holds_11 : decode cX3_holds 11 = .ok (.ifCond .eq 7, 3) := by decide +kernel
theorem dX3_holds_14 : decode cX3_holds 14 = .ok (.iconst 1, 1) := by decide +kernel
theorem dX3_holds_15 : decode cX3_holds 15 = .ok (.goto 4, 3) := by decide +kernel
theorem dX3_holds_18 : decode cX3_holds 18 = .ok (.iconst 0, 1) := by decide +kernel
theorem dX3_holds_19 : decode cX3_holds 19 = .ok (.ireturn, 1) := by decide +kernel
set_option maxRecDepth 20000 in
theorem ggX3_missing_X4_filesOf : GoodIn wsX3_missing wsX4_filesOf := goodIn_r _ [7, 8, 9, 10, 11, 5, 12, 13, 24, 25, 26, 27, 28, 29, 30, 31] (by decide +kernel) (by decide +kernel)
set_option maxRecDepth 20000 in
theorem gX3_missing_X4_filesOf_n42 : GoodIn wsX3_missing (wsX4_filesOf) := ggX3_missing_X4_filesOf
theorem dX3_missing_0 : decode cX3_missing 0 = .ok (.aload_n 1, 1) := by decide +kernel
theorem dX3_missing_1 : decode cX3_missing 1 = .ok (.aload_n 0, 1) := by decide +kernel
theorem dX3_missing_2 : decode cX3_missing 2 = .ok (.getfield 31, 3) := by decide +kernel
theorem dX3_missing_5 : decode cX3_missing 5 = .ok (.invokevirtual 42, 3) := by decide +kernel
theorem dX3_missing_8 : decode cX3_missing 8 = .ok (.aload_n 0, 1) := by decide +kernel
theorem dX3_missing_9 : decode cX3_missing 9 = .ok (.getfield 34, 3) := by decide +kernel
theorem dX3_missing_12 : decode cX3_missing 12 = .ok (.ldc2_w 47, 3) := by decide +kernel
theorem dX3_missing_15 : decode cX3_missing 15 = .ok (.lxor, 1) := by decide +kernel
theorem dX3_missing_16 : decode cX3_missing 16 = .ok (.land, 1) := by decide +kernel
theorem dX3_missing_17 : decode cX3_missing 17 = .ok (.lreturn, 1) := by decide +kernel
set_option maxRecDepth 20000 in
theorem ggX3_bytesWanted_X3_missing : GoodIn wsX3_bytesWanted wsX3_missing := goodIn_r _ [7, 1, 8, 9, 10, 11, 12, 13, 14, 15, 16, 17, 18, 19, 31, 32, 33, 34, 35, 36, 37, 38, 39, 40, 41, 42, 43, 44, 45, 46, 47, 48] (by decide +kernel) (by decide +kernel)
set_option maxRecDepth 20000 in
theorem gX3_bytesWanted_X3_missing : GoodIn wsX3_bytesWanted (wsV RX3 49 RX3 yX3_missing wsX3_missing) := goodIn_app (goodIn_of _ (by decide +kernel)) ggX3_bytesWanted_X3_missing
set_option maxRecDepth 20000 in
theorem ggX3_bytesWanted_X4_bytesOf : GoodIn wsX3_bytesWanted wsX4_bytesOf := goodIn_r _ [22, 23, 24, 25, 26, 27, 28, 29, 30, 41, 42, 43, 44, 45, 46, 47, 48] (by decide +kernel) (by decide +kernel)
set_option maxRecDepth 20000 in
theorem gX3_bytesWanted_X4_bytesOf_n53 : GoodIn wsX3_bytesWanted (wsX4_bytesOf) := ggX3_bytesWanted_X4_bytesOf
theorem dX3_bytesWanted_0 : decode cX3_bytesWanted 0 = .ok (.aload_n 0, 1) := by decide +kernel
theorem dX3_bytesWanted_1 : decode cX3_bytesWanted 1 = .ok (.getfield 31, 3) := by decide +kernel
theorem dX3_bytesWanted_4 : decode cX3_bytesWanted 4 = .ok (.iconst (-1), 1) := by decide +kernel
theorem dX3_bytesWanted_5 : decode cX3_bytesWanted 5 = .ok (.if_icmp .ne 7, 3) := by decide +kernel
theorem dX3_bytesWanted_8 : decode cX3_bytesWanted 8 = .ok (.iconst (-1), 1) := by decide +kernel
theorem dX3_bytesWanted_9 : decode cX3_bytesWanted 9 = .ok (.goto 17, 3) := by decide +kernel
theorem dX3_bytesWanted_12 : decode cX3_bytesWanted 12 = .ok (.aload_n 1, 1) := by decide +kernel
theorem dX3_bytesWanted_13 : decode cX3_bytesWanted 13 = .ok (.aload_n 0, 1) := by decide +kernel
theorem dX3_bytesWanted_14 : decode cX3_bytesWanted 14 = .ok (.aload_n 1, 1) := by decide +kernel
theorem dX3_bytesWanted_15 : decode cX3_bytesWanted 15 = .ok (.invokevirtual 49, 3) := by decide +kernel
theorem dX3_bytesWanted_18 : decode cX3_bytesWanted 18 = .ok (.invokevirtual 53, 3) := by decide +kernel
theorem dX3_bytesWanted_21 : decode cX3_bytesWanted 21 = .ok (.aload_n 0, 1) := by decide +kernel
theorem dX3_bytesWanted_22 : decode cX3_bytesWanted 22 = .ok (.getfield 57, 3) := by decide +kernel
theorem dX3_bytesWanted_25 : decode cX3_bytesWanted 25 = .ok (.isub, 1) := by decide +kernel
theorem dX3_bytesWanted_26 : decode cX3_bytesWanted 26 = .ok (.ireturn, 1) := by decide +kernel
set_option maxRecDepth 20000 in
theorem ggX3_step_X3_copyFiles : GoodIn wsX3_step wsX3_copyFiles := goodIn_r _ [7, 8, 1, 9, 10, 11, 12, 6, 13, 14, 15, 16, 17, 18, 19, 20, 21, 22, 23, 24, 25, 26, 27, 28, 29, 30, 31, 32, 33, 34, 35, 36, 37, 38, 39, 40, 41, 42, 43, 44, 45, 46, 47, 48, 49, 50, 51, 52, 53, 54, 55, 56, 57, 58, 69, 70, 71, 72, 73, 74, 75, 76, 77, 78, 79, 80, 81, 82, 83, 84, 85, 86] (by decide +kernel) (by decide +kernel)
set_option maxRecDepth 20000 in
theorem gX3_step_X3_copyFiles : GoodIn wsX3_step (wsV RX3 63 RX3 yX3_copyFiles wsX3_copyFiles) := goodIn_app (goodIn_of _ (by decide +kernel)) ggX3_step_X3_copyFiles
set_option maxRecDepth 20000 in
theorem ggX3_step_X3_missing : GoodIn wsX3_step wsX3_missing := goodIn_r _ [13, 1, 14, 15, 16, 17, 18, 19, 20, 21, 22, 23, 24, 25, 69, 70, 71, 72, 73, 74, 75, 76, 77, 78, 79, 80, 81, 82, 83, 84, 85, 86] (by decide +kernel) (by decide +kernel)
set_option maxRecDepth 20000 in
theorem gX3_step_X3_missing : GoodIn wsX3_step (wsV RX3 49 RX3 yX3_missing wsX3_missing) := goodIn_app (goodIn_of _ (by decide +kernel)) ggX3_step_X3_missing
set_option maxRecDepth 20000 in
theorem ggX3_step_X3_takeIndex : GoodIn wsX3_step wsX3_takeIndex := goodIn_r _ [62, 63, 2, 1, 69, 70, 71, 72, 73, 74, 75, 76, 77, 78] (by decide +kernel) (by decide +kernel)
set_option maxRecDepth 20000 in
theorem gX3_step_X3_takeIndex : GoodIn wsX3_step (wsV RX3 67 RX3 yX3_takeIndex wsX3_takeIndex) := goodIn_app (goodIn_of _ (by decide +kernel)) ggX3_step_X3_takeIndex
set_option maxRecDepth 20000 in
theorem ggX3_step_X3_dropOld : GoodIn wsX3_step wsX3_dropOld := goodIn_r _ [67, 2, 68, 63, 14, 16, 17, 18, 19, 20, 21, 22, 23, 24, 25, 69, 70, 71, 72, 73, 74, 75, 76, 77, 78, 79, 80, 81, 82, 83, 84, 85, 86] (by decide +kernel) (by decide +kernel)
set_option maxRecDepth 20000 in
theorem gX3_step_X3_dropOld : GoodIn wsX3_step (wsV RX3 70 RX3 yX3_dropOld wsX3_dropOld) := goodIn_app (goodIn_of _ (by decide +kernel)) ggX3_step_X3_dropOld
theorem dX3_step_0 : decode cX3_step 0 = .ok (.aload_n 0, 1) := by decide +kernel
theorem dX3_step_1 : decode cX3_step 1 = .ok (.getfield 31, 3) := by decide +kernel
theorem dX3_step_4 : decode cX3_step 4 = .ok (.iconst (-1), 1) := by decide +kernel
theorem dX3_step_5 : decode cX3_step 5 = .ok (.if_icmp .ne 16, 3) := by decide +kernel
theorem dX3_step_8 : decode cX3_step 8 = .ok (.iload_n 2, 1) := by decide +kernel
theorem dX3_step_9 : decode cX3_step 9 = .ok (.aload_n 0, 1) := by decide +kernel
theorem dX3_step_10 : decode cX3_step 10 = .ok (.getfield 60, 3) := by decide +kernel
theorem dX3_step_13 : decode cX3_step 13 = .ok (.if_icmp .le 8, 3) := by decide +kernel
theorem dX3_step_16 : decode cX3_step 16 = .ok (.aload_n 0, 1) := by decide +kernel
theorem dX3_step_17 : decode cX3_step 17 = .ok (.iload_n 2, 1) := by decide +kernel
theorem dX3_step_18 : decode cX3_step 18 = .ok (.putfield 31, 3) := by decide +kernel
theorem dX3_step_21 : decode cX3_step 21 = .ok (.aload_n 0, 1) := by decide +kernel
theorem dX3_step_22 : decode cX3_step 22 = .ok (.getfield 31, 3) := by decide +kernel
theorem dX3_step_25 : decode cX3_step 25 = .ok (.iconst (-1), 1) := by decide +kernel
theorem dX3_step_26 : decode cX3_step 26 = .ok (.if_icmp .ne 4, 3) := by decide +kernel
theorem dX3_step_29 : decode cX3_step 29 = .ok (.return_, 1) := by decide +kernel
theorem dX3_step_30 : decode cX3_step 30 = .ok (.aload_n 0, 1) := by decide +kernel
theorem dX3_step_31 : decode cX3_step 31 = .ok (.aload_n 1, 1) := by decide +kernel
theorem dX3_step_32 : decode cX3_step 32 = .ok (.lload_n 3, 1) := by decide +kernel
theorem dX3_step_33 : decode cX3_step 33 = .ok (.invokevirtual 63, 3) := by decide +kernel
theorem dX3_step_36 : decode cX3_step 36 = .ok (.aload_n 0, 1) := by decide +kernel
theorem dX3_step_37 : decode cX3_step 37 = .ok (.getfield 31, 3) := by decide +kernel
theorem dX3_step_40 : decode cX3_step 40 = .ok (.iconst (-1), 1) := by decide +kernel
theorem dX3_step_41 : decode cX3_step 41 = .ok (.if_icmp .eq 22, 3) := by decide +kernel
theorem dX3_step_44 : decode cX3_step 44 = .ok (.aload_n 0, 1) := by decide +kernel
theorem dX3_step_45 : decode cX3_step 45 = .ok (.aload_n 1, 1) := by decide +kernel
theorem dX3_step_46 : decode cX3_step 46 = .ok (.invokevirtual 49, 3) := by decide +kernel
theorem dX3_step_49 : decode cX3_step 49 = .ok (.lconst 0, 1) := by decide +kernel
theorem dX3_step_50 : decode cX3_step 50 = .ok (.lcmp, 1) := by decide +kernel
theorem dX3_step_51 : decode cX3_step 51 = .ok (.ifCond .ne 12, 3) := by decide +kernel
theorem dX3_step_54 : decode cX3_step 54 = .ok (.aload_n 0, 1) := by decide +kernel
theorem dX3_step_55 : decode cX3_step 55 = .ok (.invokevirtual 67, 3) := by decide +kernel
theorem dX3_step_58 : decode cX3_step 58 = .ok (.aload_n 0, 1) := by decide +kernel
theorem dX3_step_59 : decode cX3_step 59 = .ok (.aload_n 1, 1) := by decide +kernel
theorem dX3_step_60 : decode cX3_step 60 = .ok (.invokevirtual 70, 3) := by decide +kernel
theorem dX3_step_63 : decode cX3_step 63 = .ok (.return_, 1) := by decide +kernel
set_option maxRecDepth 20000 in
theorem ggX3_copyFiles_X3_missing : GoodIn wsX3_copyFiles wsX3_missing := goodIn_r _ [8, 2, 9, 10, 11, 12, 13, 14, 15, 16, 17, 18, 19, 20, 54, 55, 56, 57, 58, 59, 60, 61, 62, 63, 64, 65, 66, 67, 68, 69, 70, 71] (by decide +kernel) (by decide +kernel)
set_option maxRecDepth 20000 in
theorem gX3_copyFiles_X3_missing : GoodIn wsX3_copyFiles (wsV RX3 49 RX3 yX3_missing wsX3_missing) := goodIn_app (goodIn_of _ (by decide +kernel)) ggX3_copyFiles_X3_missing
set_option maxRecDepth 20000 in
theorem ggX3_copyFiles_X5_leastOf : GoodIn wsX3_copyFiles wsX5_leastOf := goodIn_r _ [23, 24, 25, 26, 27, 28, 29, 30] (by decide +kernel) (by decide +kernel)
set_option maxRecDepth 20000 in
theorem gX3_copyFiles_X5_leastOf_n74 : GoodIn wsX3_copyFiles (wsX5_leastOf) := ggX3_copyFiles_X5_leastOf
set_option maxRecDepth 20000 in
theorem ggX3_copyFiles_X5_bitOf : GoodIn wsX3_copyFiles wsX5_bitOf := goodIn_r _ [32, 33, 34, 22, 35] (by decide +kernel) (by decide +kernel)
set_option maxRecDepth 20000 in
theorem gX3_copyFiles_X5_bitOf_n38 : GoodIn wsX3_copyFiles (wsX5_bitOf) := ggX3_copyFiles_X5_bitOf
set_option maxRecDepth 20000 in
theorem ggX3_copyFiles_X4_sizeOf : GoodIn wsX3_copyFiles wsX4_sizeOf := goodIn_r _ [38, 39, 40, 41, 42, 12, 43, 44, 64, 65, 66, 67, 68, 69, 70, 71] (by decide +kernel) (by decide +kernel)
set_option maxRecDepth 20000 in
theorem gX3_copyFiles_X4_sizeOf_n77 : GoodIn wsX3_copyFiles (wsX4_sizeOf) := ggX3_copyFiles_X4_sizeOf
set_option maxRecDepth 20000 in
theorem ggX3_copyFiles_X3_takeBytes : GoodIn wsX3_copyFiles wsX3_takeBytes := goodIn_r _ [48, 3, 49, 50, 51, 52, 53, 9, 31, 22, 32, 33, 34, 35, 54, 55, 56, 57, 58, 59, 60, 61, 62, 63] (by decide +kernel) (by decide +kernel)
set_option maxRecDepth 20000 in
theorem gX3_copyFiles_X3_takeBytes : GoodIn wsX3_copyFiles (wsV RX3 81 RX3 yX3_takeBytes wsX3_takeBytes) := goodIn_app (goodIn_of _ (by decide +kernel)) ggX3_copyFiles_X3_takeBytes
theorem dX3_copyFiles_0 : decode cX3_copyFiles 0 = .ok (.aload_n 0, 1) := by decide +kernel
theorem dX3_copyFiles_1 : decode cX3_copyFiles 1 = .ok (.getfield 15, 3) := by decide +kernel
theorem dX3_copyFiles_4 : decode cX3_copyFiles 4 = .ok (.istore 4, 2) := by decide +kernel
theorem dX3_copyFiles_6 : decode cX3_copyFiles 6 = .ok (.iconst 0, 1) := by decide +kernel
theorem dX3_copyFiles_7 : decode cX3_copyFiles 7 = .ok (.istore 5, 2) := by decide +kernel
theorem dX3_copyFiles_9 : decode cX3_copyFiles 9 = .ok (.iload 5, 2) := by decide +kernel
theorem dX3_copyFiles_11 : decode cX3_copyFiles 11 = .ok (.bipush 60, 2) := by decide +kernel
theorem dX3_copyFiles_13 : decode cX3_copyFiles 13 = .ok (.if_icmp .ge 78, 3) := by decide +kernel
theorem dX3_copyFiles_16 : decode cX3_copyFiles 16 = .ok (.iload 4, 2) := by decide +kernel
theorem dX3_copyFiles_18 : decode cX3_copyFiles 18 = .ok (.ifCond .le 73, 3) := by decide +kernel
theorem dX3_copyFiles_21 : decode cX3_copyFiles 21 = .ok (.aload_n 0, 1) := by decide +kernel
theorem dX3_copyFiles_22 : decode cX3_copyFiles 22 = .ok (.aload_n 1, 1) := by decide +kernel
theorem dX3_copyFiles_23 : decode cX3_copyFiles 23 = .ok (.invokevirtual 49, 3) := by decide +kernel
theorem dX3_copyFiles_26 : decode cX3_copyFiles 26 = .ok (.lstore 6, 2) := by decide +kernel
theorem dX3_copyFiles_28 : decode cX3_copyFiles 28 = .ok (.lload 6, 2) := by decide +kernel
theorem dX3_copyFiles_30 : decode cX3_copyFiles 30 = .ok (.lconst 0, 1) := by decide +kernel
theorem dX3_copyFiles_31 : decode cX3_copyFiles 31 = .ok (.lcmp, 1) := by decide +kernel
theorem dX3_copyFiles_32 : decode cX3_copyFiles 32 = .ok (.ifCond .ne 4, 3) := by decide +kernel
theorem dX3_copyFiles_35 : decode cX3_copyFiles 35 = .ok (.return_, 1) := by decide +kernel
theorem dX3_copyFiles_36 : decode cX3_copyFiles 36 = .ok (.lload 6, 2) := by decide +kernel
theorem dX3_copyFiles_38 : decode cX3_copyFiles 38 = .ok (.invokestatic 74, 3) := by decide +kernel
theorem dX3_copyFiles_41 : decode cX3_copyFiles 41 = .ok (.istore 8, 2) := by decide +kernel
theorem dX3_copyFiles_43 : decode cX3_copyFiles 43 = .ok (.lload_n 2, 1) := by decide +kernel
theorem dX3_copyFiles_44 : decode cX3_copyFiles 44 = .ok (.iload 8, 2) := by decide +kernel
theorem dX3_copyFiles_46 : decode cX3_copyFiles 46 = .ok (.invokestatic 38, 3) := by decide +kernel
theorem dX3_copyFiles_49 : decode cX3_copyFiles 49 = .ok (.land, 1) := by decide +kernel
theorem dX3_copyFiles_50 : decode cX3_copyFiles 50 = .ok (.lconst 0, 1) := by decide +kernel
theorem dX3_copyFiles_51 : decode cX3_copyFiles 51 = .ok (.lcmp, 1) := by decide +kernel
theorem dX3_copyFiles_52 : decode cX3_copyFiles 52 = .ok (.ifCond .ne 14, 3) := by decide +kernel
theorem dX3_copyFiles_55 : decode cX3_copyFiles 55 = .ok (.aload_n 0, 1) := by decide +kernel
theorem dX3_copyFiles_56 : decode cX3_copyFiles 56 = .ok (.iconst (-1), 1) := by decide +kernel
theorem dX3_copyFiles_57 : decode cX3_copyFiles 57 = .ok (.putfield 31, 3) := by decide +kernel
theorem dX3_copyFiles_60 : decode cX3_copyFiles 60 = .ok (.aload_n 0, 1) := by decide +kernel
theorem dX3_copyFiles_61 : decode cX3_copyFiles 61 = .ok (.iconst 0, 1) := by decide +kernel
theorem dX3_copyFiles_62 : decode cX3_copyFiles 62 = .ok (.putfield 57, 3) := by decide +kernel
theorem dX3_copyFiles_65 : decode cX3_copyFiles 65 = .ok (.return_, 1) := by decide +kernel
theorem dX3_copyFiles_66 : decode cX3_copyFiles 66 = .ok (.iload 4, 2) := by decide +kernel
theorem dX3_copyFiles_68 : decode cX3_copyFiles 68 = .ok (.aload_n 0, 1) := by decide +kernel
theorem dX3_copyFiles_69 : decode cX3_copyFiles 69 = .ok (.iload 8, 2) := by decide +kernel
theorem dX3_copyFiles_71 : decode cX3_copyFiles 71 = .ok (.aload_n 1, 1) := by decide +kernel
theorem dX3_copyFiles_72 : decode cX3_copyFiles 72 = .ok (.iload 8, 2) := by decide +kernel
theorem dX3_copyFiles_74 : decode cX3_copyFiles 74 = .ok (.invokevirtual 77, 3) := by decide +kernel
theorem dX3_copyFiles_77 : decode cX3_copyFiles 77 = .ok (.iload 4, 2) := by decide +kernel
theorem dX3_copyFiles_79 : decode cX3_copyFiles 79 = .ok (.invokevirtual 81, 3) := by decide +kernel
theorem dX3_copyFiles_82 : decode cX3_copyFiles 82 = .ok (.isub, 1) := by decide +kernel
theorem dX3_copyFiles_83 : decode cX3_copyFiles 83 = .ok (.istore 4, 2) := by decide +kernel
theorem dX3_copyFiles_85 : decode cX3_copyFiles 85 = .ok (.iinc 5 1, 3) := by decide +kernel
theorem dX3_copyFiles_88 : decode cX3_copyFiles 88 = .ok (.goto (-79), 3) := by decide +kernel
theorem dX3_copyFiles_91 : decode cX3_copyFiles 91 = .ok (.return_, 1) := by decide +kernel
set_option maxRecDepth 20000 in
theorem ggX3_takeBytes_X5_bitOf : GoodIn wsX3_takeBytes wsX5_bitOf := goodIn_r _ [10, 11, 12, 9, 13] (by decide +kernel) (by decide +kernel)
set_option maxRecDepth 20000 in
theorem gX3_takeBytes_X5_bitOf_n38 : GoodIn wsX3_takeBytes (wsX5_bitOf) := ggX3_takeBytes_X5_bitOf
theorem dX3_takeBytes_0 : decode cX3_takeBytes 0 = .ok (.iload_n 3, 1) := by decide +kernel
theorem dX3_takeBytes_1 : decode cX3_takeBytes 1 = .ok (.iload_n 2, 1) := by decide +kernel
theorem dX3_takeBytes_2 : decode cX3_takeBytes 2 = .ok (.aload_n 0, 1) := by decide +kernel
theorem dX3_takeBytes_3 : decode cX3_takeBytes 3 = .ok (.getfield 57, 3) := by decide +kernel
theorem dX3_takeBytes_6 : decode cX3_takeBytes 6 = .ok (.isub, 1) := by decide +kernel
theorem dX3_takeBytes_7 : decode cX3_takeBytes 7 = .ok (.invokestatic 85, 3) := by decide +kernel
theorem dX3_takeBytes_10 : decode cX3_takeBytes 10 = .ok (.istore 4, 2) := by decide +kernel
theorem dX3_takeBytes_12 : decode cX3_takeBytes 12 = .ok (.aload_n 0, 1) := by decide +kernel
theorem dX3_takeBytes_13 : decode cX3_takeBytes 13 = .ok (.dup, 1) := by decide +kernel
theorem dX3_takeBytes_14 : decode cX3_takeBytes 14 = .ok (.getfield 91, 3) := by decide +kernel
theorem dX3_takeBytes_17 : decode cX3_takeBytes 17 = .ok (.iload 4, 2) := by decide +kernel
theorem dX3_takeBytes_19 : decode cX3_takeBytes 19 = .ok (.iadd, 1) := by decide +kernel
theorem dX3_takeBytes_20 : decode cX3_takeBytes 20 = .ok (.putfield 91, 3) := by decide +kernel
theorem dX3_takeBytes_23 : decode cX3_takeBytes 23 = .ok (.aload_n 0, 1) := by decide +kernel
theorem dX3_takeBytes_24 : decode cX3_takeBytes 24 = .ok (.dup, 1) := by decide +kernel
theorem dX3_takeBytes_25 : decode cX3_takeBytes 25 = .ok (.getfield 57, 3) := by decide +kernel
theorem dX3_takeBytes_28 : decode cX3_takeBytes 28 = .ok (.iload 4, 2) := by decide +kernel
theorem dX3_takeBytes_30 : decode cX3_takeBytes 30 = .ok (.iadd, 1) := by decide +kernel
theorem dX3_takeBytes_31 : decode cX3_takeBytes 31 = .ok (.putfield 57, 3) := by decide +kernel
theorem dX3_takeBytes_34 : decode cX3_takeBytes 34 = .ok (.aload_n 0, 1) := by decide +kernel
theorem dX3_takeBytes_35 : decode cX3_takeBytes 35 = .ok (.getfield 57, 3) := by decide +kernel
theorem dX3_takeBytes_38 : decode cX3_takeBytes 38 = .ok (.iload_n 2, 1) := by decide +kernel
theorem dX3_takeBytes_39 : decode cX3_takeBytes 39 = .ok (.if_icmp .lt 21, 3) := by decide +kernel
theorem dX3_takeBytes_42 : decode cX3_takeBytes 42 = .ok (.aload_n 0, 1) := by decide +kernel
theorem dX3_takeBytes_43 : decode cX3_takeBytes 43 = .ok (.dup, 1) := by decide +kernel
theorem dX3_takeBytes_44 : decode cX3_takeBytes 44 = .ok (.getfield 34, 3) := by decide +kernel
theorem dX3_takeBytes_47 : decode cX3_takeBytes 47 = .ok (.iload_n 1, 1) := by decide +kernel
theorem dX3_takeBytes_48 : decode cX3_takeBytes 48 = .ok (.invokestatic 38, 3) := by decide +kernel
theorem dX3_takeBytes_51 : decode cX3_takeBytes 51 = .ok (.lor, 1) := by decide +kernel
theorem dX3_takeBytes_52 : decode cX3_takeBytes 52 = .ok (.putfield 34, 3) := by decide +kernel
theorem dX3_takeBytes_55 : decode cX3_takeBytes 55 = .ok (.aload_n 0, 1) := by decide +kernel
theorem dX3_takeBytes_56 : decode cX3_takeBytes 56 = .ok (.iconst 0, 1) := by decide +kernel
theorem dX3_takeBytes_57 : decode cX3_takeBytes 57 = .ok (.putfield 57, 3) := by decide +kernel
theorem dX3_takeBytes_60 : decode cX3_takeBytes 60 = .ok (.iload 4, 2) := by decide +kernel
theorem dX3_takeBytes_62 : decode cX3_takeBytes 62 = .ok (.ireturn, 1) := by decide +kernel
theorem dX3_takeIndex_0 : decode cX3_takeIndex 0 = .ok (.iconst 2, 1) := by decide +kernel
theorem dX3_takeIndex_1 : decode cX3_takeIndex 1 = .ok (.istore_n 1, 1) := by decide +kernel
theorem dX3_takeIndex_2 : decode cX3_takeIndex 2 = .ok (.iload_n 1, 1) := by decide +kernel
theorem dX3_takeIndex_3 : decode cX3_takeIndex 3 = .ok (.ifCond .le 23, 3) := by decide +kernel
theorem dX3_takeIndex_6 : decode cX3_takeIndex 6 = .ok (.aload_n 0, 1) := by decide +kernel
theorem dX3_takeIndex_7 : decode cX3_takeIndex 7 = .ok (.getfield 21, 3) := by decide +kernel
theorem dX3_takeIndex_10 : decode cX3_takeIndex 10 = .ok (.iload_n 1, 1) := by decide +kernel
theorem dX3_takeIndex_11 : decode cX3_takeIndex 11 = .ok (.aload_n 0, 1) := by decide +kernel
theorem dX3_takeIndex_12 : decode cX3_takeIndex 12 = .ok (.getfield 21, 3) := by decide +kernel
theorem dX3_takeIndex_15 : decode cX3_takeIndex 15 = .ok (.iload_n 1, 1) := by decide +kernel
theorem dX3_takeIndex_16 : decode cX3_takeIndex 16 = .ok (.iconst 1, 1) := by decide +kernel
theorem dX3_takeIndex_17 : decode cX3_takeIndex 17 = .ok (.isub, 1) := by decide +kernel
theorem dX3_takeIndex_18 : decode cX3_takeIndex 18 = .ok (.iaload, 1) := by decide +kernel
theorem dX3_takeIndex_19 : decode cX3_takeIndex 19 = .ok (.iastore, 1) := by decide +kernel
theorem dX3_takeIndex_20 : decode cX3_takeIndex 20 = .ok (.iinc 1 (-1), 3) := by decide +kernel
theorem dX3_takeIndex_23 : decode cX3_takeIndex 23 = .ok (.goto (-21), 3) := by decide +kernel
theorem dX3_takeIndex_26 : decode cX3_takeIndex 26 = .ok (.aload_n 0, 1) := by decide +kernel
theorem dX3_takeIndex_27 : decode cX3_takeIndex 27 = .ok (.getfield 21, 3) := by decide +kernel
theorem dX3_takeIndex_30 : decode cX3_takeIndex 30 = .ok (.iconst 0, 1) := by decide +kernel
theorem dX3_takeIndex_31 : decode cX3_takeIndex 31 = .ok (.aload_n 0, 1) := by decide +kernel
theorem dX3_takeIndex_32 : decode cX3_takeIndex 32 = .ok (.getfield 60, 3) := by decide +kernel
theorem dX3_takeIndex_35 : decode cX3_takeIndex 35 = .ok (.iastore, 1) := by decide +kernel
theorem dX3_takeIndex_36 : decode cX3_takeIndex 36 = .ok (.aload_n 0, 1) := by decide +kernel
theorem dX3_takeIndex_37 : decode cX3_takeIndex 37 = .ok (.aload_n 0, 1) := by decide +kernel
theorem dX3_takeIndex_38 : decode cX3_takeIndex 38 = .ok (.getfield 31, 3) := by decide +kernel
theorem dX3_takeIndex_41 : decode cX3_takeIndex 41 = .ok (.putfield 60, 3) := by decide +kernel
theorem dX3_takeIndex_44 : decode cX3_takeIndex 44 = .ok (.aload_n 0, 1) := by decide +kernel
theorem dX3_takeIndex_45 : decode cX3_takeIndex 45 = .ok (.iconst (-1), 1) := by decide +kernel
theorem dX3_takeIndex_46 : decode cX3_takeIndex 46 = .ok (.putfield 31, 3) := by decide +kernel
theorem dX3_takeIndex_49 : decode cX3_takeIndex 49 = .ok (.return_, 1) := by decide +kernel
set_option maxRecDepth 20000 in
theorem ggX3_dropOld_X4_filesOf : GoodIn wsX3_dropOld wsX4_filesOf := goodIn_r _ [8, 9, 10, 11, 12, 6, 13, 14, 25, 26, 27, 28, 29, 30, 31, 32] (by decide +kernel) (by decide +kernel)
set_option maxRecDepth 20000 in
theorem gX3_dropOld_X4_filesOf_n42 : GoodIn wsX3_dropOld (wsX4_filesOf) := ggX3_dropOld_X4_filesOf
theorem dX3_dropOld_0 : decode cX3_dropOld 0 = .ok (.aload_n 1, 1) := by decide +kernel
theorem dX3_dropOld_1 : decode cX3_dropOld 1 = .ok (.aload_n 0, 1) := by decide +kernel
theorem dX3_dropOld_2 : decode cX3_dropOld 2 = .ok (.getfield 60, 3) := by decide +kernel
theorem dX3_dropOld_5 : decode cX3_dropOld 5 = .ok (.invokevirtual 42, 3) := by decide +kernel
theorem dX3_dropOld_8 : decode cX3_dropOld 8 = .ok (.lstore_n 2, 1) := by decide +kernel
theorem dX3_dropOld_9 : decode cX3_dropOld 9 = .ok (.iconst 0, 1) := by decide +kernel
theorem dX3_dropOld_10 : decode cX3_dropOld 10 = .ok (.istore 4, 2) := by decide +kernel
theorem dX3_dropOld_12 : decode cX3_dropOld 12 = .ok (.iload 4, 2) := by decide +kernel
theorem dX3_dropOld_14 : decode cX3_dropOld 14 = .ok (.aload_n 0, 1) := by decide +kernel
theorem dX3_dropOld_15 : decode cX3_dropOld 15 = .ok (.getfield 18, 3) := by decide +kernel
theorem dX3_dropOld_18 : decode cX3_dropOld 18 = .ok (.if_icmp .ge 29, 3) := by decide +kernel
theorem dX3_dropOld_21 : decode cX3_dropOld 21 = .ok (.iload 4, 2) := by decide +kernel
theorem dX3_dropOld_23 : decode cX3_dropOld 23 = .ok (.iconst 3, 1) := by decide +kernel
theorem dX3_dropOld_24 : decode cX3_dropOld 24 = .ok (.if_icmp .ge 23, 3) := by decide +kernel
theorem dX3_dropOld_27 : decode cX3_dropOld 27 = .ok (.lload_n 2, 1) := by decide +kernel
theorem dX3_dropOld_28 : decode cX3_dropOld 28 = .ok (.aload_n 1, 1) := by decide +kernel
theorem dX3_dropOld_29 : decode cX3_dropOld 29 = .ok (.aload_n 0, 1) := by decide +kernel
theorem dX3_dropOld_30 : decode cX3_dropOld 30 = .ok (.getfield 21, 3) := by decide +kernel
theorem dX3_dropOld_33 : decode cX3_dropOld 33 = .ok (.iload 4, 2) := by decide +kernel
theorem dX3_dropOld_35 : decode cX3_dropOld 35 = .ok (.iaload, 1) := by decide +kernel
theorem dX3_dropOld_36 : decode cX3_dropOld 36 = .ok (.invokevirtual 42, 3) := by decide +kernel
theorem dX3_dropOld_39 : decode cX3_dropOld 39 = .ok (.lor, 1) := by decide +kernel
theorem dX3_dropOld_40 : decode cX3_dropOld 40 = .ok (.lstore_n 2, 1) := by decide +kernel
theorem dX3_dropOld_41 : decode cX3_dropOld 41 = .ok (.iinc 4 1, 3) := by decide +kernel
theorem dX3_dropOld_44 : decode cX3_dropOld 44 = .ok (.goto (-32), 3) := by decide +kernel
theorem dX3_dropOld_47 : decode cX3_dropOld 47 = .ok (.aload_n 0, 1) := by decide +kernel
theorem dX3_dropOld_48 : decode cX3_dropOld 48 = .ok (.dup, 1) := by decide +kernel
theorem dX3_dropOld_49 : decode cX3_dropOld 49 = .ok (.getfield 34, 3) := by decide +kernel
theorem dX3_dropOld_52 : decode cX3_dropOld 52 = .ok (.lload_n 2, 1) := by decide +kernel
theorem dX3_dropOld_53 : decode cX3_dropOld 53 = .ok (.land, 1) := by decide +kernel
theorem dX3_dropOld_54 : decode cX3_dropOld 54 = .ok (.putfield 34, 3) := by decide +kernel
theorem dX3_dropOld_57 : decode cX3_dropOld 57 = .ok (.return_, 1) := by decide +kernel
set_option maxRecDepth 20000 in
theorem ggX4_init_J7_fill_53178 : GoodIn wsX4_init wsJ7_fill_53178 := goodIn_r _ [15] (by decide +kernel) (by decide +kernel)
set_option maxRecDepth 20000 in
theorem gX4_init_J7_fill_53178 : GoodIn wsX4_init (va_wsS RX4 28 yJ7_fill_53178 wsJ7_fill_53178) := goodIn_app (goodIn_of _ (by decide +kernel)) ggX4_init_J7_fill_53178
theorem dX4_init_0 : decode cX4_init 0 = .ok (.aload_n 0, 1) := by decide +kernel
theorem dX4_init_1 : decode cX4_init 1 = .ok (.invokespecial 3, 3) := by decide +kernel
theorem dX4_init_4 : decode cX4_init 4 = .ok (.aload_n 0, 1) := by decide +kernel
theorem dX4_init_5 : decode cX4_init 5 = .ok (.bipush 60, 2) := by decide +kernel
theorem dX4_init_7 : decode cX4_init 7 = .ok (.newarray .int, 2) := by decide +kernel
theorem dX4_init_9 : decode cX4_init 9 = .ok (.putfield 9, 3) := by decide +kernel
theorem dX4_init_12 : decode cX4_init 12 = .ok (.aload_n 0, 1) := by decide +kernel
theorem dX4_init_13 : decode cX4_init 13 = .ok (.bipush 60, 2) := by decide +kernel
theorem dX4_init_15 : decode cX4_init 15 = .ok (.newarray .int, 2) := by decide +kernel
theorem dX4_init_17 : decode cX4_init 17 = .ok (.putfield 15, 3) := by decide +kernel
theorem dX4_init_20 : decode cX4_init 20 = .ok (.aload_n 0, 1) := by decide +kernel
theorem dX4_init_21 : decode cX4_init 21 = .ok (.bipush 60, 2) := by decide +kernel
theorem dX4_init_23 : decode cX4_init 23 = .ok (.newarray .int, 2) := by decide +kernel
theorem dX4_init_25 : decode cX4_init 25 = .ok (.putfield 18, 3) := by decide +kernel
theorem dX4_init_28 : decode cX4_init 28 = .ok (.aload_n 0, 1) := by decide +kernel
theorem dX4_init_29 : decode cX4_init 29 = .ok (.bipush 60, 2) := by decide +kernel
theorem dX4_init_31 : decode cX4_init 31 = .ok (.newarray .long, 2) := by decide +kernel
theorem dX4_init_33 : decode cX4_init 33 = .ok (.putfield 21, 3) := by decide +kernel
theorem dX4_init_36 : decode cX4_init 36 = .ok (.aload_n 0, 1) := by decide +kernel
theorem dX4_init_37 : decode cX4_init 37 = .ok (.sipush 720, 3) := by decide +kernel
theorem dX4_init_40 : decode cX4_init 40 = .ok (.newarray .int, 2) := by decide +kernel
theorem dX4_init_42 : decode cX4_init 42 = .ok (.putfield 25, 3) := by decide +kernel
theorem dX4_init_45 : decode cX4_init 45 = .ok (.aload_n 0, 1) := by decide +kernel
theorem dX4_init_46 : decode cX4_init 46 = .ok (.getfield 25, 3) := by decide +kernel
theorem dX4_init_49 : decode cX4_init 49 = .ok (.iconst (-1), 1) := by decide +kernel
theorem dX4_init_50 : decode cX4_init 50 = .ok (.invokestatic 28, 3) := by decide +kernel
theorem dX4_init_53 : decode cX4_init 53 = .ok (.aload_n 0, 1) := by decide +kernel
theorem dX4_init_54 : decode cX4_init 54 = .ok (.iconst 1, 1) := by decide +kernel
theorem dX4_init_55 : decode cX4_init 55 = .ok (.putfield 34, 3) := by decide +kernel
theorem dX4_init_58 : decode cX4_init 58 = .ok (.return_, 1) := by decide +kernel
theorem dX4_hasFile_0 : decode cX4_hasFile 0 = .ok (.iload_n 1, 1) := by decide +kernel
theorem dX4_hasFile_1 : decode cX4_hasFile 1 = .ok (.ifCond .lt 15, 3) := by decide +kernel
theorem dX4_hasFile_4 : decode cX4_hasFile 4 = .ok (.iload_n 1, 1) := by decide +kernel
theorem dX4_hasFile_5 : decode cX4_hasFile 5 = .ok (.aload_n 0, 1) := by decide +kernel
theorem dX4_hasFile_6 : decode cX4_hasFile 6 = .ok (.getfield 38, 3) := by decide +kernel
theorem dX4_hasFile_9 : decode cX4_hasFile 9 = .ok (.if_icmp .ge 7, 3) := by decide +kernel
theorem dX4_hasFile_12 : decode cX4_hasFile 12 = .ok (.iconst 1, 1) := by decide +kernel
theorem dX4_hasFile_13 : decode cX4_hasFile 13 = .ok (.goto 4, 3) := by decide +kernel
theorem dX4_hasFile_16 : decode cX4_hasFile 16 = .ok (.iconst 0, 1) := by decide +kernel
theorem dX4_hasFile_17 : decode cX4_hasFile 17 = .ok (.ireturn, 1) := by decide +kernel
theorem dX4_hasState_0 : decode cX4_hasState 0 = .ok (.iload_n 1, 1) := by decide +kernel
theorem dX4_hasState_1 : decode cX4_hasState 1 = .ok (.ifCond .lt 15, 3) := by decide +kernel
theorem dX4_hasState_4 : decode cX4_hasState 4 = .ok (.iload_n 1, 1) := by decide +kernel
theorem dX4_hasState_5 : decode cX4_hasState 5 = .ok (.aload_n 0, 1) := by decide +kernel
theorem dX4_hasState_6 : decode cX4_hasState 6 = .ok (.getfield 34, 3) := by decide +kernel
theorem dX4_hasState_9 : decode cX4_hasState 9 = .ok (.if_icmp .ge 7, 3) := by decide +kernel
theorem dX4_hasState_12 : decode cX4_hasState 12 = .ok (.iconst 1, 1) := by decide +kernel
theorem dX4_hasState_13 : decode cX4_hasState 13 = .ok (.goto 4, 3) := by decide +kernel
theorem dX4_hasState_16 : decode cX4_hasState 16 = .ok (.iconst 0, 1) := by decide +kernel
theorem dX4_hasState_17 : decode cX4_hasState 17 = .ok (.ireturn, 1) := by decide +kernel
theorem dX4_latestState_0 : decode cX4_latestState 0 = .ok (.aload_n 0, 1) := by decide +kernel
theorem dX4_latestState_1 : decode cX4_latestState 1 = .ok (.getfield 34, 3) := by decide +kernel
theorem dX4_latestState_4 : decode cX4_latestState 4 = .ok (.iconst 1, 1) := by decide +kernel
theorem dX4_latestState_5 : decode cX4_latestState 5 = .ok (.isub, 1) := by decide +kernel
theorem dX4_latestState_6 : decode cX4_latestState 6 = .ok (.ireturn, 1) := by decide +kernel
theorem dX4_allFiles_0 : decode cX4_allFiles 0 = .ok (.lconst 1, 1) := by decide +kernel
theorem dX4_allFiles_1 : decode cX4_allFiles 1 = .ok (.aload_n 0, 1) := by decide +kernel
theorem dX4_allFiles_2 : decode cX4_allFiles 2 = .ok (.getfield 38, 3) := by decide +kernel
theorem dX4_allFiles_5 : decode cX4_allFiles 5 = .ok (.lshl, 1) := by decide +kernel
theorem dX4_allFiles_6 : decode cX4_allFiles 6 = .ok (.lconst 1, 1) := by decide +kernel
theorem dX4_allFiles_7 : decode cX4_allFiles 7 = .ok (.lsub, 1) := by decide +kernel
theorem dX4_allFiles_8 : decode cX4_allFiles 8 = .ok (.lreturn, 1) := by decide +kernel
theorem dX4_addFile_0 : decode cX4_addFile 0 = .ok (.aload_n 0, 1) := by decide +kernel
theorem dX4_addFile_1 : decode cX4_addFile 1 = .ok (.getfield 38, 3) := by decide +kernel
theorem dX4_addFile_4 : decode cX4_addFile 4 = .ok (.bipush 60, 2) := by decide +kernel
theorem dX4_addFile_6 : decode cX4_addFile 6 = .ok (.if_icmp .lt 5, 3) := by decide +kernel
theorem dX4_addFile_9 : decode cX4_addFile 9 = .ok (.iconst (-1), 1) := by decide +kernel
theorem dX4_addFile_10 : decode cX4_addFile 10 = .ok (.ireturn, 1) := by decide +kernel
theorem dX4_addFile_11 : decode cX4_addFile 11 = .ok (.aload_n 0, 1) := by decide +kernel
theorem dX4_addFile_12 : decode cX4_addFile 12 = .ok (.getfield 9, 3) := by decide +kernel
theorem dX4_addFile_15 : decode cX4_addFile 15 = .ok (.aload_n 0, 1) := by decide +kernel
theorem dX4_addFile_16 : decode cX4_addFile 16 = .ok (.getfield 38, 3) := by decide +kernel
theorem dX4_addFile_19 : decode cX4_addFile 19 = .ok (.iload_n 1, 1) := by decide +kernel
theorem dX4_addFile_20 : decode cX4_addFile 20 = .ok (.iastore, 1) := by decide +kernel
theorem dX4_addFile_21 : decode cX4_addFile 21 = .ok (.aload_n 0, 1) := by decide +kernel
theorem dX4_addFile_22 : decode cX4_addFile 22 = .ok (.dup, 1) := by decide +kernel
theorem dX4_addFile_23 : decode cX4_addFile 23 = .ok (.getfield 38, 3) := by decide +kernel
theorem dX4_addFile_26 : decode cX4_addFile 26 = .ok (.iconst 1, 1) := by decide +kernel
theorem dX4_addFile_27 : decode cX4_addFile 27 = .ok (.iadd, 1) := by decide +kernel
theorem dX4_addFile_28 : decode cX4_addFile 28 = .ok (.putfield 38, 3) := by decide +kernel
theorem dX4_addFile_31 : decode cX4_addFile 31 = .ok (.aload_n 0, 1) := by decide +kernel
theorem dX4_addFile_32 : decode cX4_addFile 32 = .ok (.getfield 38, 3) := by decide +kernel
theorem dX4_addFile_35 : decode cX4_addFile 35 = .ok (.iconst 1, 1) := by decide +kernel
theorem dX4_addFile_36 : decode cX4_addFile 36 = .ok (.isub, 1) := by decide +kernel
theorem dX4_addFile_37 : decode cX4_addFile 37 = .ok (.ireturn, 1) := by decide +kernel
set_option maxRecDepth 20000 in
theorem ggX4_addPut_X5_isWithin : GoodIn wsX4_addPut wsX5_isWithin := goodIn_r _ [4] (by decide +kernel) (by decide +kernel)
set_option maxRecDepth 20000 in
theorem gX4_addPut_X5_isWithin_n41 : GoodIn wsX4_addPut (wsX5_isWithin) := ggX4_addPut_X5_isWithin
set_option maxRecDepth 20000 in
theorem ggX4_addPut_X4_mayChange : GoodIn wsX4_addPut wsX4_mayChange := goodIn_r _ [9, 10, 11, 12, 13, 14, 8, 15, 16, 17, 3, 18, 19, 2, 4, 46, 47, 48, 49, 50, 51, 52, 53] (by decide +kernel) (by decide +kernel)
set_option maxRecDepth 20000 in
theorem gX4_addPut_X4_mayChange : GoodIn wsX4_addPut (wsV RX4 45 RX4 yX4_mayChange wsX4_mayChange) := goodIn_app (goodIn_of _ (by decide +kernel)) ggX4_addPut_X4_mayChange
set_option maxRecDepth 20000 in
theorem ggX4_addPut_X4_latestState : GoodIn wsX4_addPut wsX4_latestState := goodIn_r _ [23, 10, 46, 47, 48, 49, 50, 51, 52, 53] (by decide +kernel) (by decide +kernel)
set_option maxRecDepth 20000 in
theorem gX4_addPut_X4_latestState : GoodIn wsX4_addPut (wsV RX4 49 RX4 yX4_latestState wsX4_latestState) := goodIn_app (goodIn_of _ (by decide +kernel)) ggX4_addPut_X4_latestState
set_option maxRecDepth 20000 in
theorem ggX4_addPut_X4_namedBy : GoodIn wsX4_addPut wsX4_namedBy := goodIn_r _ [27, 1, 28, 29, 30, 8, 31, 10, 2, 3, 4, 46, 47, 48, 49, 50, 51, 52, 53] (by decide +kernel) (by decide +kernel)
set_option maxRecDepth 20000 in
theorem gX4_addPut_X4_namedBy : GoodIn wsX4_addPut (wsV RX4 53 RX4 yX4_namedBy wsX4_namedBy) := goodIn_app (goodIn_of _ (by decide +kernel)) ggX4_addPut_X4_namedBy
set_option maxRecDepth 20000 in
theorem ggX4_addPut_X4_addState : GoodIn wsX4_addPut wsX4_addState := goodIn_r _ [35, 10, 1, 36, 37, 38, 39, 40, 46, 47, 48, 49, 50, 51, 52, 53] (by decide +kernel) (by decide +kernel)
set_option maxRecDepth 20000 in
theorem gX4_addPut_X4_addState : GoodIn wsX4_addPut (wsV RX4 57 RX4 yX4_addState wsX4_addState) := goodIn_app (goodIn_of _ (by decide +kernel)) ggX4_addPut_X4_addState
set_option maxRecDepth 20000 in
theorem ggX4_addPut_X4_gatherFiles : GoodIn wsX4_addPut wsX4_gatherFiles := goodIn_r _ [44, 45, 24, 25, 26, 8, 27, 1, 28, 29, 30, 31, 10, 2, 3, 4, 17, 18, 19, 46, 47, 48, 49, 50, 51, 52, 53] (by decide +kernel) (by decide +kernel)
set_option maxRecDepth 20000 in
theorem gX4_addPut_X4_gatherFiles : GoodIn wsX4_addPut (wsV RX4 61 RX4 yX4_gatherFiles wsX4_gatherFiles) := goodIn_app (goodIn_of _ (by decide +kernel)) ggX4_addPut_X4_gatherFiles
theorem dX4_addPut_0 : decode cX4_addPut 0 = .ok (.iload_n 1, 1) := by decide +kernel
theorem dX4_addPut_1 : decode cX4_addPut 1 = .ok (.iconst 0, 1) := by decide +kernel
theorem dX4_addPut_2 : decode cX4_addPut 2 = .ok (.bipush 11, 2) := by decide +kernel
theorem dX4_addPut_4 : decode cX4_addPut 4 = .ok (.invokestatic 41, 3) := by decide +kernel
theorem dX4_addPut_7 : decode cX4_addPut 7 = .ok (.ifCond .eq 24, 3) := by decide +kernel
theorem dX4_addPut_10 : decode cX4_addPut 10 = .ok (.aload_n 0, 1) := by decide +kernel
theorem dX4_addPut_11 : decode cX4_addPut 11 = .ok (.iload_n 2, 1) := by decide +kernel
theorem dX4_addPut_12 : decode cX4_addPut 12 = .ok (.invokevirtual 45, 3) := by decide +kernel
theorem dX4_addPut_15 : decode cX4_addPut 15 = .ok (.ifCond .eq 16, 3) := by decide +kernel
theorem dX4_addPut_18 : decode cX4_addPut 18 = .ok (.aload_n 0, 1) := by decide +kernel
theorem dX4_addPut_19 : decode cX4_addPut 19 = .ok (.aload_n 0, 1) := by decide +kernel
theorem dX4_addPut_20 : decode cX4_addPut 20 = .ok (.invokevirtual 49, 3) := by decide +kernel
theorem dX4_addPut_23 : decode cX4_addPut 23 = .ok (.iload_n 1, 1) := by decide +kernel
theorem dX4_addPut_24 : decode cX4_addPut 24 = .ok (.invokevirtual 53, 3) := by decide +kernel
theorem dX4_addPut_27 : decode cX4_addPut 27 = .ok (.iload_n 2, 1) := by decide +kernel
theorem dX4_addPut_28 : decode cX4_addPut 28 = .ok (.if_icmp .ne 5, 3) := by decide +kernel
theorem dX4_addPut_31 : decode cX4_addPut 31 = .ok (.iconst (-1), 1) := by decide +kernel
theorem dX4_addPut_32 : decode cX4_addPut 32 = .ok (.ireturn, 1) := by decide +kernel
theorem dX4_addPut_33 : decode cX4_addPut 33 = .ok (.aload_n 0, 1) := by decide +kernel
theorem dX4_addPut_34 : decode cX4_addPut 34 = .ok (.iload_n 3, 1) := by decide +kernel
theorem dX4_addPut_35 : decode cX4_addPut 35 = .ok (.invokevirtual 57, 3) := by decide +kernel
theorem dX4_addPut_38 : decode cX4_addPut 38 = .ok (.istore 4, 2) := by decide +kernel
theorem dX4_addPut_40 : decode cX4_addPut 40 = .ok (.aload_n 0, 1) := by decide +kernel
theorem dX4_addPut_41 : decode cX4_addPut 41 = .ok (.getfield 25, 3) := by decide +kernel
theorem dX4_addPut_44 : decode cX4_addPut 44 = .ok (.iload 4, 2) := by decide +kernel
theorem dX4_addPut_46 : decode cX4_addPut 46 = .ok (.bipush 12, 2) := by decide +kernel
theorem dX4_addPut_48 : decode cX4_addPut 48 = .ok (.imul, 1) := by decide +kernel
theorem dX4_addPut_49 : decode cX4_addPut 49 = .ok (.iload_n 1, 1) := by decide +kernel
theorem dX4_addPut_50 : decode cX4_addPut 50 = .ok (.iadd, 1) := by decide +kernel
theorem dX4_addPut_51 : decode cX4_addPut 51 = .ok (.iload_n 2, 1) := by decide +kernel
theorem dX4_addPut_52 : decode cX4_addPut 52 = .ok (.iastore, 1) := by decide +kernel
theorem dX4_addPut_53 : decode cX4_addPut 53 = .ok (.aload_n 0, 1) := by decide +kernel
theorem dX4_addPut_54 : decode cX4_addPut 54 = .ok (.iload 4, 2) := by decide +kernel
theorem dX4_addPut_56 : decode cX4_addPut 56 = .ok (.invokevirtual 61, 3) := by decide +kernel
theorem dX4_addPut_59 : decode cX4_addPut 59 = .ok (.iload 4, 2) := by decide +kernel
theorem dX4_addPut_61 : decode cX4_addPut 61 = .ok (.ireturn, 1) := by decide +kernel
set_option maxRecDepth 20000 in
theorem ggX4_addYank_X4_mayChange : GoodIn wsX4_addYank wsX4_mayChange := goodIn_r _ [8, 9, 1, 10, 11, 12, 7, 13, 14, 15, 16, 17, 18, 19, 20, 43, 44, 45, 46, 47, 48, 49, 50] (by decide +kernel) (by decide +kernel)
set_option maxRecDepth 20000 in
theorem gX4_addYank_X4_mayChange : GoodIn wsX4_addYank (wsV RX4 45 RX4 yX4_mayChange wsX4_mayChange) := goodIn_app (goodIn_of _ (by decide +kernel)) ggX4_addYank_X4_mayChange
set_option maxRecDepth 20000 in
theorem ggX4_addYank_X5_bitOf : GoodIn wsX4_addYank wsX5_bitOf := goodIn_r _ [17, 18, 19, 16, 20] (by decide +kernel) (by decide +kernel)
set_option maxRecDepth 20000 in
theorem gX4_addYank_X5_bitOf_n69 : GoodIn wsX4_addYank (wsX5_bitOf) := ggX4_addYank_X5_bitOf
set_option maxRecDepth 20000 in
theorem ggX4_addYank_X4_addState : GoodIn wsX4_addYank wsX4_addState := goodIn_r _ [24, 9, 3, 25, 26, 27, 28, 29, 43, 44, 45, 46, 47, 48, 49, 50] (by decide +kernel) (by decide +kernel)
set_option maxRecDepth 20000 in
theorem gX4_addYank_X4_addState : GoodIn wsX4_addYank (wsV RX4 57 RX4 yX4_addState wsX4_addState) := goodIn_app (goodIn_of _ (by decide +kernel)) ggX4_addYank_X4_addState
set_option maxRecDepth 20000 in
theorem ggX4_addYank_X4_gatherFiles : GoodIn wsX4_addYank wsX4_gatherFiles := goodIn_r _ [33, 34, 35, 36, 37, 7, 38, 3, 39, 40, 41, 42, 9, 19, 16, 20, 15, 17, 18, 43, 44, 45, 46, 47, 48, 49, 50] (by decide +kernel) (by decide +kernel)
set_option maxRecDepth 20000 in
theorem gX4_addYank_X4_gatherFiles : GoodIn wsX4_addYank (wsV RX4 61 RX4 yX4_gatherFiles wsX4_gatherFiles) := goodIn_app (goodIn_of _ (by decide +kernel)) ggX4_addYank_X4_gatherFiles
theorem dX4_addYank_0 : decode cX4_addYank 0 = .ok (.aload_n 0, 1) := by decide +kernel
theorem dX4_addYank_1 : decode cX4_addYank 1 = .ok (.iload_n 1, 1) := by decide +kernel
theorem dX4_addYank_2 : decode cX4_addYank 2 = .ok (.invokevirtual 45, 3) := by decide +kernel
theorem dX4_addYank_5 : decode cX4_addYank 5 = .ok (.ifCond .ne 5, 3) := by decide +kernel
theorem dX4_addYank_8 : decode cX4_addYank 8 = .ok (.iconst (-1), 1) := by decide +kernel
theorem dX4_addYank_9 : decode cX4_addYank 9 = .ok (.ireturn, 1) := by decide +kernel
theorem dX4_addYank_10 : decode cX4_addYank 10 = .ok (.aload_n 0, 1) := by decide +kernel
theorem dX4_addYank_11 : decode cX4_addYank 11 = .ok (.dup, 1) := by decide +kernel
theorem dX4_addYank_12 : decode cX4_addYank 12 = .ok (.getfield 65, 3) := by decide +kernel
theorem dX4_addYank_15 : decode cX4_addYank 15 = .ok (.iload_n 1, 1) := by decide +kernel
theorem dX4_addYank_16 : decode cX4_addYank 16 = .ok (.invokestatic 69, 3) := by decide +kernel
theorem dX4_addYank_19 : decode cX4_addYank 19 = .ok (.lor, 1) := by decide +kernel
theorem dX4_addYank_20 : decode cX4_addYank 20 = .ok (.putfield 65, 3) := by decide +kernel
theorem dX4_addYank_23 : decode cX4_addYank 23 = .ok (.aload_n 0, 1) := by decide +kernel
theorem dX4_addYank_24 : decode cX4_addYank 24 = .ok (.getfield 15, 3) := by decide +kernel
theorem dX4_addYank_27 : decode cX4_addYank 27 = .ok (.iload_n 1, 1) := by decide +kernel
theorem dX4_addYank_28 : decode cX4_addYank 28 = .ok (.iload_n 2, 1) := by decide +kernel
theorem dX4_addYank_29 : decode cX4_addYank 29 = .ok (.iastore, 1) := by decide +kernel
theorem dX4_addYank_30 : decode cX4_addYank 30 = .ok (.aload_n 0, 1) := by decide +kernel
theorem dX4_addYank_31 : decode cX4_addYank 31 = .ok (.iload_n 2, 1) := by decide +kernel
theorem dX4_addYank_32 : decode cX4_addYank 32 = .ok (.invokevirtual 57, 3) := by decide +kernel
theorem dX4_addYank_35 : decode cX4_addYank 35 = .ok (.istore_n 3, 1) := by decide +kernel
theorem dX4_addYank_36 : decode cX4_addYank 36 = .ok (.iload_n 3, 1) := by decide +kernel
theorem dX4_addYank_37 : decode cX4_addYank 37 = .ok (.bipush 12, 2) := by decide +kernel
theorem dX4_addYank_39 : decode cX4_addYank 39 = .ok (.imul, 1) := by decide +kernel
theorem dX4_addYank_40 : decode cX4_addYank 40 = .ok (.istore 4, 2) := by decide +kernel
theorem dX4_addYank_42 : decode cX4_addYank 42 = .ok (.iload 4, 2) := by decide +kernel
theorem dX4_addYank_44 : decode cX4_addYank 44 = .ok (.iload_n 3, 1) := by decide +kernel
theorem dX4_addYank_45 : decode cX4_addYank 45 = .ok (.iconst 1, 1) := by decide +kernel
theorem dX4_addYank_46 : decode cX4_addYank 46 = .ok (.iadd, 1) := by decide +kernel
theorem dX4_addYank_47 : decode cX4_addYank 47 = .ok (.bipush 12, 2) := by decide +kernel
theorem dX4_addYank_49 : decode cX4_addYank 49 = .ok (.imul, 1) := by decide +kernel
theorem dX4_addYank_50 : decode cX4_addYank 50 = .ok (.if_icmp .ge 28, 3) := by decide +kernel
theorem dX4_addYank_53 : decode cX4_addYank 53 = .ok (.aload_n 0, 1) := by decide +kernel
theorem dX4_addYank_54 : decode cX4_addYank 54 = .ok (.getfield 25, 3) := by decide +kernel
theorem dX4_addYank_57 : decode cX4_addYank 57 = .ok (.iload 4, 2) := by decide +kernel
theorem dX4_addYank_59 : decode cX4_addYank 59 = .ok (.iaload, 1) := by decide +kernel
theorem dX4_addYank_60 : decode cX4_addYank 60 = .ok (.iload_n 1, 1) := by decide +kernel
theorem dX4_addYank_61 : decode cX4_addYank 61 = .ok (.if_icmp .ne 11, 3) := by decide +kernel
theorem dX4_addYank_64 : decode cX4_addYank 64 = .ok (.aload_n 0, 1) := by decide +kernel
theorem dX4_addYank_65 : decode cX4_addYank 65 = .ok (.getfield 25, 3) := by decide +kernel
theorem dX4_addYank_68 : decode cX4_addYank 68 = .ok (.iload 4, 2) := by decide +kernel
theorem dX4_addYank_70 : decode cX4_addYank 70 = .ok (.iconst (-1), 1) := by decide +kernel
theorem dX4_addYank_71 : decode cX4_addYank 71 = .ok (.iastore, 1) := by decide +kernel
theorem dX4_addYank_72 : decode cX4_addYank 72 = .ok (.iinc 4 1, 3) := by decide +kernel
theorem dX4_addYank_75 : decode cX4_addYank 75 = .ok (.goto (-33), 3) := by decide +kernel
theorem dX4_addYank_78 : decode cX4_addYank 78 = .ok (.aload_n 0, 1) := by decide +kernel
theorem dX4_addYank_79 : decode cX4_addYank 79 = .ok (.iload_n 3, 1) := by decide +kernel
theorem dX4_addYank_80 : decode cX4_addYank 80 = .ok (.invokevirtual 61, 3) := by decide +kernel
theorem dX4_addYank_83 : decode cX4_addYank 83 = .ok (.iload_n 3, 1) := by decide +kernel
theorem dX4_addYank_84 : decode cX4_addYank 84 = .ok (.ireturn, 1) := by decide +kernel
set_option maxRecDepth 20000 in
theorem ggX4_mayChange_X4_hasFile : GoodIn wsX4_mayChange wsX4_hasFile := goodIn_r _ [7, 8, 15, 16, 17, 18, 19, 20, 21, 22] (by decide +kernel) (by decide +kernel)
set_option maxRecDepth 20000 in
theorem gX4_mayChange_X4_hasFile : GoodIn wsX4_mayChange (wsV RX4 73 RX4 yX4_hasFile wsX4_hasFile) := goodIn_app (goodIn_of _ (by decide +kernel)) ggX4_mayChange_X4_hasFile
set_option maxRecDepth 20000 in
theorem ggX4_mayChange_X5_bitOf : GoodIn wsX4_mayChange wsX5_bitOf := goodIn_r _ [11, 12, 13, 10, 14] (by decide +kernel) (by decide +kernel)
set_option maxRecDepth 20000 in
theorem gX4_mayChange_X5_bitOf_n69 : GoodIn wsX4_mayChange (wsX5_bitOf) := ggX4_mayChange_X5_bitOf
theorem dX4_mayChange_0 : decode cX4_mayChange 0 = .ok (.aload_n 0, 1) := by decide +kernel
theorem dX4_mayChange_1 : decode cX4_mayChange 1 = .ok (.getfield 34, 3) := by decide +kernel
theorem dX4_mayChange_4 : decode cX4_mayChange 4 = .ok (.bipush 60, 2) := by decide +kernel
theorem dX4_mayChange_6 : decode cX4_mayChange 6 = .ok (.if_icmp .ge 29, 3) := by decide +kernel
theorem dX4_mayChange_9 : decode cX4_mayChange 9 = .ok (.aload_n 0, 1) := by decide +kernel
theorem dX4_mayChange_10 : decode cX4_mayChange 10 = .ok (.iload_n 1, 1) := by decide +kernel
theorem dX4_mayChange_11 : decode cX4_mayChange 11 = .ok (.invokevirtual 73, 3) := by decide +kernel
theorem dX4_mayChange_14 : decode cX4_mayChange 14 = .ok (.ifCond .eq 21, 3) := by decide +kernel
theorem dX4_mayChange_17 : decode cX4_mayChange 17 = .ok (.aload_n 0, 1) := by decide +kernel
theorem dX4_mayChange_18 : decode cX4_mayChange 18 = .ok (.getfield 65, 3) := by decide +kernel
theorem dX4_mayChange_21 : decode cX4_mayChange 21 = .ok (.iload_n 1, 1) := by decide +kernel
theorem dX4_mayChange_22 : decode cX4_mayChange 22 = .ok (.invokestatic 69, 3) := by decide +kernel
theorem dX4_mayChange_25 : decode cX4_mayChange 25 = .ok (.land, 1) := by decide +kernel
theorem dX4_mayChange_26 : decode cX4_mayChange 26 = .ok (.lconst 0, 1) := by decide +kernel
theorem dX4_mayChange_27 : decode cX4_mayChange 27 = .ok (.lcmp, 1) := by decide +kernel
theorem dX4_mayChange_28 : decode cX4_mayChange 28 = .ok (.ifCond .ne 7, 3) := by decide +kernel
theorem dX4_mayChange_31 : decode cX4_mayChange 31 = .ok (.iconst 1, 1) := by decide +kernel
theorem dX4_mayChange_32 : decode cX4_mayChange 32 = .ok (.goto 4, 3) := by decide +kernel
theorem dX4_mayChange_35 : decode cX4_mayChange 35 = .ok (.iconst 0, 1) := by decide +kernel
theorem dX4_mayChange_36 : decode cX4_mayChange 36 = .ok (.ireturn, 1) := by decide +kernel
theorem dX4_addState_0 : decode cX4_addState 0 = .ok (.aload_n 0, 1) := by decide +kernel
theorem dX4_addState_1 : decode cX4_addState 1 = .ok (.getfield 34, 3) := by decide +kernel
theorem dX4_addState_4 : decode cX4_addState 4 = .ok (.istore_n 2, 1) := by decide +kernel
theorem dX4_addState_5 : decode cX4_addState 5 = .ok (.aload_n 0, 1) := by decide +kernel
theorem dX4_addState_6 : decode cX4_addState 6 = .ok (.getfield 25, 3) := by decide +kernel
theorem dX4_addState_9 : decode cX4_addState 9 = .ok (.iload_n 2, 1) := by decide +kernel
theorem dX4_addState_10 : decode cX4_addState 10 = .ok (.iconst 1, 1) := by decide +kernel
theorem dX4_addState_11 : decode cX4_addState 11 = .ok (.isub, 1) := by decide +kernel
theorem dX4_addState_12 : decode cX4_addState 12 = .ok (.bipush 12, 2) := by decide +kernel
theorem dX4_addState_14 : decode cX4_addState 14 = .ok (.imul, 1) := by decide +kernel
theorem dX4_addState_15 : decode cX4_addState 15 = .ok (.aload_n 0, 1) := by decide +kernel
theorem dX4_addState_16 : decode cX4_addState 16 = .ok (.getfield 25, 3) := by decide +kernel
theorem dX4_addState_19 : decode cX4_addState 19 = .ok (.iload_n 2, 1) := by decide +kernel
theorem dX4_addState_20 : decode cX4_addState 20 = .ok (.bipush 12, 2) := by decide +kernel
theorem dX4_addState_22 : decode cX4_addState 22 = .ok (.imul, 1) := by decide +kernel
theorem dX4_addState_23 : decode cX4_addState 23 = .ok (.bipush 12, 2) := by decide +kernel
theorem dX4_addState_25 : decode cX4_addState 25 = .ok (.invokestatic 76, 3) := by decide +kernel
theorem dX4_addState_28 : decode cX4_addState 28 = .ok (.aload_n 0, 1) := by decide +kernel
theorem dX4_addState_29 : decode cX4_addState 29 = .ok (.getfield 18, 3) := by decide +kernel
theorem dX4_addState_32 : decode cX4_addState 32 = .ok (.iload_n 2, 1) := by decide +kernel
theorem dX4_addState_33 : decode cX4_addState 33 = .ok (.iload_n 1, 1) := by decide +kernel
theorem dX4_addState_34 : decode cX4_addState 34 = .ok (.iastore, 1) := by decide +kernel
theorem dX4_addState_35 : decode cX4_addState 35 = .ok (.aload_n 0, 1) := by decide +kernel
theorem dX4_addState_36 : decode cX4_addState 36 = .ok (.dup, 1) := by decide +kernel
theorem dX4_addState_37 : decode cX4_addState 37 = .ok (.getfield 34, 3) := by decide +kernel
theorem dX4_addState_40 : decode cX4_addState 40 = .ok (.iconst 1, 1) := by decide +kernel
theorem dX4_addState_41 : decode cX4_addState 41 = .ok (.iadd, 1) := by decide +kernel
theorem dX4_addState_42 : decode cX4_addState 42 = .ok (.putfield 34, 3) := by decide +kernel
theorem dX4_addState_45 : decode cX4_addState 45 = .ok (.iload_n 2, 1) := by decide +kernel
theorem dX4_addState_46 : decode cX4_addState 46 = .ok (.ireturn, 1) := by decide +kernel
set_option maxRecDepth 20000 in
theorem ggX4_gatherFiles_X4_namedBy : GoodIn wsX4_gatherFiles wsX4_namedBy := goodIn_r _ [6, 7, 8, 9, 10, 5, 11, 12, 13, 14, 15, 19, 20, 21, 22, 23, 24, 25, 26] (by decide +kernel) (by decide +kernel)
set_option maxRecDepth 20000 in
theorem gX4_gatherFiles_X4_namedBy : GoodIn wsX4_gatherFiles (wsV RX4 53 RX4 yX4_namedBy wsX4_namedBy) := goodIn_app (goodIn_of _ (by decide +kernel)) ggX4_gatherFiles_X4_namedBy
set_option maxRecDepth 20000 in
theorem ggX4_gatherFiles_X5_bitOf : GoodIn wsX4_gatherFiles wsX5_bitOf := goodIn_r _ [17, 18, 13, 14, 15] (by decide +kernel) (by decide +kernel)
set_option maxRecDepth 20000 in
theorem gX4_gatherFiles_X5_bitOf_n69 : GoodIn wsX4_gatherFiles (wsX5_bitOf) := ggX4_gatherFiles_X5_bitOf
theorem dX4_gatherFiles_0 : decode cX4_gatherFiles 0 = .ok (.lconst 0, 1) := by decide +kernel
theorem dX4_gatherFiles_1 : decode cX4_gatherFiles 1 = .ok (.lstore_n 2, 1) := by decide +kernel
theorem dX4_gatherFiles_2 : decode cX4_gatherFiles 2 = .ok (.iconst 0, 1) := by decide +kernel
theorem dX4_gatherFiles_3 : decode cX4_gatherFiles 3 = .ok (.istore 4, 2) := by decide +kernel
theorem dX4_gatherFiles_5 : decode cX4_gatherFiles 5 = .ok (.iload 4, 2) := by decide +kernel
theorem dX4_gatherFiles_7 : decode cX4_gatherFiles 7 = .ok (.bipush 12, 2) := by decide +kernel
theorem dX4_gatherFiles_9 : decode cX4_gatherFiles 9 = .ok (.if_icmp .ge 22, 3) := by decide +kernel
theorem dX4_gatherFiles_12 : decode cX4_gatherFiles 12 = .ok (.lload_n 2, 1) := by decide +kernel
theorem dX4_gatherFiles_13 : decode cX4_gatherFiles 13 = .ok (.aload_n 0, 1) := by decide +kernel
theorem dX4_gatherFiles_14 : decode cX4_gatherFiles 14 = .ok (.iload_n 1, 1) := by decide +kernel
theorem dX4_gatherFiles_15 : decode cX4_gatherFiles 15 = .ok (.iload 4, 2) := by decide +kernel
theorem dX4_gatherFiles_17 : decode cX4_gatherFiles 17 = .ok (.invokevirtual 53, 3) := by decide +kernel
theorem dX4_gatherFiles_20 : decode cX4_gatherFiles 20 = .ok (.invokestatic 69, 3) := by decide +kernel
theorem dX4_gatherFiles_23 : decode cX4_gatherFiles 23 = .ok (.lor, 1) := by decide +kernel
theorem dX4_gatherFiles_24 : decode cX4_gatherFiles 24 = .ok (.lstore_n 2, 1) := by decide +kernel
theorem dX4_gatherFiles_25 : decode cX4_gatherFiles 25 = .ok (.iinc 4 1, 3) := by decide +kernel
theorem dX4_gatherFiles_28 : decode cX4_gatherFiles 28 = .ok (.goto (-23), 3) := by decide +kernel
theorem dX4_gatherFiles_31 : decode cX4_gatherFiles 31 = .ok (.aload_n 0, 1) := by decide +kernel
theorem dX4_gatherFiles_32 : decode cX4_gatherFiles 32 = .ok (.getfield 21, 3) := by decide +kernel
theorem dX4_gatherFiles_35 : decode cX4_gatherFiles 35 = .ok (.iload_n 1, 1) := by decide +kernel
theorem dX4_gatherFiles_36 : decode cX4_gatherFiles 36 = .ok (.lload_n 2, 1) := by decide +kernel
theorem dX4_gatherFiles_37 : decode cX4_gatherFiles 37 = .ok (.lastore, 1) := by decide +kernel
theorem dX4_gatherFiles_38 : decode cX4_gatherFiles 38 = .ok (.return_, 1) := by decide +kernel
set_option maxRecDepth 20000 in
theorem ggX4_namedBy_X4_hasState : GoodIn wsX4_namedBy wsX4_hasState := goodIn_r _ [6, 7, 11, 12, 13, 14, 15, 16, 17, 18] (by decide +kernel) (by decide +kernel)
set_option maxRecDepth 20000 in
theorem gX4_namedBy_X4_hasState : GoodIn wsX4_namedBy (wsV RX4 82 RX4 yX4_hasState wsX4_hasState) := goodIn_app (goodIn_of _ (by decide +kernel)) ggX4_namedBy_X4_hasState
set_option maxRecDepth 20000 in
theorem ggX4_namedBy_X5_isWithin : GoodIn wsX4_namedBy wsX5_isWithin := goodIn_r _ [10] (by decide +kernel) (by decide +kernel)
set_option maxRecDepth 20000 in
theorem gX4_namedBy_X5_isWithin_n41 : GoodIn wsX4_namedBy (wsX5_isWithin) := ggX4_namedBy_X5_isWithin
theorem dX4_namedBy_0 : decode cX4_namedBy 0 = .ok (.aload_n 0, 1) := by decide +kernel
theorem dX4_namedBy_1 : decode cX4_namedBy 1 = .ok (.iload_n 1, 1) := by decide +kernel
theorem dX4_namedBy_2 : decode cX4_namedBy 2 = .ok (.invokevirtual 82, 3) := by decide +kernel
theorem dX4_namedBy_5 : decode cX4_namedBy 5 = .ok (.ifCond .eq 13, 3) := by decide +kernel
theorem dX4_namedBy_8 : decode cX4_namedBy 8 = .ok (.iload_n 2, 1) := by decide +kernel
theorem dX4_namedBy_9 : decode cX4_namedBy 9 = .ok (.iconst 0, 1) := by decide +kernel
theorem dX4_namedBy_10 : decode cX4_namedBy 10 = .ok (.bipush 11, 2) := by decide +kernel
theorem dX4_namedBy_12 : decode cX4_namedBy 12 = .ok (.invokestatic 41, 3) := by decide +kernel
theorem dX4_namedBy_15 : decode cX4_namedBy 15 = .ok (.ifCond .ne 5, 3) := by decide +kernel
theorem dX4_namedBy_18 : decode cX4_namedBy 18 = .ok (.iconst (-1), 1) := by decide +kernel
theorem dX4_namedBy_19 : decode cX4_namedBy 19 = .ok (.ireturn, 1) := by decide +kernel
theorem dX4_namedBy_20 : decode cX4_namedBy 20 = .ok (.aload_n 0, 1) := by decide +kernel
theorem dX4_namedBy_21 : decode cX4_namedBy 21 = .ok (.getfield 25, 3) := by decide +kernel
theorem dX4_namedBy_24 : decode cX4_namedBy 24 = .ok (.iload_n 1, 1) := by decide +kernel
theorem dX4_namedBy_25 : decode cX4_namedBy 25 = .ok (.bipush 12, 2) := by decide +kernel
theorem dX4_namedBy_27 : decode cX4_namedBy 27 = .ok (.imul, 1) := by decide +kernel
theorem dX4_namedBy_28 : decode cX4_namedBy 28 = .ok (.iload_n 2, 1) := by decide +kernel
theorem dX4_namedBy_29 : decode cX4_namedBy 29 = .ok (.iadd, 1) := by decide +kernel
theorem dX4_namedBy_30 : decode cX4_namedBy 30 = .ok (.iaload, 1) := by decide +kernel
theorem dX4_namedBy_31 : decode cX4_namedBy 31 = .ok (.ireturn, 1) := by decide +kernel
set_option maxRecDepth 20000 in
theorem ggX4_namesAlike_X5_isIn : GoodIn wsX4_namesAlike wsX5_isIn := goodIn_r _ [3, 4, 5, 2, 6] (by decide +kernel) (by decide +kernel)
set_option maxRecDepth 20000 in
theorem gX4_namesAlike_X5_isIn_n85 : GoodIn wsX4_namesAlike (wsX5_isIn) := ggX4_namesAlike_X5_isIn
set_option maxRecDepth 20000 in
theorem ggX4_namesAlike_X4_namedBy : GoodIn wsX4_namesAlike wsX4_namedBy := goodIn_r _ [11, 12, 13, 14, 15, 10, 16, 17, 5, 2, 6, 18, 19, 20, 21, 22, 23, 24, 25] (by decide +kernel) (by decide +kernel)
set_option maxRecDepth 20000 in
theorem gX4_namesAlike_X4_namedBy : GoodIn wsX4_namesAlike (wsV RX4 53 RX4 yX4_namedBy wsX4_namedBy) := goodIn_app (goodIn_of _ (by decide +kernel)) ggX4_namesAlike_X4_namedBy
theorem dX4_namesAlike_0 : decode cX4_namesAlike 0 = .ok (.iconst 0, 1) := by decide +kernel
theorem dX4_namesAlike_1 : decode cX4_namesAlike 1 = .ok (.istore 4, 2) := by decide +kernel
theorem dX4_namesAlike_3 : decode cX4_namesAlike 3 = .ok (.iload 4, 2) := by decide +kernel
theorem dX4_namesAlike_5 : decode cX4_namesAlike 5 = .ok (.bipush 12, 2) := by decide +kernel
theorem dX4_namesAlike_7 : decode cX4_namesAlike 7 = .ok (.if_icmp .ge 37, 3) := by decide +kernel
theorem dX4_namesAlike_10 : decode cX4_namesAlike 10 = .ok (.iload_n 3, 1) := by decide +kernel
theorem dX4_namesAlike_11 : decode cX4_namesAlike 11 = .ok (.iload 4, 2) := by decide +kernel
theorem dX4_namesAlike_13 : decode cX4_namesAlike 13 = .ok (.invokestatic 85, 3) := by decide +kernel
theorem dX4_namesAlike_16 : decode cX4_namesAlike 16 = .ok (.ifCond .eq 22, 3) := by decide +kernel
theorem dX4_namesAlike_19 : decode cX4_namesAlike 19 = .ok (.aload_n 0, 1) := by decide +kernel
theorem dX4_namesAlike_20 : decode cX4_namesAlike 20 = .ok (.iload_n 1, 1) := by decide +kernel
theorem dX4_namesAlike_21 : decode cX4_namesAlike 21 = .ok (.iload 4, 2) := by decide +kernel
theorem dX4_namesAlike_23 : decode cX4_namesAlike 23 = .ok (.invokevirtual 53, 3) := by decide +kernel
theorem dX4_namesAlike_26 : decode cX4_namesAlike 26 = .ok (.aload_n 0, 1) := by decide +kernel
theorem dX4_namesAlike_27 : decode cX4_namesAlike 27 = .ok (.iload_n 2, 1) := by decide +kernel
theorem dX4_namesAlike_28 : decode cX4_namesAlike 28 = .ok (.iload 4, 2) := by decide +kernel
theorem dX4_namesAlike_30 : decode cX4_namesAlike 30 = .ok (.invokevirtual 53, 3) := by decide +kernel
theorem dX4_namesAlike_33 : decode cX4_namesAlike 33 = .ok (.if_icmp .eq 5, 3) := by decide +kernel
theorem dX4_namesAlike_36 : decode cX4_namesAlike 36 = .ok (.iconst 0, 1) := by decide +kernel
theorem dX4_namesAlike_37 : decode cX4_namesAlike 37 = .ok (.ireturn, 1) := by decide +kernel
theorem dX4_namesAlike_38 : decode cX4_namesAlike 38 = .ok (.iinc 4 1, 3) := by decide +kernel
theorem dX4_namesAlike_41 : decode cX4_namesAlike 41 = .ok (.goto (-38), 3) := by decide +kernel
theorem dX4_namesAlike_44 : decode cX4_namesAlike 44 = .ok (.iconst 1, 1) := by decide +kernel
theorem dX4_namesAlike_45 : decode cX4_namesAlike 45 = .ok (.ireturn, 1) := by decide +kernel
set_option maxRecDepth 20000 in
theorem ggX4_namesLongYanked_X4_filesOf : GoodIn wsX4_namesLongYanked wsX4_filesOf := goodIn_r _ [8, 9, 10, 11, 12, 7, 13, 14, 21, 22, 23, 24, 25, 26, 27, 28] (by decide +kernel) (by decide +kernel)
set_option maxRecDepth 20000 in
theorem gX4_namesLongYanked_X4_filesOf : GoodIn wsX4_namesLongYanked (wsV RX4 89 RX4 yX4_filesOf wsX4_filesOf) := goodIn_app (goodIn_of _ (by decide +kernel)) ggX4_namesLongYanked_X4_filesOf
set_option maxRecDepth 20000 in
theorem ggX4_namesLongYanked_X5_bitOf : GoodIn wsX4_namesLongYanked wsX5_bitOf := goodIn_r _ [17, 18, 19, 16, 20] (by decide +kernel) (by decide +kernel)
set_option maxRecDepth 20000 in
theorem gX4_namesLongYanked_X5_bitOf_n69 : GoodIn wsX4_namesLongYanked (wsX5_bitOf) := ggX4_namesLongYanked_X5_bitOf
theorem dX4_namesLongYanked_0 : decode cX4_namesLongYanked 0 = .ok (.aload_n 0, 1) := by decide +kernel
theorem dX4_namesLongYanked_1 : decode cX4_namesLongYanked 1 = .ok (.iload_n 1, 1) := by decide +kernel
theorem dX4_namesLongYanked_2 : decode cX4_namesLongYanked 2 = .ok (.invokevirtual 89, 3) := by decide +kernel
theorem dX4_namesLongYanked_5 : decode cX4_namesLongYanked 5 = .ok (.aload_n 0, 1) := by decide +kernel
theorem dX4_namesLongYanked_6 : decode cX4_namesLongYanked 6 = .ok (.getfield 65, 3) := by decide +kernel
theorem dX4_namesLongYanked_9 : decode cX4_namesLongYanked 9 = .ok (.land, 1) := by decide +kernel
theorem dX4_namesLongYanked_10 : decode cX4_namesLongYanked 10 = .ok (.lstore 4, 2) := by decide +kernel
theorem dX4_namesLongYanked_12 : decode cX4_namesLongYanked 12 = .ok (.iconst 0, 1) := by decide +kernel
theorem dX4_namesLongYanked_13 : decode cX4_namesLongYanked 13 = .ok (.istore 6, 2) := by decide +kernel
theorem dX4_namesLongYanked_15 : decode cX4_namesLongYanked 15 = .ok (.iload 6, 2) := by decide +kernel
theorem dX4_namesLongYanked_17 : decode cX4_namesLongYanked 17 = .ok (.aload_n 0, 1) := by decide +kernel
theorem dX4_namesLongYanked_18 : decode cX4_namesLongYanked 18 = .ok (.getfield 38, 3) := by decide +kernel
theorem dX4_namesLongYanked_21 : decode cX4_namesLongYanked 21 = .ok (.if_icmp .ge 44, 3) := by decide +kernel
theorem dX4_namesLongYanked_24 : decode cX4_namesLongYanked 24 = .ok (.lload 4, 2) := by decide +kernel
theorem dX4_namesLongYanked_26 : decode cX4_namesLongYanked 26 = .ok (.lconst 0, 1) := by decide +kernel
theorem dX4_namesLongYanked_27 : decode cX4_namesLongYanked 27 = .ok (.lcmp, 1) := by decide +kernel
theorem dX4_namesLongYanked_28 : decode cX4_namesLongYanked 28 = .ok (.ifCond .eq 37, 3) := by decide +kernel
theorem dX4_namesLongYanked_31 : decode cX4_namesLongYanked 31 = .ok (.lload 4, 2) := by decide +kernel
theorem dX4_namesLongYanked_33 : decode cX4_namesLongYanked 33 = .ok (.iload 6, 2) := by decide +kernel
theorem dX4_namesLongYanked_35 : decode cX4_namesLongYanked 35 = .ok (.invokestatic 69, 3) := by decide +kernel
theorem dX4_namesLongYanked_38 : decode cX4_namesLongYanked 38 = .ok (.land, 1) := by decide +kernel
theorem dX4_namesLongYanked_39 : decode cX4_namesLongYanked 39 = .ok (.lconst 0, 1) := by decide +kernel
theorem dX4_namesLongYanked_40 : decode cX4_namesLongYanked 40 = .ok (.lcmp, 1) := by decide +kernel
theorem dX4_namesLongYanked_41 : decode cX4_namesLongYanked 41 = .ok (.ifCond .eq 18, 3) := by decide +kernel
theorem dX4_namesLongYanked_44 : decode cX4_namesLongYanked 44 = .ok (.iload_n 2, 1) := by decide +kernel
theorem dX4_namesLongYanked_45 : decode cX4_namesLongYanked 45 = .ok (.aload_n 0, 1) := by decide +kernel
theorem dX4_namesLongYanked_46 : decode cX4_namesLongYanked 46 = .ok (.getfield 15, 3) := by decide +kernel
theorem dX4_namesLongYanked_49 : decode cX4_namesLongYanked 49 = .ok (.iload 6, 2) := by decide +kernel
theorem dX4_namesLongYanked_51 : decode cX4_namesLongYanked 51 = .ok (.iaload, 1) := by decide +kernel
theorem dX4_namesLongYanked_52 : decode cX4_namesLongYanked 52 = .ok (.isub, 1) := by decide +kernel
theorem dX4_namesLongYanked_53 : decode cX4_namesLongYanked 53 = .ok (.iload_n 3, 1) := by decide +kernel
theorem dX4_namesLongYanked_54 : decode cX4_namesLongYanked 54 = .ok (.if_icmp .le 5, 3) := by decide +kernel
theorem dX4_namesLongYanked_57 : decode cX4_namesLongYanked 57 = .ok (.iconst 1, 1) := by decide +kernel
theorem dX4_namesLongYanked_58 : decode cX4_namesLongYanked 58 = .ok (.ireturn, 1) := by decide +kernel
theorem dX4_namesLongYanked_59 : decode cX4_namesLongYanked 59 = .ok (.iinc 6 1, 3) := by decide +kernel
theorem dX4_namesLongYanked_62 : decode cX4_namesLongYanked 62 = .ok (.goto (-47), 3) := by decide +kernel
theorem dX4_namesLongYanked_65 : decode cX4_namesLongYanked 65 = .ok (.iconst 0, 1) := by decide +kernel
theorem dX4_namesLongYanked_66 : decode cX4_namesLongYanked 66 = .ok (.ireturn, 1) := by decide +kernel
set_option maxRecDepth 20000 in
theorem ggX4_packagesNamedIn_X4_namedBy : GoodIn wsX4_packagesNamedIn wsX4_namedBy := goodIn_r _ [5, 6, 7, 8, 9, 4, 10, 11, 12, 13, 14, 15, 16, 17, 18, 19, 20, 21, 22] (by decide +kernel) (by decide +kernel)
set_option maxRecDepth 20000 in
theorem gX4_packagesNamedIn_X4_namedBy : GoodIn wsX4_packagesNamedIn (wsV RX4 53 RX4 yX4_namedBy wsX4_namedBy) := goodIn_app (goodIn_of _ (by decide +kernel)) ggX4_packagesNamedIn_X4_namedBy
theorem dX4_packagesNamedIn_0 : decode cX4_packagesNamedIn 0 = .ok (.iconst 0, 1) := by decide +kernel
theorem dX4_packagesNamedIn_1 : decode cX4_packagesNamedIn 1 = .ok (.istore_n 2, 1) := by decide +kernel
theorem dX4_packagesNamedIn_2 : decode cX4_packagesNamedIn 2 = .ok (.iconst 0, 1) := by decide +kernel
theorem dX4_packagesNamedIn_3 : decode cX4_packagesNamedIn 3 = .ok (.istore_n 3, 1) := by decide +kernel
theorem dX4_packagesNamedIn_4 : decode cX4_packagesNamedIn 4 = .ok (.iload_n 3, 1) := by decide +kernel
theorem dX4_packagesNamedIn_5 : decode cX4_packagesNamedIn 5 = .ok (.bipush 12, 2) := by decide +kernel
theorem dX4_packagesNamedIn_7 : decode cX4_packagesNamedIn 7 = .ok (.if_icmp .ge 22, 3) := by decide +kernel
theorem dX4_packagesNamedIn_10 : decode cX4_packagesNamedIn 10 = .ok (.aload_n 0, 1) := by decide +kernel
theorem dX4_packagesNamedIn_11 : decode cX4_packagesNamedIn 11 = .ok (.iload_n 1, 1) := by decide +kernel
theorem dX4_packagesNamedIn_12 : decode cX4_packagesNamedIn 12 = .ok (.iload_n 3, 1) := by decide +kernel
theorem dX4_packagesNamedIn_13 : decode cX4_packagesNamedIn 13 = .ok (.invokevirtual 53, 3) := by decide +kernel
theorem dX4_packagesNamedIn_16 : decode cX4_packagesNamedIn 16 = .ok (.iconst (-1), 1) := by decide +kernel
theorem dX4_packagesNamedIn_17 : decode cX4_packagesNamedIn 17 = .ok (.if_icmp .eq 6, 3) := by decide +kernel
theorem dX4_packagesNamedIn_20 : decode cX4_packagesNamedIn 20 = .ok (.iinc 2 1, 3) := by decide +kernel
theorem dX4_packagesNamedIn_23 : decode cX4_packagesNamedIn 23 = .ok (.iinc 3 1, 3) := by decide +kernel
theorem dX4_packagesNamedIn_26 : decode cX4_packagesNamedIn 26 = .ok (.goto (-22), 3) := by decide +kernel
theorem dX4_packagesNamedIn_29 : decode cX4_packagesNamedIn 29 = .ok (.iload_n 2, 1) := by decide +kernel
theorem dX4_packagesNamedIn_30 : decode cX4_packagesNamedIn 30 = .ok (.ireturn, 1) := by decide +kernel
set_option maxRecDepth 20000 in
theorem ggX4_filesOf_X4_hasState : GoodIn wsX4_filesOf wsX4_hasState := goodIn_r _ [6, 7, 8, 9, 10, 11, 12, 13, 14, 15] (by decide +kernel) (by decide +kernel)
set_option maxRecDepth 20000 in
theorem gX4_filesOf_X4_hasState : GoodIn wsX4_filesOf (wsV RX4 82 RX4 yX4_hasState wsX4_hasState) := goodIn_app (goodIn_of _ (by decide +kernel)) ggX4_filesOf_X4_hasState
theorem dX4_filesOf_0 : decode cX4_filesOf 0 = .ok (.aload_n 0, 1) := by decide +kernel
theorem dX4_filesOf_1 : decode cX4_filesOf 1 = .ok (.iload_n 1, 1) := by decide +kernel
theorem dX4_filesOf_2 : decode cX4_filesOf 2 = .ok (.invokevirtual 82, 3) := by decide +kernel
theorem dX4_filesOf_5 : decode cX4_filesOf 5 = .ok (.ifCond .eq 12, 3) := by decide +kernel
theorem dX4_filesOf_8 : decode cX4_filesOf 8 = .ok (.aload_n 0, 1) := by decide +kernel
theorem dX4_filesOf_9 : decode cX4_filesOf 9 = .ok (.getfield 21, 3) := by decide +kernel
theorem dX4_filesOf_12 : decode cX4_filesOf 12 = .ok (.iload_n 1, 1) := by decide +kernel
theorem dX4_filesOf_13 : decode cX4_filesOf 13 = .ok (.laload, 1) := by decide +kernel
theorem dX4_filesOf_14 : decode cX4_filesOf 14 = .ok (.goto 4, 3) := by decide +kernel
theorem dX4_filesOf_17 : decode cX4_filesOf 17 = .ok (.lconst 0, 1) := by decide +kernel
theorem dX4_filesOf_18 : decode cX4_filesOf 18 = .ok (.lreturn, 1) := by decide +kernel
set_option maxRecDepth 20000 in
theorem ggX4_tickOf_X4_hasState : GoodIn wsX4_tickOf wsX4_hasState := goodIn_r _ [6, 7, 8, 9, 10, 11, 12, 13, 14, 15] (by decide +kernel) (by decide +kernel)
set_option maxRecDepth 20000 in
theorem gX4_tickOf_X4_hasState : GoodIn wsX4_tickOf (wsV RX4 82 RX4 yX4_hasState wsX4_hasState) := goodIn_app (goodIn_of _ (by decide +kernel)) ggX4_tickOf_X4_hasState
theorem dX4_tickOf_0 : decode cX4_tickOf 0 = .ok (.aload_n 0, 1) := by decide +kernel
theorem dX4_tickOf_1 : decode cX4_tickOf 1 = .ok (.iload_n 1, 1) := by decide +kernel
theorem dX4_tickOf_2 : decode cX4_tickOf 2 = .ok (.invokevirtual 82, 3) := by decide +kernel
theorem dX4_tickOf_5 : decode cX4_tickOf 5 = .ok (.ifCond .eq 12, 3) := by decide +kernel
theorem dX4_tickOf_8 : decode cX4_tickOf 8 = .ok (.aload_n 0, 1) := by decide +kernel
theorem dX4_tickOf_9 : decode cX4_tickOf 9 = .ok (.getfield 18, 3) := by decide +kernel
theorem dX4_tickOf_12 : decode cX4_tickOf 12 = .ok (.iload_n 1, 1) := by decide +kernel
theorem dX4_tickOf_13 : decode cX4_tickOf 13 = .ok (.iaload, 1) := by decide +kernel
theorem dX4_tickOf_14 : decode cX4_tickOf 14 = .ok (.goto 4, 3) := by decide +kernel
theorem dX4_tickOf_17 : decode cX4_tickOf 17 = .ok (.iconst (-1), 1) := by decide +kernel
theorem dX4_tickOf_18 : decode cX4_tickOf 18 = .ok (.ireturn, 1) := by decide +kernel
set_option maxRecDepth 20000 in
theorem ggX4_ageOf_X4_hasState : GoodIn wsX4_ageOf wsX4_hasState := goodIn_r _ [6, 7, 8, 9, 10, 11, 12, 13, 14, 15] (by decide +kernel) (by decide +kernel)
set_option maxRecDepth 20000 in
theorem gX4_ageOf_X4_hasState : GoodIn wsX4_ageOf (wsV RX4 82 RX4 yX4_hasState wsX4_hasState) := goodIn_app (goodIn_of _ (by decide +kernel)) ggX4_ageOf_X4_hasState
theorem dX4_ageOf_0 : decode cX4_ageOf 0 = .ok (.aload_n 0, 1) := by decide +kernel
theorem dX4_ageOf_1 : decode cX4_ageOf 1 = .ok (.iload_n 1, 1) := by decide +kernel
theorem dX4_ageOf_2 : decode cX4_ageOf 2 = .ok (.iconst 1, 1) := by decide +kernel
theorem dX4_ageOf_3 : decode cX4_ageOf 3 = .ok (.iadd, 1) := by decide +kernel
theorem dX4_ageOf_4 : decode cX4_ageOf 4 = .ok (.invokevirtual 82, 3) := by decide +kernel
theorem dX4_ageOf_7 : decode cX4_ageOf 7 = .ok (.ifCond .eq 16, 3) := by decide +kernel
theorem dX4_ageOf_10 : decode cX4_ageOf 10 = .ok (.iload_n 2, 1) := by decide +kernel
theorem dX4_ageOf_11 : decode cX4_ageOf 11 = .ok (.aload_n 0, 1) := by decide +kernel
theorem dX4_ageOf_12 : decode cX4_ageOf 12 = .ok (.getfield 18, 3) := by decide +kernel
theorem dX4_ageOf_15 : decode cX4_ageOf 15 = .ok (.iload_n 1, 1) := by decide +kernel
theorem dX4_ageOf_16 : decode cX4_ageOf 16 = .ok (.iconst 1, 1) := by decide +kernel
theorem dX4_ageOf_17 : decode cX4_ageOf 17 = .ok (.iadd, 1) := by decide +kernel
theorem dX4_ageOf_18 : decode cX4_ageOf 18 = .ok (.iaload, 1) := by decide +kernel
theorem dX4_ageOf_19 : decode cX4_ageOf 19 = .ok (.isub, 1) := by decide +kernel
theorem dX4_ageOf_20 : decode cX4_ageOf 20 = .ok (.goto 4, 3) := by decide +kernel
theorem dX4_ageOf_23 : decode cX4_ageOf 23 = .ok (.iconst 0, 1) := by decide +kernel
theorem dX4_ageOf_24 : decode cX4_ageOf 24 = .ok (.ireturn, 1) := by decide +kernel
set_option maxRecDepth 20000 in
theorem ggX4_sizeOf_X4_hasFile : GoodIn wsX4_sizeOf wsX4_hasFile := goodIn_r _ [6, 7, 8, 9, 10, 11, 12, 13, 14, 15] (by decide +kernel) (by decide +kernel)
set_option maxRecDepth 20000 in
theorem gX4_sizeOf_X4_hasFile : GoodIn wsX4_sizeOf (wsV RX4 73 RX4 yX4_hasFile wsX4_hasFile) := goodIn_app (goodIn_of _ (by decide +kernel)) ggX4_sizeOf_X4_hasFile
theorem dX4_sizeOf_0 : decode cX4_sizeOf 0 = .ok (.aload_n 0, 1) := by decide +kernel
theorem dX4_sizeOf_1 : decode cX4_sizeOf 1 = .ok (.iload_n 1, 1) := by decide +kernel
theorem dX4_sizeOf_2 : decode cX4_sizeOf 2 = .ok (.invokevirtual 73, 3) := by decide +kernel
theorem dX4_sizeOf_5 : decode cX4_sizeOf 5 = .ok (.ifCond .eq 12, 3) := by decide +kernel
theorem dX4_sizeOf_8 : decode cX4_sizeOf 8 = .ok (.aload_n 0, 1) := by decide +kernel
theorem dX4_sizeOf_9 : decode cX4_sizeOf 9 = .ok (.getfield 9, 3) := by decide +kernel
theorem dX4_sizeOf_12 : decode cX4_sizeOf 12 = .ok (.iload_n 1, 1) := by decide +kernel
theorem dX4_sizeOf_13 : decode cX4_sizeOf 13 = .ok (.iaload, 1) := by decide +kernel
theorem dX4_sizeOf_14 : decode cX4_sizeOf 14 = .ok (.goto 4, 3) := by decide +kernel
theorem dX4_sizeOf_17 : decode cX4_sizeOf 17 = .ok (.iconst 0, 1) := by decide +kernel
theorem dX4_sizeOf_18 : decode cX4_sizeOf 18 = .ok (.ireturn, 1) := by decide +kernel
set_option maxRecDepth 20000 in
theorem ggX4_bytesOf_X5_bitOf : GoodIn wsX4_bytesOf wsX5_bitOf := goodIn_r _ [5, 6, 7, 4, 8] (by decide +kernel) (by decide +kernel)
set_option maxRecDepth 20000 in
theorem gX4_bytesOf_X5_bitOf_n69 : GoodIn wsX4_bytesOf (wsX5_bitOf) := ggX4_bytesOf_X5_bitOf
theorem dX4_bytesOf_0 : decode cX4_bytesOf 0 = .ok (.iconst 0, 1) := by decide +kernel
theorem dX4_bytesOf_1 : decode cX4_bytesOf 1 = .ok (.istore_n 3, 1) := by decide +kernel
theorem dX4_bytesOf_2 : decode cX4_bytesOf 2 = .ok (.iconst 0, 1) := by decide +kernel
theorem dX4_bytesOf_3 : decode cX4_bytesOf 3 = .ok (.istore 4, 2) := by decide +kernel
theorem dX4_bytesOf_5 : decode cX4_bytesOf 5 = .ok (.iload 4, 2) := by decide +kernel
theorem dX4_bytesOf_7 : decode cX4_bytesOf 7 = .ok (.aload_n 0, 1) := by decide +kernel
theorem dX4_bytesOf_8 : decode cX4_bytesOf 8 = .ok (.getfield 38, 3) := by decide +kernel
theorem dX4_bytesOf_11 : decode cX4_bytesOf 11 = .ok (.if_icmp .ge 31, 3) := by decide +kernel
theorem dX4_bytesOf_14 : decode cX4_bytesOf 14 = .ok (.lload_n 1, 1) := by decide +kernel
theorem dX4_bytesOf_15 : decode cX4_bytesOf 15 = .ok (.iload 4, 2) := by decide +kernel
theorem dX4_bytesOf_17 : decode cX4_bytesOf 17 = .ok (.invokestatic 69, 3) := by decide +kernel
theorem dX4_bytesOf_20 : decode cX4_bytesOf 20 = .ok (.land, 1) := by decide +kernel
theorem dX4_bytesOf_21 : decode cX4_bytesOf 21 = .ok (.lconst 0, 1) := by decide +kernel
theorem dX4_bytesOf_22 : decode cX4_bytesOf 22 = .ok (.lcmp, 1) := by decide +kernel
theorem dX4_bytesOf_23 : decode cX4_bytesOf 23 = .ok (.ifCond .eq 13, 3) := by decide +kernel
theorem dX4_bytesOf_26 : decode cX4_bytesOf 26 = .ok (.iload_n 3, 1) := by decide +kernel
theorem dX4_bytesOf_27 : decode cX4_bytesOf 27 = .ok (.aload_n 0, 1) := by decide +kernel
theorem dX4_bytesOf_28 : decode cX4_bytesOf 28 = .ok (.getfield 9, 3) := by decide +kernel
theorem dX4_bytesOf_31 : decode cX4_bytesOf 31 = .ok (.iload 4, 2) := by decide +kernel
theorem dX4_bytesOf_33 : decode cX4_bytesOf 33 = .ok (.iaload, 1) := by decide +kernel
theorem dX4_bytesOf_34 : decode cX4_bytesOf 34 = .ok (.iadd, 1) := by decide +kernel
theorem dX4_bytesOf_35 : decode cX4_bytesOf 35 = .ok (.istore_n 3, 1) := by decide +kernel
theorem dX4_bytesOf_36 : decode cX4_bytesOf 36 = .ok (.iinc 4 1, 3) := by decide +kernel
theorem dX4_bytesOf_39 : decode cX4_bytesOf 39 = .ok (.goto (-34), 3) := by decide +kernel
theorem dX4_bytesOf_42 : decode cX4_bytesOf 42 = .ok (.iload_n 3, 1) := by decide +kernel
theorem dX4_bytesOf_43 : decode cX4_bytesOf 43 = .ok (.ireturn, 1) := by decide +kernel
end
section
set_option maxRecDepth 20000 in
theorem ggX5_init_X4_init : GoodIn wsX5_init wsX4_init := goodIn_r _ [24, 25, 2, 3, 26, 27, 28, 29, 30, 31, 32, 33, 34, 35, 36, 37, 58, 59, 60, 61, 62, 63, 64, 65] (by decide +kernel) (by decide +kernel)
set_option maxRecDepth 20000 in
theorem gX5_init_X4_init_n11 : GoodIn wsX5_init (wsX4_init) := ggX5_init_X4_init
set_option maxRecDepth 20000 in
theorem ggX5_init_X2_init : GoodIn wsX5_init wsX2_init := goodIn_r _ [39, 40, 2, 3, 26, 41, 42, 43, 74, 75, 76, 77] (by decide +kernel) (by decide +kernel)
set_option maxRecDepth 20000 in
theorem gX5_init_X2_init_n18 : GoodIn wsX5_init (wsX2_init) := ggX5_init_X2_init
set_option maxRecDepth 20000 in
theorem ggX5_init_X0_init : GoodIn wsX5_init wsX0_init := goodIn_r _ [45, 46, 2, 3, 26, 47, 48, 49, 50, 51, 35, 36, 37, 78, 79, 80, 81, 82, 83] (by decide +kernel) (by decide +kernel)
set_option maxRecDepth 20000 in
theorem gX5_init_X0_init_n35 : GoodIn wsX5_init (wsX0_init) := ggX5_init_X0_init
set_option maxRecDepth 20000 in
theorem ggX5_init_X1_init : GoodIn wsX5_init wsX1_init := goodIn_r _ [53, 54, 2, 3, 26, 55, 56, 57, 84, 85, 86, 87, 88, 89, 90, 91, 92, 93] (by decide +kernel) (by decide +kernel)
set_option maxRecDepth 20000 in
theorem gX5_init_X1_init_n38 : GoodIn wsX5_init (wsX1_init) := ggX5_init_X1_init
theorem dX5_init_0 : decode cX5_init 0 = .ok (.aload_n 0, 1) := by decide +kernel
theorem dX5_init_1 : decode cX5_init 1 = .ok (.invokespecial 3, 3) := by decide +kernel
theorem dX5_init_4 : decode cX5_init 4 = .ok (.aload_n 0, 1) := by decide +kernel
theorem dX5_init_5 : decode cX5_init 5 = .ok (.new 9, 3) := by decide +kernel
theorem dX5_init_8 : decode cX5_init 8 = .ok (.dup, 1) := by decide +kernel
theorem dX5_init_9 : decode cX5_init 9 = .ok (.invokespecial 11, 3) := by decide +kernel
theorem dX5_init_12 : decode cX5_init 12 = .ok (.putfield 12, 3) := by decide +kernel
theorem dX5_init_15 : decode cX5_init 15 = .ok (.aload_n 0, 1) := by decide +kernel
theorem dX5_init_16 : decode cX5_init 16 = .ok (.new 16, 3) := by decide +kernel
theorem dX5_init_19 : decode cX5_init 19 = .ok (.dup, 1) := by decide +kernel
theorem dX5_init_20 : decode cX5_init 20 = .ok (.invokespecial 18, 3) := by decide +kernel
theorem dX5_init_23 : decode cX5_init 23 = .ok (.putfield 19, 3) := by decide +kernel
theorem dX5_init_26 : decode cX5_init 26 = .ok (.aload_n 0, 1) := by decide +kernel
theorem dX5_init_27 : decode cX5_init 27 = .ok (.bipush 8, 2) := by decide +kernel
theorem dX5_init_29 : decode cX5_init 29 = .ok (.anewarray 23, 3) := by decide +kernel
theorem dX5_init_32 : decode cX5_init 32 = .ok (.putfield 25, 3) := by decide +kernel
theorem dX5_init_35 : decode cX5_init 35 = .ok (.aload_n 0, 1) := by decide +kernel
theorem dX5_init_36 : decode cX5_init 36 = .ok (.bipush 6, 2) := by decide +kernel
theorem dX5_init_38 : decode cX5_init 38 = .ok (.anewarray 29, 3) := by decide +kernel
theorem dX5_init_41 : decode cX5_init 41 = .ok (.putfield 31, 3) := by decide +kernel
theorem dX5_init_44 : decode cX5_init 44 = .ok (.iconst 0, 1) := by decide +kernel
theorem dX5_init_45 : decode cX5_init 45 = .ok (.istore_n 1, 1) := by decide +kernel
theorem dX5_init_46 : decode cX5_init 46 = .ok (.iload_n 1, 1) := by decide +kernel
theorem dX5_init_47 : decode cX5_init 47 = .ok (.bipush 6, 2) := by decide +kernel
theorem dX5_init_49 : decode cX5_init 49 = .ok (.if_icmp .ge 22, 3) := by decide +kernel
theorem dX5_init_52 : decode cX5_init 52 = .ok (.aload_n 0, 1) := by decide +kernel
theorem dX5_init_53 : decode cX5_init 53 = .ok (.getfield 31, 3) := by decide +kernel
theorem dX5_init_56 : decode cX5_init 56 = .ok (.iload_n 1, 1) := by decide +kernel
theorem dX5_init_57 : decode cX5_init 57 = .ok (.new 29, 3) := by decide +kernel
theorem dX5_init_60 : decode cX5_init 60 = .ok (.dup, 1) := by decide +kernel
theorem dX5_init_61 : decode cX5_init 61 = .ok (.invokespecial 35, 3) := by decide +kernel
theorem dX5_init_64 : decode cX5_init 64 = .ok (.aastore, 1) := by decide +kernel
theorem dX5_init_65 : decode cX5_init 65 = .ok (.iinc 1 1, 3) := by decide +kernel
theorem dX5_init_68 : decode cX5_init 68 = .ok (.goto (-22), 3) := by decide +kernel
theorem dX5_init_71 : decode cX5_init 71 = .ok (.aload_n 0, 1) := by decide +kernel
theorem dX5_init_72 : decode cX5_init 72 = .ok (.new 36, 3) := by decide +kernel
theorem dX5_init_75 : decode cX5_init 75 = .ok (.dup, 1) := by decide +kernel
theorem dX5_init_76 : decode cX5_init 76 = .ok (.invokespecial 38, 3) := by decide +kernel
theorem dX5_init_79 : decode cX5_init 79 = .ok (.putfield 39, 3) := by decide +kernel
theorem dX5_init_82 : decode cX5_init 82 = .ok (.aload_n 0, 1) := by decide +kernel
theorem dX5_init_83 : decode cX5_init 83 = .ok (.sipush 9999, 3) := by decide +kernel
theorem dX5_init_86 : decode cX5_init 86 = .ok (.putfield 43, 3) := by decide +kernel
theorem dX5_init_89 : decode cX5_init 89 = .ok (.return_, 1) := by decide +kernel
set_option maxRecDepth 20000 in
theorem ggX5_file_X5_isWithin : GoodIn wsX5_file wsX5_isWithin := goodIn_r _ [5] (by decide +kernel) (by decide +kernel)
set_option maxRecDepth 20000 in
theorem gX5_file_X5_isWithin : GoodIn wsX5_file (va_wsS RX5 47 yX5_isWithin wsX5_isWithin) := goodIn_app (goodIn_of _ (by decide +kernel)) ggX5_file_X5_isWithin
set_option maxRecDepth 20000 in
theorem ggX5_file_X4_addFile : GoodIn wsX5_file wsX4_addFile := goodIn_r _ [9, 10, 11, 20, 21, 22, 23, 24, 25, 26, 27] (by decide +kernel) (by decide +kernel)
set_option maxRecDepth 20000 in
theorem gX5_file_X4_addFile_n51 : GoodIn wsX5_file (wsX4_addFile) := ggX5_file_X4_addFile
theorem dX5_file_0 : decode cX5_file 0 = .ok (.iload_n 1, 1) := by decide +kernel
theorem dX5_file_1 : decode cX5_file 1 = .ok (.iconst 1, 1) := by decide +kernel
theorem dX5_file_2 : decode cX5_file 2 = .ok (.sipush 500, 3) := by decide +kernel
theorem dX5_file_5 : decode cX5_file 5 = .ok (.invokestatic 47, 3) := by decide +kernel
theorem dX5_file_8 : decode cX5_file 8 = .ok (.ifCond .ne 5, 3) := by decide +kernel
theorem dX5_file_11 : decode cX5_file 11 = .ok (.iconst (-1), 1) := by decide +kernel
theorem dX5_file_12 : decode cX5_file 12 = .ok (.ireturn, 1) := by decide +kernel
theorem dX5_file_13 : decode cX5_file 13 = .ok (.aload_n 0, 1) := by decide +kernel
theorem dX5_file_14 : decode cX5_file 14 = .ok (.getfield 12, 3) := by decide +kernel
theorem dX5_file_17 : decode cX5_file 17 = .ok (.iload_n 1, 1) := by decide +kernel
theorem dX5_file_18 : decode cX5_file 18 = .ok (.invokevirtual 51, 3) := by decide +kernel
theorem dX5_file_21 : decode cX5_file 21 = .ok (.ireturn, 1) := by decide +kernel
set_option maxRecDepth 20000 in
theorem ggX5_put_X4_addPut : GoodIn wsX5_put wsX4_addPut := goodIn_r _ [6, 7, 8, 9, 10, 11, 12, 13, 4, 14, 15, 16, 17, 18, 19, 20, 21, 22, 23, 24, 25, 26, 27, 28, 29, 30, 31, 32, 33, 34, 35, 36, 37, 38, 39, 40, 41, 42, 43, 44, 45, 46, 47, 48, 49, 50, 59, 60, 61, 62, 63, 64, 65, 66] (by decide +kernel) (by decide +kernel)
set_option maxRecDepth 20000 in
theorem gX5_put_X4_addPut_n58 : GoodIn wsX5_put (wsX4_addPut) := ggX5_put_X4_addPut
theorem dX5_put_0 : decode cX5_put 0 = .ok (.aload_n 0, 1) := by decide +kernel
theorem dX5_put_1 : decode cX5_put 1 = .ok (.getfield 12, 3) := by decide +kernel
theorem dX5_put_4 : decode cX5_put 4 = .ok (.iload_n 1, 1) := by decide +kernel
theorem dX5_put_5 : decode cX5_put 5 = .ok (.iload_n 2, 1) := by decide +kernel
theorem dX5_put_6 : decode cX5_put 6 = .ok (.aload_n 0, 1) := by decide +kernel
theorem dX5_put_7 : decode cX5_put 7 = .ok (.getfield 55, 3) := by decide +kernel
theorem dX5_put_10 : decode cX5_put 10 = .ok (.invokevirtual 58, 3) := by decide +kernel
theorem dX5_put_13 : decode cX5_put 13 = .ok (.ireturn, 1) := by decide +kernel
set_option maxRecDepth 20000 in
theorem ggX5_yank_X4_addYank : GoodIn wsX5_yank wsX4_addYank := goodIn_r _ [6, 7, 8, 9, 10, 11, 12, 4, 13, 14, 15, 16, 17, 18, 19, 20, 21, 22, 23, 24, 25, 26, 27, 28, 29, 30, 31, 32, 33, 34, 35, 36, 37, 38, 39, 40, 41, 42, 43, 44, 45, 46, 47, 56, 57, 58, 59, 60, 61, 62, 63] (by decide +kernel) (by decide +kernel)
set_option maxRecDepth 20000 in
theorem gX5_yank_X4_addYank_n62 : GoodIn wsX5_yank (wsX4_addYank) := ggX5_yank_X4_addYank
theorem dX5_yank_0 : decode cX5_yank 0 = .ok (.aload_n 0, 1) := by decide +kernel
theorem dX5_yank_1 : decode cX5_yank 1 = .ok (.getfield 12, 3) := by decide +kernel
theorem dX5_yank_4 : decode cX5_yank 4 = .ok (.iload_n 1, 1) := by decide +kernel
theorem dX5_yank_5 : decode cX5_yank 5 = .ok (.aload_n 0, 1) := by decide +kernel
theorem dX5_yank_6 : decode cX5_yank 6 = .ok (.getfield 55, 3) := by decide +kernel
theorem dX5_yank_9 : decode cX5_yank 9 = .ok (.invokevirtual 62, 3) := by decide +kernel
theorem dX5_yank_12 : decode cX5_yank 12 = .ok (.ireturn, 1) := by decide +kernel
set_option maxRecDepth 20000 in
theorem ggX5_names_X4_namedBy : GoodIn wsX5_names wsX4_namedBy := goodIn_r _ [5, 6, 7, 8, 9, 3, 10, 11, 12, 13, 14, 23, 24, 25, 26, 27, 28, 29, 30] (by decide +kernel) (by decide +kernel)
set_option maxRecDepth 20000 in
theorem gX5_names_X4_namedBy_n66 : GoodIn wsX5_names (wsX4_namedBy) := ggX5_names_X4_namedBy
theorem dX5_names_0 : decode cX5_names 0 = .ok (.aload_n 0, 1) := by decide +kernel
theorem dX5_names_1 : decode cX5_names 1 = .ok (.getfield 12, 3) := by decide +kernel
theorem dX5_names_4 : decode cX5_names 4 = .ok (.iload_n 1, 1) := by decide +kernel
theorem dX5_names_5 : decode cX5_names 5 = .ok (.iload_n 2, 1) := by decide +kernel
theorem dX5_names_6 : decode cX5_names 6 = .ok (.invokevirtual 66, 3) := by decide +kernel
theorem dX5_names_9 : decode cX5_names 9 = .ok (.ireturn, 1) := by decide +kernel
set_option maxRecDepth 20000 in
theorem ggX5_state_X4_hasState : GoodIn wsX5_state wsX4_hasState := goodIn_r _ [6, 7, 47, 48, 49, 50, 51, 52, 53, 54] (by decide +kernel) (by decide +kernel)
set_option maxRecDepth 20000 in
theorem gX5_state_X4_hasState_n69 : GoodIn wsX5_state (wsX4_hasState) := ggX5_state_X4_hasState
set_option maxRecDepth 20000 in
theorem ggX5_state_X4_tickOf : GoodIn wsX5_state wsX4_tickOf := goodIn_r _ [10, 11, 12, 3, 5, 4, 6, 7, 47, 48, 49, 50, 51, 52, 53, 54] (by decide +kernel) (by decide +kernel)
set_option maxRecDepth 20000 in
theorem gX5_state_X4_tickOf_n73 : GoodIn wsX5_state (wsX4_tickOf) := ggX5_state_X4_tickOf
set_option maxRecDepth 20000 in
theorem ggX5_state_X4_ageOf : GoodIn wsX5_state wsX4_ageOf := goodIn_r _ [15, 11, 12, 3, 5, 4, 6, 7, 47, 48, 49, 50, 51, 52, 53, 54] (by decide +kernel) (by decide +kernel)
set_option maxRecDepth 20000 in
theorem gX5_state_X4_ageOf_n76 : GoodIn wsX5_state (wsX4_ageOf) := ggX5_state_X4_ageOf
set_option maxRecDepth 20000 in
theorem ggX5_state_X4_packagesNamedIn : GoodIn wsX5_state wsX4_packagesNamedIn := goodIn_r _ [18, 19, 20, 21, 4, 22, 23, 12, 3, 5, 6, 7, 24, 25, 26, 47, 48, 49, 50, 51, 52, 53, 54] (by decide +kernel) (by decide +kernel)
set_option maxRecDepth 20000 in
theorem gX5_state_X4_packagesNamedIn_n79 : GoodIn wsX5_state (wsX4_packagesNamedIn) := ggX5_state_X4_packagesNamedIn
set_option maxRecDepth 20000 in
theorem ggX5_state_X4_filesOf : GoodIn wsX5_state wsX4_filesOf := goodIn_r _ [29, 30, 12, 3, 5, 4, 6, 7, 47, 48, 49, 50, 51, 52, 53, 54] (by decide +kernel) (by decide +kernel)
set_option maxRecDepth 20000 in
theorem gX5_state_X4_filesOf_n82 : GoodIn wsX5_state (wsX4_filesOf) := ggX5_state_X4_filesOf
set_option maxRecDepth 20000 in
theorem ggX5_state_X4_bytesOf : GoodIn wsX5_state wsX4_bytesOf := goodIn_r _ [33, 34, 35, 36, 25, 37, 38, 24, 26, 47, 48, 49, 50, 51, 52, 53, 54] (by decide +kernel) (by decide +kernel)
set_option maxRecDepth 20000 in
theorem gX5_state_X4_bytesOf_n86 : GoodIn wsX5_state (wsX4_bytesOf) := ggX5_state_X4_bytesOf
theorem dX5_state_0 : decode cX5_state 0 = .ok (.aload_n 0, 1) := by decide +kernel
theorem dX5_state_1 : decode cX5_state 1 = .ok (.getfield 12, 3) := by decide +kernel
theorem dX5_state_4 : decode cX5_state 4 = .ok (.iload_n 1, 1) := by decide +kernel
theorem dX5_state_5 : decode cX5_state 5 = .ok (.invokevirtual 69, 3) := by decide +kernel
theorem dX5_state_8 : decode cX5_state 8 = .ok (.ifCond .ne 5, 3) := by decide +kernel
theorem dX5_state_11 : decode cX5_state 11 = .ok (.iconst (-1), 1) := by decide +kernel
theorem dX5_state_12 : decode cX5_state 12 = .ok (.ireturn, 1) := by decide +kernel
theorem dX5_state_13 : decode cX5_state 13 = .ok (.iload_n 2, 1) := by decide +kernel
theorem dX5_state_14 : decode cX5_state 14 = .ok (.tableswitch 77 0 3 #[30, 39, 52, 61], 30) := by decide +kernel
theorem dX5_state_44 : decode cX5_state 44 = .ok (.aload_n 0, 1) := by decide +kernel
theorem dX5_state_45 : decode cX5_state 45 = .ok (.getfield 12, 3) := by decide +kernel
theorem dX5_state_48 : decode cX5_state 48 = .ok (.iload_n 1, 1) := by decide +kernel
theorem dX5_state_49 : decode cX5_state 49 = .ok (.invokevirtual 73, 3) := by decide +kernel
theorem dX5_state_52 : decode cX5_state 52 = .ok (.ireturn, 1) := by decide +kernel
theorem dX5_state_53 : decode cX5_state 53 = .ok (.aload_n 0, 1) := by decide +kernel
theorem dX5_state_54 : decode cX5_state 54 = .ok (.getfield 12, 3) := by decide +kernel
theorem dX5_state_57 : decode cX5_state 57 = .ok (.iload_n 1, 1) := by decide +kernel
theorem dX5_state_58 : decode cX5_state 58 = .ok (.aload_n 0, 1) := by decide +kernel
theorem dX5_state_59 : decode cX5_state 59 = .ok (.getfield 55, 3) := by decide +kernel
theorem dX5_state_62 : decode cX5_state 62 = .ok (.invokevirtual 76, 3) := by decide +kernel
theorem dX5_state_65 : decode cX5_state 65 = .ok (.ireturn, 1) := by decide +kernel
theorem dX5_state_66 : decode cX5_state 66 = .ok (.aload_n 0, 1) := by decide +kernel
theorem dX5_state_67 : decode cX5_state 67 = .ok (.getfield 12, 3) := by decide +kernel
theorem dX5_state_70 : decode cX5_state 70 = .ok (.iload_n 1, 1) := by decide +kernel
theorem dX5_state_71 : decode cX5_state 71 = .ok (.invokevirtual 79, 3) := by decide +kernel
theorem dX5_state_74 : decode cX5_state 74 = .ok (.ireturn, 1) := by decide +kernel
theorem dX5_state_75 : decode cX5_state 75 = .ok (.aload_n 0, 1) := by decide +kernel
theorem dX5_state_76 : decode cX5_state 76 = .ok (.getfield 12, 3) := by decide +kernel
theorem dX5_state_79 : decode cX5_state 79 = .ok (.aload_n 0, 1) := by decide +kernel
theorem dX5_state_80 : decode cX5_state 80 = .ok (.getfield 12, 3) := by decide +kernel
theorem dX5_state_83 : decode cX5_state 83 = .ok (.iload_n 1, 1) := by decide +kernel
theorem dX5_state_84 : decode cX5_state 84 = .ok (.invokevirtual 82, 3) := by decide +kernel
theorem dX5_state_87 : decode cX5_state 87 = .ok (.invokevirtual 86, 3) := by decide +kernel
theorem dX5_state_90 : decode cX5_state 90 = .ok (.ireturn, 1) := by decide +kernel
theorem dX5_state_91 : decode cX5_state 91 = .ok (.iconst (-1), 1) := by decide +kernel
theorem dX5_state_92 : decode cX5_state 92 = .ok (.ireturn, 1) := by decide +kernel
set_option maxRecDepth 20000 in
theorem ggX5_mirror_X5_isWithin : GoodIn wsX5_mirror wsX5_isWithin := goodIn_r _ [9] (by decide +kernel) (by decide +kernel)
set_option maxRecDepth 20000 in
theorem gX5_mirror_X5_isWithin : GoodIn wsX5_mirror (va_wsS RX5 47 yX5_isWithin wsX5_isWithin) := goodIn_app (goodIn_of _ (by decide +kernel)) ggX5_mirror_X5_isWithin
set_option maxRecDepth 20000 in
theorem ggX5_mirror_X3_init : GoodIn wsX5_mirror wsX3_init := goodIn_r _ [11, 12, 13, 14, 15, 16, 17, 18, 19, 20, 21, 22, 23, 24, 33, 34, 35, 36, 37, 38, 39, 40, 41, 42] (by decide +kernel) (by decide +kernel)
set_option maxRecDepth 20000 in
theorem gX5_mirror_X3_init_n93 : GoodIn wsX5_mirror (wsX3_init) := ggX5_mirror_X3_init
theorem dX5_mirror_0 : decode cX5_mirror 0 = .ok (.aload_n 0, 1) := by decide +kernel
theorem dX5_mirror_1 : decode cX5_mirror 1 = .ok (.getfield 90, 3) := by decide +kernel
theorem dX5_mirror_4 : decode cX5_mirror 4 = .ok (.bipush 8, 2) := by decide +kernel
theorem dX5_mirror_6 : decode cX5_mirror 6 = .ok (.if_icmp .ge 17, 3) := by decide +kernel
theorem dX5_mirror_9 : decode cX5_mirror 9 = .ok (.iload_n 1, 1) := by decide +kernel
theorem dX5_mirror_10 : decode cX5_mirror 10 = .ok (.iconst (-1), 1) := by decide +kernel
theorem dX5_mirror_11 : decode cX5_mirror 11 = .ok (.aload_n 0, 1) := by decide +kernel
theorem dX5_mirror_12 : decode cX5_mirror 12 = .ok (.getfield 90, 3) := by decide +kernel
theorem dX5_mirror_15 : decode cX5_mirror 15 = .ok (.iconst 1, 1) := by decide +kernel
theorem dX5_mirror_16 : decode cX5_mirror 16 = .ok (.isub, 1) := by decide +kernel
theorem dX5_mirror_17 : decode cX5_mirror 17 = .ok (.invokestatic 47, 3) := by decide +kernel
theorem dX5_mirror_20 : decode cX5_mirror 20 = .ok (.ifCond .ne 5, 3) := by decide +kernel
theorem dX5_mirror_23 : decode cX5_mirror 23 = .ok (.iconst (-1), 1) := by decide +kernel
theorem dX5_mirror_24 : decode cX5_mirror 24 = .ok (.ireturn, 1) := by decide +kernel
theorem dX5_mirror_25 : decode cX5_mirror 25 = .ok (.iload_n 2, 1) := by decide +kernel
theorem dX5_mirror_26 : decode cX5_mirror 26 = .ok (.iconst 1, 1) := by decide +kernel
theorem dX5_mirror_27 : decode cX5_mirror 27 = .ok (.sipush 1000, 3) := by decide +kernel
theorem dX5_mirror_30 : decode cX5_mirror 30 = .ok (.invokestatic 47, 3) := by decide +kernel
theorem dX5_mirror_33 : decode cX5_mirror 33 = .ok (.ifCond .eq 12, 3) := by decide +kernel
theorem dX5_mirror_36 : decode cX5_mirror 36 = .ok (.iload_n 3, 1) := by decide +kernel
theorem dX5_mirror_37 : decode cX5_mirror 37 = .ok (.iconst 0, 1) := by decide +kernel
theorem dX5_mirror_38 : decode cX5_mirror 38 = .ok (.iconst 3, 1) := by decide +kernel
theorem dX5_mirror_39 : decode cX5_mirror 39 = .ok (.invokestatic 47, 3) := by decide +kernel
theorem dX5_mirror_42 : decode cX5_mirror 42 = .ok (.ifCond .ne 5, 3) := by decide +kernel
theorem dX5_mirror_45 : decode cX5_mirror 45 = .ok (.iconst (-1), 1) := by decide +kernel
theorem dX5_mirror_46 : decode cX5_mirror 46 = .ok (.ireturn, 1) := by decide +kernel
theorem dX5_mirror_47 : decode cX5_mirror 47 = .ok (.aload_n 0, 1) := by decide +kernel
theorem dX5_mirror_48 : decode cX5_mirror 48 = .ok (.getfield 25, 3) := by decide +kernel
theorem dX5_mirror_51 : decode cX5_mirror 51 = .ok (.aload_n 0, 1) := by decide +kernel
theorem dX5_mirror_52 : decode cX5_mirror 52 = .ok (.getfield 90, 3) := by decide +kernel
theorem dX5_mirror_55 : decode cX5_mirror 55 = .ok (.new 23, 3) := by decide +kernel
theorem dX5_mirror_58 : decode cX5_mirror 58 = .ok (.dup, 1) := by decide +kernel
theorem dX5_mirror_59 : decode cX5_mirror 59 = .ok (.iload_n 1, 1) := by decide +kernel
theorem dX5_mirror_60 : decode cX5_mirror 60 = .ok (.iload_n 2, 1) := by decide +kernel
theorem dX5_mirror_61 : decode cX5_mirror 61 = .ok (.iload_n 3, 1) := by decide +kernel
theorem dX5_mirror_62 : decode cX5_mirror 62 = .ok (.invokespecial 93, 3) := by decide +kernel
theorem dX5_mirror_65 : decode cX5_mirror 65 = .ok (.aastore, 1) := by decide +kernel
theorem dX5_mirror_66 : decode cX5_mirror 66 = .ok (.aload_n 0, 1) := by decide +kernel
theorem dX5_mirror_67 : decode cX5_mirror 67 = .ok (.dup, 1) := by decide +kernel
theorem dX5_mirror_68 : decode cX5_mirror 68 = .ok (.getfield 90, 3) := by decide +kernel
theorem dX5_mirror_71 : decode cX5_mirror 71 = .ok (.iconst 1, 1) := by decide +kernel
theorem dX5_mirror_72 : decode cX5_mirror 72 = .ok (.iadd, 1) := by decide +kernel
theorem dX5_mirror_73 : decode cX5_mirror 73 = .ok (.putfield 90, 3) := by decide +kernel
theorem dX5_mirror_76 : decode cX5_mirror 76 = .ok (.aload_n 0, 1) := by decide +kernel
theorem dX5_mirror_77 : decode cX5_mirror 77 = .ok (.getfield 90, 3) := by decide +kernel
theorem dX5_mirror_80 : decode cX5_mirror 80 = .ok (.iconst 1, 1) := by decide +kernel
theorem dX5_mirror_81 : decode cX5_mirror 81 = .ok (.isub, 1) := by decide +kernel
theorem dX5_mirror_82 : decode cX5_mirror 82 = .ok (.ireturn, 1) := by decide +kernel
set_option maxRecDepth 20000 in
theorem ggX5_speed_X5_mirrorAt : GoodIn wsX5_speed wsX5_mirrorAt := goodIn_r _ [5, 6, 7, 8, 9, 4, 10, 21, 22, 23, 24, 25, 26, 27, 28] (by decide +kernel) (by decide +kernel)
set_option maxRecDepth 20000 in
theorem gX5_speed_X5_mirrorAt : GoodIn wsX5_speed (wsV RX5 96 RX5 yX5_mirrorAt wsX5_mirrorAt) := goodIn_app (goodIn_of _ (by decide +kernel)) ggX5_speed_X5_mirrorAt
set_option maxRecDepth 20000 in
theorem ggX5_speed_X5_isWithin : GoodIn wsX5_speed wsX5_isWithin := goodIn_r _ [10] (by decide +kernel) (by decide +kernel)
set_option maxRecDepth 20000 in
theorem gX5_speed_X5_isWithin : GoodIn wsX5_speed (va_wsS RX5 47 yX5_isWithin wsX5_isWithin) := goodIn_app (goodIn_of _ (by decide +kernel)) ggX5_speed_X5_isWithin
theorem dX5_speed_0 : decode cX5_speed 0 = .ok (.aload_n 0, 1) := by decide +kernel
theorem dX5_speed_1 : decode cX5_speed 1 = .ok (.iload_n 1, 1) := by decide +kernel
theorem dX5_speed_2 : decode cX5_speed 2 = .ok (.invokevirtual 96, 3) := by decide +kernel
theorem dX5_speed_5 : decode cX5_speed 5 = .ok (.astore_n 3, 1) := by decide +kernel
theorem dX5_speed_6 : decode cX5_speed 6 = .ok (.aload_n 3, 1) := by decide +kernel
theorem dX5_speed_7 : decode cX5_speed 7 = .ok (.ifnull 14, 3) := by decide +kernel
theorem dX5_speed_10 : decode cX5_speed 10 = .ok (.iload_n 2, 1) := by decide +kernel
theorem dX5_speed_11 : decode cX5_speed 11 = .ok (.iconst 1, 1) := by decide +kernel
theorem dX5_speed_12 : decode cX5_speed 12 = .ok (.sipush 1000, 3) := by decide +kernel
theorem dX5_speed_15 : decode cX5_speed 15 = .ok (.invokestatic 47, 3) := by decide +kernel
theorem dX5_speed_18 : decode cX5_speed 18 = .ok (.ifCond .ne 5, 3) := by decide +kernel
theorem dX5_speed_21 : decode cX5_speed 21 = .ok (.iconst (-1), 1) := by decide +kernel
theorem dX5_speed_22 : decode cX5_speed 22 = .ok (.ireturn, 1) := by decide +kernel
theorem dX5_speed_23 : decode cX5_speed 23 = .ok (.aload_n 3, 1) := by decide +kernel
theorem dX5_speed_24 : decode cX5_speed 24 = .ok (.getfield 100, 3) := by decide +kernel
theorem dX5_speed_27 : decode cX5_speed 27 = .ok (.istore 4, 2) := by decide +kernel
theorem dX5_speed_29 : decode cX5_speed 29 = .ok (.aload_n 3, 1) := by decide +kernel
theorem dX5_speed_30 : decode cX5_speed 30 = .ok (.iload_n 2, 1) := by decide +kernel
theorem dX5_speed_31 : decode cX5_speed 31 = .ok (.putfield 100, 3) := by decide +kernel
theorem dX5_speed_34 : decode cX5_speed 34 = .ok (.iload 4, 2) := by decide +kernel
theorem dX5_speed_36 : decode cX5_speed 36 = .ok (.ireturn, 1) := by decide +kernel
set_option maxRecDepth 20000 in
theorem ggX5_fall_X5_mirrorAt : GoodIn wsX5_fall wsX5_mirrorAt := goodIn_r _ [7, 8, 9, 10, 11, 6, 12, 21, 22, 23, 24, 25, 26, 27, 28] (by decide +kernel) (by decide +kernel)
set_option maxRecDepth 20000 in
theorem gX5_fall_X5_mirrorAt : GoodIn wsX5_fall (wsV RX5 96 RX5 yX5_mirrorAt wsX5_mirrorAt) := goodIn_app (goodIn_of _ (by decide +kernel)) ggX5_fall_X5_mirrorAt
set_option maxRecDepth 20000 in
theorem ggX5_fall_X5_isWithin : GoodIn wsX5_fall wsX5_isWithin := goodIn_r _ [12] (by decide +kernel) (by decide +kernel)
set_option maxRecDepth 20000 in
theorem gX5_fall_X5_isWithin : GoodIn wsX5_fall (va_wsS RX5 47 yX5_isWithin wsX5_isWithin) := goodIn_app (goodIn_of _ (by decide +kernel)) ggX5_fall_X5_isWithin
set_option maxRecDepth 20000 in
theorem ggX5_fall_X2_add : GoodIn wsX5_fall wsX2_add := goodIn_r _ [16, 17, 18, 19, 20, 29, 30, 31, 32] (by decide +kernel) (by decide +kernel)
set_option maxRecDepth 20000 in
theorem gX5_fall_X2_add_n103 : GoodIn wsX5_fall (wsX2_add) := ggX5_fall_X2_add
theorem dX5_fall_0 : decode cX5_fall 0 = .ok (.aload_n 0, 1) := by decide +kernel
theorem dX5_fall_1 : decode cX5_fall 1 = .ok (.iload_n 1, 1) := by decide +kernel
theorem dX5_fall_2 : decode cX5_fall 2 = .ok (.invokevirtual 96, 3) := by decide +kernel
theorem dX5_fall_5 : decode cX5_fall 5 = .ok (.ifnull 28, 3) := by decide +kernel
theorem dX5_fall_8 : decode cX5_fall 8 = .ok (.iload_n 2, 1) := by decide +kernel
theorem dX5_fall_9 : decode cX5_fall 9 = .ok (.aload_n 0, 1) := by decide +kernel
theorem dX5_fall_10 : decode cX5_fall 10 = .ok (.getfield 55, 3) := by decide +kernel
theorem dX5_fall_13 : decode cX5_fall 13 = .ok (.sipush 9999, 3) := by decide +kernel
theorem dX5_fall_16 : decode cX5_fall 16 = .ok (.invokestatic 47, 3) := by decide +kernel
theorem dX5_fall_19 : decode cX5_fall 19 = .ok (.ifCond .eq 14, 3) := by decide +kernel
theorem dX5_fall_22 : decode cX5_fall 22 = .ok (.iload_n 3, 1) := by decide +kernel
theorem dX5_fall_23 : decode cX5_fall 23 = .ok (.iload_n 2, 1) := by decide +kernel
theorem dX5_fall_24 : decode cX5_fall 24 = .ok (.sipush 9999, 3) := by decide +kernel
theorem dX5_fall_27 : decode cX5_fall 27 = .ok (.invokestatic 47, 3) := by decide +kernel
theorem dX5_fall_30 : decode cX5_fall 30 = .ok (.ifCond .ne 5, 3) := by decide +kernel
theorem dX5_fall_33 : decode cX5_fall 33 = .ok (.iconst (-1), 1) := by decide +kernel
theorem dX5_fall_34 : decode cX5_fall 34 = .ok (.ireturn, 1) := by decide +kernel
theorem dX5_fall_35 : decode cX5_fall 35 = .ok (.aload_n 0, 1) := by decide +kernel
theorem dX5_fall_36 : decode cX5_fall 36 = .ok (.getfield 19, 3) := by decide +kernel
theorem dX5_fall_39 : decode cX5_fall 39 = .ok (.iload_n 1, 1) := by decide +kernel
theorem dX5_fall_40 : decode cX5_fall 40 = .ok (.iload_n 2, 1) := by decide +kernel
theorem dX5_fall_41 : decode cX5_fall 41 = .ok (.iload_n 3, 1) := by decide +kernel
theorem dX5_fall_42 : decode cX5_fall 42 = .ok (.invokevirtual 103, 3) := by decide +kernel
theorem dX5_fall_45 : decode cX5_fall 45 = .ok (.ireturn, 1) := by decide +kernel
set_option maxRecDepth 20000 in
theorem ggX5_lies_X5_mirrorAt : GoodIn wsX5_lies wsX5_mirrorAt := goodIn_r _ [5, 6, 7, 8, 9, 4, 10, 21, 22, 23, 24, 25, 26, 27, 28] (by decide +kernel) (by decide +kernel)
set_option maxRecDepth 20000 in
theorem gX5_lies_X5_mirrorAt : GoodIn wsX5_lies (wsV RX5 96 RX5 yX5_mirrorAt wsX5_mirrorAt) := goodIn_app (goodIn_of _ (by decide +kernel)) ggX5_lies_X5_mirrorAt
theorem dX5_lies_0 : decode cX5_lies 0 = .ok (.aload_n 0, 1) := by decide +kernel
theorem dX5_lies_1 : decode cX5_lies 1 = .ok (.iload_n 1, 1) := by decide +kernel
theorem dX5_lies_2 : decode cX5_lies 2 = .ok (.invokevirtual 96, 3) := by decide +kernel
theorem dX5_lies_5 : decode cX5_lies 5 = .ok (.astore_n 3, 1) := by decide +kernel
theorem dX5_lies_6 : decode cX5_lies 6 = .ok (.aload_n 3, 1) := by decide +kernel
theorem dX5_lies_7 : decode cX5_lies 7 = .ok (.ifnull 11, 3) := by decide +kernel
theorem dX5_lies_10 : decode cX5_lies 10 = .ok (.aload_n 3, 1) := by decide +kernel
theorem dX5_lies_11 : decode cX5_lies 11 = .ok (.getfield 106, 3) := by decide +kernel
theorem dX5_lies_14 : decode cX5_lies 14 = .ok (.iload_n 2, 1) := by decide +kernel
theorem dX5_lies_15 : decode cX5_lies 15 = .ok (.if_icmp .ne 5, 3) := by decide +kernel
theorem dX5_lies_18 : decode cX5_lies 18 = .ok (.iconst 0, 1) := by decide +kernel
theorem dX5_lies_19 : decode cX5_lies 19 = .ok (.ireturn, 1) := by decide +kernel
theorem dX5_lies_20 : decode cX5_lies 20 = .ok (.aload_n 3, 1) := by decide +kernel
theorem dX5_lies_21 : decode cX5_lies 21 = .ok (.iload_n 2, 1) := by decide +kernel
theorem dX5_lies_22 : decode cX5_lies 22 = .ok (.putfield 106, 3) := by decide +kernel
theorem dX5_lies_25 : decode cX5_lies 25 = .ok (.iconst 1, 1) := by decide +kernel
theorem dX5_lies_26 : decode cX5_lies 26 = .ok (.ireturn, 1) := by decide +kernel
set_option maxRecDepth 20000 in
theorem ggX5_pass_X5_isWithin : GoodIn wsX5_pass wsX5_isWithin := goodIn_r _ [5] (by decide +kernel) (by decide +kernel)
set_option maxRecDepth 20000 in
theorem gX5_pass_X5_isWithin : GoodIn wsX5_pass (va_wsS RX5 47 yX5_isWithin wsX5_isWithin) := goodIn_app (goodIn_of _ (by decide +kernel)) ggX5_pass_X5_isWithin
set_option maxRecDepth 20000 in
theorem ggX5_pass_X5_stepAll : GoodIn wsX5_pass wsX5_stepAll := goodIn_r _ [9, 10, 1, 11, 12, 13, 14, 15, 16, 17, 18, 19, 20, 3, 4, 5, 21, 22, 23, 24, 25, 2, 26, 27, 28, 29, 30, 31, 32, 33, 34, 35, 36, 37, 38, 39, 40, 41, 42, 43, 44, 45, 46, 47, 48, 49, 50, 51, 52, 53, 54, 55, 56, 57, 58, 59, 60, 61, 62, 63, 64, 65, 66, 67, 68, 69, 70, 71, 72, 73, 74, 75, 76, 77, 78, 79, 80, 81, 82, 83, 84, 85, 86, 87, 88, 89, 90, 91, 92, 93, 94, 95, 96, 97, 98, 99, 100, 101, 102, 103, 104, 105, 106, 107, 108, 109, 110, 111, 112, 113, 114, 115, 116, 117, 118, 119, 120, 121, 122, 123, 124, 125, 126, 127, 128, 129, 130, 131] (by decide +kernel) (by decide +kernel)
set_option maxRecDepth 20000 in
theorem gX5_pass_X5_stepAll : GoodIn wsX5_pass (wsV RX5 110 RX5 yX5_stepAll wsX5_stepAll) := goodIn_app (goodIn_of _ (by decide +kernel)) ggX5_pass_X5_stepAll
theorem dX5_pass_0 : decode cX5_pass 0 = .ok (.iload_n 1, 1) := by decide +kernel
theorem dX5_pass_1 : decode cX5_pass 1 = .ok (.iconst 1, 1) := by decide +kernel
theorem dX5_pass_2 : decode cX5_pass 2 = .ok (.sipush 500, 3) := by decide +kernel
theorem dX5_pass_5 : decode cX5_pass 5 = .ok (.invokestatic 47, 3) := by decide +kernel
theorem dX5_pass_8 : decode cX5_pass 8 = .ok (.ifCond .eq 15, 3) := by decide +kernel
theorem dX5_pass_11 : decode cX5_pass 11 = .ok (.iload_n 1, 1) := by decide +kernel
theorem dX5_pass_12 : decode cX5_pass 12 = .ok (.sipush 9999, 3) := by decide +kernel
theorem dX5_pass_15 : decode cX5_pass 15 = .ok (.aload_n 0, 1) := by decide +kernel
theorem dX5_pass_16 : decode cX5_pass 16 = .ok (.getfield 55, 3) := by decide +kernel
theorem dX5_pass_19 : decode cX5_pass 19 = .ok (.isub, 1) := by decide +kernel
theorem dX5_pass_20 : decode cX5_pass 20 = .ok (.if_icmp .le 5, 3) := by decide +kernel
theorem dX5_pass_23 : decode cX5_pass 23 = .ok (.iconst (-1), 1) := by decide +kernel
theorem dX5_pass_24 : decode cX5_pass 24 = .ok (.ireturn, 1) := by decide +kernel
theorem dX5_pass_25 : decode cX5_pass 25 = .ok (.iconst 0, 1) := by decide +kernel
theorem dX5_pass_26 : decode cX5_pass 26 = .ok (.istore_n 2, 1) := by decide +kernel
theorem dX5_pass_27 : decode cX5_pass 27 = .ok (.iload_n 2, 1) := by decide +kernel
theorem dX5_pass_28 : decode cX5_pass 28 = .ok (.iload_n 1, 1) := by decide +kernel
theorem dX5_pass_29 : decode cX5_pass 29 = .ok (.if_icmp .ge 23, 3) := by decide +kernel
theorem dX5_pass_32 : decode cX5_pass 32 = .ok (.aload_n 0, 1) := by decide +kernel
theorem dX5_pass_33 : decode cX5_pass 33 = .ok (.invokevirtual 110, 3) := by decide +kernel
theorem dX5_pass_36 : decode cX5_pass 36 = .ok (.aload_n 0, 1) := by decide +kernel
theorem dX5_pass_37 : decode cX5_pass 37 = .ok (.dup, 1) := by decide +kernel
theorem dX5_pass_38 : decode cX5_pass 38 = .ok (.getfield 55, 3) := by decide +kernel
theorem dX5_pass_41 : decode cX5_pass 41 = .ok (.iconst 1, 1) := by decide +kernel
theorem dX5_pass_42 : decode cX5_pass 42 = .ok (.iadd, 1) := by decide +kernel
theorem dX5_pass_43 : decode cX5_pass 43 = .ok (.putfield 55, 3) := by decide +kernel
theorem dX5_pass_46 : decode cX5_pass 46 = .ok (.iinc 2 1, 3) := by decide +kernel
theorem dX5_pass_49 : decode cX5_pass 49 = .ok (.goto (-22), 3) := by decide +kernel
theorem dX5_pass_52 : decode cX5_pass 52 = .ok (.aload_n 0, 1) := by decide +kernel
theorem dX5_pass_53 : decode cX5_pass 53 = .ok (.getfield 55, 3) := by decide +kernel
theorem dX5_pass_56 : decode cX5_pass 56 = .ok (.ireturn, 1) := by decide +kernel
set_option maxRecDepth 20000 in
theorem ggX5_about_X5_mirrorAt : GoodIn wsX5_about wsX5_mirrorAt := goodIn_r _ [8, 9, 10, 11, 12, 7, 13, 71, 72, 73, 74, 75, 76, 77, 78] (by decide +kernel) (by decide +kernel)
set_option maxRecDepth 20000 in
theorem gX5_about_X5_mirrorAt : GoodIn wsX5_about (wsV RX5 96 RX5 yX5_mirrorAt wsX5_mirrorAt) := goodIn_app (goodIn_of _ (by decide +kernel)) ggX5_about_X5_mirrorAt
set_option maxRecDepth 20000 in
theorem ggX5_about_J13_bitCount_95d88 : GoodIn wsX5_about wsJ13_bitCount_95d88 := goodIn_r _ [17, 18, 19, 20] (by decide +kernel) (by decide +kernel)
set_option maxRecDepth 20000 in
theorem gX5_about_J13_bitCount_95d88 : GoodIn wsX5_about (va_wsS RX5 123 yJ13_bitCount_95d88 wsJ13_bitCount_95d88) := goodIn_app (goodIn_of _ (by decide +kernel)) ggX5_about_J13_bitCount_95d88
set_option maxRecDepth 20000 in
theorem ggX5_about_X4_bytesOf : GoodIn wsX5_about wsX4_bytesOf := goodIn_r _ [24, 25, 26, 27, 7, 28, 11, 12, 13, 79, 80, 81, 82, 83, 84, 85, 86] (by decide +kernel) (by decide +kernel)
set_option maxRecDepth 20000 in
theorem gX5_about_X4_bytesOf_n86 : GoodIn wsX5_about (wsX4_bytesOf) := ggX5_about_X4_bytesOf
set_option maxRecDepth 20000 in
theorem ggX5_about_X2_downAt : GoodIn wsX5_about wsX2_downAt := goodIn_r _ [32, 33, 34, 35, 36, 12, 7, 13, 87, 88, 89, 90] (by decide +kernel) (by decide +kernel)
set_option maxRecDepth 20000 in
theorem gX5_about_X2_downAt_n134 : GoodIn wsX5_about (wsX2_downAt) := ggX5_about_X2_downAt
set_option maxRecDepth 20000 in
theorem ggX5_about_X5_isIn : GoodIn wsX5_about wsX5_isIn := goodIn_r _ [39, 11, 12, 7, 13] (by decide +kernel) (by decide +kernel)
set_option maxRecDepth 20000 in
theorem gX5_about_X5_isIn : GoodIn wsX5_about (va_wsS RX5 137 yX5_isIn wsX5_isIn) := goodIn_app (goodIn_of _ (by decide +kernel)) ggX5_about_X5_isIn
set_option maxRecDepth 20000 in
theorem ggX5_about_X3_bytesWanted : GoodIn wsX5_about wsX3_bytesWanted := goodIn_r _ [43, 44, 45, 46, 47, 48, 41, 49, 50, 51, 52, 22, 53, 54, 55, 56, 57, 58, 59, 60, 21, 23, 24, 25, 26, 27, 7, 28, 11, 12, 13, 61, 62, 63, 64, 65, 66, 67, 68, 69, 70, 79, 80, 81, 82, 83, 84, 85, 86] (by decide +kernel) (by decide +kernel)
set_option maxRecDepth 20000 in
theorem gX5_about_X3_bytesWanted_n141 : GoodIn wsX5_about (wsX3_bytesWanted) := ggX5_about_X3_bytesWanted
theorem dX5_about_0 : decode cX5_about 0 = .ok (.aload_n 0, 1) := by decide +kernel
theorem dX5_about_1 : decode cX5_about 1 = .ok (.iload_n 1, 1) := by decide +kernel
theorem dX5_about_2 : decode cX5_about 2 = .ok (.invokevirtual 96, 3) := by decide +kernel
theorem dX5_about_5 : decode cX5_about 5 = .ok (.astore_n 3, 1) := by decide +kernel
theorem dX5_about_6 : decode cX5_about 6 = .ok (.aload_n 3, 1) := by decide +kernel
theorem dX5_about_7 : decode cX5_about 7 = .ok (.ifnonnull 5, 3) := by decide +kernel
theorem dX5_about_10 : decode cX5_about 10 = .ok (.iconst (-1), 1) := by decide +kernel
theorem dX5_about_11 : decode cX5_about 11 = .ok (.ireturn, 1) := by decide +kernel
theorem dX5_about_12 : decode cX5_about 12 = .ok (.iload_n 2, 1) := by decide +kernel
theorem dX5_about_13 : decode cX5_about 13 = .ok (.tableswitch 137 0 8 #[51, 56, 61, 69, 81, 86, 91, 115, 128], 51) := by decide +kernel
theorem dX5_about_64 : decode cX5_about 64 = .ok (.aload_n 3, 1) := by decide +kernel
theorem dX5_about_65 : decode cX5_about 65 = .ok (.getfield 113, 3) := by decide +kernel
theorem dX5_about_68 : decode cX5_about 68 = .ok (.ireturn, 1) := by decide +kernel
theorem dX5_about_69 : decode cX5_about 69 = .ok (.aload_n 3, 1) := by decide +kernel
theorem dX5_about_70 : decode cX5_about 70 = .ok (.getfield 116, 3) := by decide +kernel
theorem dX5_about_73 : decode cX5_about 73 = .ok (.ireturn, 1) := by decide +kernel
theorem dX5_about_74 : decode cX5_about 74 = .ok (.aload_n 3, 1) := by decide +kernel
theorem dX5_about_75 : decode cX5_about 75 = .ok (.getfield 119, 3) := by decide +kernel
theorem dX5_about_78 : decode cX5_about 78 = .ok (.invokestatic 123, 3) := by decide +kernel
theorem dX5_about_81 : decode cX5_about 81 = .ok (.ireturn, 1) := by decide +kernel
theorem dX5_about_82 : decode cX5_about 82 = .ok (.aload_n 0, 1) := by decide +kernel
theorem dX5_about_83 : decode cX5_about 83 = .ok (.getfield 12, 3) := by decide +kernel
theorem dX5_about_86 : decode cX5_about 86 = .ok (.aload_n 3, 1) := by decide +kernel
theorem dX5_about_87 : decode cX5_about 87 = .ok (.getfield 119, 3) := by decide +kernel
theorem dX5_about_90 : decode cX5_about 90 = .ok (.invokevirtual 86, 3) := by decide +kernel
theorem dX5_about_93 : decode cX5_about 93 = .ok (.ireturn, 1) := by decide +kernel
theorem dX5_about_94 : decode cX5_about 94 = .ok (.aload_n 3, 1) := by decide +kernel
theorem dX5_about_95 : decode cX5_about 95 = .ok (.getfield 128, 3) := by decide +kernel
theorem dX5_about_98 : decode cX5_about 98 = .ok (.ireturn, 1) := by decide +kernel
theorem dX5_about_99 : decode cX5_about 99 = .ok (.aload_n 3, 1) := by decide +kernel
theorem dX5_about_100 : decode cX5_about 100 = .ok (.getfield 131, 3) := by decide +kernel
theorem dX5_about_103 : decode cX5_about 103 = .ok (.ireturn, 1) := by decide +kernel
theorem dX5_about_104 : decode cX5_about 104 = .ok (.aload_n 0, 1) := by decide +kernel
theorem dX5_about_105 : decode cX5_about 105 = .ok (.getfield 19, 3) := by decide +kernel
theorem dX5_about_108 : decode cX5_about 108 = .ok (.aload_n 0, 1) := by decide +kernel
theorem dX5_about_109 : decode cX5_about 109 = .ok (.getfield 55, 3) := by decide +kernel
theorem dX5_about_112 : decode cX5_about 112 = .ok (.invokevirtual 134, 3) := by decide +kernel
theorem dX5_about_115 : decode cX5_about 115 = .ok (.iload_n 1, 1) := by decide +kernel
theorem dX5_about_116 : decode cX5_about 116 = .ok (.invokestatic 137, 3) := by decide +kernel
theorem dX5_about_119 : decode cX5_about 119 = .ok (.ifCond .eq 7, 3) := by decide +kernel
theorem dX5_about_122 : decode cX5_about 122 = .ok (.iconst 1, 1) := by decide +kernel
theorem dX5_about_123 : decode cX5_about 123 = .ok (.goto 4, 3) := by decide +kernel
theorem dX5_about_126 : decode cX5_about 126 = .ok (.iconst 0, 1) := by decide +kernel
theorem dX5_about_127 : decode cX5_about 127 = .ok (.ireturn, 1) := by decide +kernel
theorem dX5_about_128 : decode cX5_about 128 = .ok (.aload_n 3, 1) := by decide +kernel
theorem dX5_about_129 : decode cX5_about 129 = .ok (.getfield 106, 3) := by decide +kernel
theorem dX5_about_132 : decode cX5_about 132 = .ok (.ifCond .eq 7, 3) := by decide +kernel
theorem dX5_about_135 : decode cX5_about 135 = .ok (.iconst 1, 1) := by decide +kernel
theorem dX5_about_136 : decode cX5_about 136 = .ok (.goto 4, 3) := by decide +kernel
theorem dX5_about_139 : decode cX5_about 139 = .ok (.iconst 0, 1) := by decide +kernel
theorem dX5_about_140 : decode cX5_about 140 = .ok (.ireturn, 1) := by decide +kernel
theorem dX5_about_141 : decode cX5_about 141 = .ok (.aload_n 3, 1) := by decide +kernel
theorem dX5_about_142 : decode cX5_about 142 = .ok (.aload_n 0, 1) := by decide +kernel
theorem dX5_about_143 : decode cX5_about 143 = .ok (.getfield 12, 3) := by decide +kernel
theorem dX5_about_146 : decode cX5_about 146 = .ok (.invokevirtual 141, 3) := by decide +kernel
theorem dX5_about_149 : decode cX5_about 149 = .ok (.ireturn, 1) := by decide +kernel
theorem dX5_about_150 : decode cX5_about 150 = .ok (.iconst (-1), 1) := by decide +kernel
theorem dX5_about_151 : decode cX5_about 151 = .ok (.ireturn, 1) := by decide +kernel
set_option maxRecDepth 20000 in
theorem ggX5_has_X5_mirrorAt : GoodIn wsX5_has wsX5_mirrorAt := goodIn_r _ [6, 7, 8, 9, 10, 5, 11, 24, 25, 26, 27, 28, 29, 30, 31] (by decide +kernel) (by decide +kernel)
set_option maxRecDepth 20000 in
theorem gX5_has_X5_mirrorAt : GoodIn wsX5_has (wsV RX5 96 RX5 yX5_mirrorAt wsX5_mirrorAt) := goodIn_app (goodIn_of _ (by decide +kernel)) ggX5_has_X5_mirrorAt
set_option maxRecDepth 20000 in
theorem ggX5_has_X4_hasFile : GoodIn wsX5_has wsX4_hasFile := goodIn_r _ [15, 16, 32, 33, 34, 35, 36, 37, 38, 39] (by decide +kernel) (by decide +kernel)
set_option maxRecDepth 20000 in
theorem gX5_has_X4_hasFile_n145 : GoodIn wsX5_has (wsX4_hasFile) := ggX5_has_X4_hasFile
set_option maxRecDepth 20000 in
theorem ggX5_has_X3_holds : GoodIn wsX5_has wsX3_holds := goodIn_r _ [20, 21, 22, 5, 23, 9, 10, 11, 40, 41, 42, 43, 44, 45, 46, 47, 48, 49] (by decide +kernel) (by decide +kernel)
set_option maxRecDepth 20000 in
theorem gX5_has_X3_holds_n148 : GoodIn wsX5_has (wsX3_holds) := ggX5_has_X3_holds
theorem dX5_has_0 : decode cX5_has 0 = .ok (.aload_n 0, 1) := by decide +kernel
theorem dX5_has_1 : decode cX5_has 1 = .ok (.iload_n 1, 1) := by decide +kernel
theorem dX5_has_2 : decode cX5_has 2 = .ok (.invokevirtual 96, 3) := by decide +kernel
theorem dX5_has_5 : decode cX5_has 5 = .ok (.astore_n 3, 1) := by decide +kernel
theorem dX5_has_6 : decode cX5_has 6 = .ok (.aload_n 3, 1) := by decide +kernel
theorem dX5_has_7 : decode cX5_has 7 = .ok (.ifnull 14, 3) := by decide +kernel
theorem dX5_has_10 : decode cX5_has 10 = .ok (.aload_n 0, 1) := by decide +kernel
theorem dX5_has_11 : decode cX5_has 11 = .ok (.getfield 12, 3) := by decide +kernel
theorem dX5_has_14 : decode cX5_has 14 = .ok (.iload_n 2, 1) := by decide +kernel
theorem dX5_has_15 : decode cX5_has 15 = .ok (.invokevirtual 145, 3) := by decide +kernel
theorem dX5_has_18 : decode cX5_has 18 = .ok (.ifCond .ne 5, 3) := by decide +kernel
theorem dX5_has_21 : decode cX5_has 21 = .ok (.iconst (-1), 1) := by decide +kernel
theorem dX5_has_22 : decode cX5_has 22 = .ok (.ireturn, 1) := by decide +kernel
theorem dX5_has_23 : decode cX5_has 23 = .ok (.aload_n 3, 1) := by decide +kernel
theorem dX5_has_24 : decode cX5_has 24 = .ok (.iload_n 2, 1) := by decide +kernel
theorem dX5_has_25 : decode cX5_has 25 = .ok (.invokevirtual 148, 3) := by decide +kernel
theorem dX5_has_28 : decode cX5_has 28 = .ok (.ifCond .eq 7, 3) := by decide +kernel
theorem dX5_has_31 : decode cX5_has 31 = .ok (.iconst 1, 1) := by decide +kernel
theorem dX5_has_32 : decode cX5_has 32 = .ok (.goto 4, 3) := by decide +kernel
theorem dX5_has_35 : decode cX5_has 35 = .ok (.iconst 0, 1) := by decide +kernel
theorem dX5_has_36 : decode cX5_has 36 = .ok (.ireturn, 1) := by decide +kernel
set_option maxRecDepth 20000 in
theorem ggX5_cost_X5_askerAt : GoodIn wsX5_cost wsX5_askerAt := goodIn_r _ [5, 6, 7, 8, 4, 9, 24, 25, 26, 27, 28, 29, 30, 31] (by decide +kernel) (by decide +kernel)
set_option maxRecDepth 20000 in
theorem gX5_cost_X5_askerAt : GoodIn wsX5_cost (wsV RX5 151 RX5 yX5_askerAt wsX5_askerAt) := goodIn_app (goodIn_of _ (by decide +kernel)) ggX5_cost_X5_askerAt
set_option maxRecDepth 20000 in
theorem ggX5_cost_X5_mirrorAt : GoodIn wsX5_cost wsX5_mirrorAt := goodIn_r _ [13, 14, 15, 7, 8, 4, 9, 24, 25, 26, 27, 28, 29, 30, 31] (by decide +kernel) (by decide +kernel)
set_option maxRecDepth 20000 in
theorem gX5_cost_X5_mirrorAt : GoodIn wsX5_cost (wsV RX5 96 RX5 yX5_mirrorAt wsX5_mirrorAt) := goodIn_app (goodIn_of _ (by decide +kernel)) ggX5_cost_X5_mirrorAt
set_option maxRecDepth 20000 in
theorem ggX5_cost_X5_isWithin : GoodIn wsX5_cost wsX5_isWithin := goodIn_r _ [9] (by decide +kernel) (by decide +kernel)
set_option maxRecDepth 20000 in
theorem gX5_cost_X5_isWithin : GoodIn wsX5_cost (va_wsS RX5 47 yX5_isWithin wsX5_isWithin) := goodIn_app (goodIn_of _ (by decide +kernel)) ggX5_cost_X5_isWithin
set_option maxRecDepth 20000 in
theorem ggX5_cost_X0_costOf : GoodIn wsX5_cost wsX0_costOf := goodIn_r _ [19, 20, 8, 4, 9, 32, 33, 34, 35, 36, 37] (by decide +kernel) (by decide +kernel)
set_option maxRecDepth 20000 in
theorem gX5_cost_X0_costOf_n155 : GoodIn wsX5_cost (wsX0_costOf) := ggX5_cost_X0_costOf
set_option maxRecDepth 20000 in
theorem ggX5_cost_X0_setCost : GoodIn wsX5_cost wsX0_setCost := goodIn_r _ [23, 20, 8, 4, 9, 32, 33, 34, 35, 36, 37] (by decide +kernel) (by decide +kernel)
set_option maxRecDepth 20000 in
theorem gX5_cost_X0_setCost_n158 : GoodIn wsX5_cost (wsX0_setCost) := ggX5_cost_X0_setCost
theorem dX5_cost_0 : decode cX5_cost 0 = .ok (.aload_n 0, 1) := by decide +kernel
theorem dX5_cost_1 : decode cX5_cost 1 = .ok (.iload_n 1, 1) := by decide +kernel
theorem dX5_cost_2 : decode cX5_cost 2 = .ok (.invokevirtual 151, 3) := by decide +kernel
theorem dX5_cost_5 : decode cX5_cost 5 = .ok (.astore 4, 2) := by decide +kernel
theorem dX5_cost_7 : decode cX5_cost 7 = .ok (.aload 4, 2) := by decide +kernel
theorem dX5_cost_9 : decode cX5_cost 9 = .ok (.ifnull 21, 3) := by decide +kernel
theorem dX5_cost_12 : decode cX5_cost 12 = .ok (.aload_n 0, 1) := by decide +kernel
theorem dX5_cost_13 : decode cX5_cost 13 = .ok (.iload_n 2, 1) := by decide +kernel
theorem dX5_cost_14 : decode cX5_cost 14 = .ok (.invokevirtual 96, 3) := by decide +kernel
theorem dX5_cost_17 : decode cX5_cost 17 = .ok (.ifnull 13, 3) := by decide +kernel
theorem dX5_cost_20 : decode cX5_cost 20 = .ok (.iload_n 3, 1) := by decide +kernel
theorem dX5_cost_21 : decode cX5_cost 21 = .ok (.iconst (-1), 1) := by decide +kernel
theorem dX5_cost_22 : decode cX5_cost 22 = .ok (.bipush 100, 2) := by decide +kernel
theorem dX5_cost_24 : decode cX5_cost 24 = .ok (.invokestatic 47, 3) := by decide +kernel
theorem dX5_cost_27 : decode cX5_cost 27 = .ok (.ifCond .ne 6, 3) := by decide +kernel
theorem dX5_cost_30 : decode cX5_cost 30 = .ok (.bipush (-2), 2) := by decide +kernel
theorem dX5_cost_32 : decode cX5_cost 32 = .ok (.ireturn, 1) := by decide +kernel
theorem dX5_cost_33 : decode cX5_cost 33 = .ok (.aload 4, 2) := by decide +kernel
theorem dX5_cost_35 : decode cX5_cost 35 = .ok (.iload_n 2, 1) := by decide +kernel
theorem dX5_cost_36 : decode cX5_cost 36 = .ok (.invokevirtual 155, 3) := by decide +kernel
theorem dX5_cost_39 : decode cX5_cost 39 = .ok (.istore 5, 2) := by decide +kernel
theorem dX5_cost_41 : decode cX5_cost 41 = .ok (.aload 4, 2) := by decide +kernel
theorem dX5_cost_43 : decode cX5_cost 43 = .ok (.iload_n 2, 1) := by decide +kernel
theorem dX5_cost_44 : decode cX5_cost 44 = .ok (.iload_n 3, 1) := by decide +kernel
theorem dX5_cost_45 : decode cX5_cost 45 = .ok (.invokevirtual 158, 3) := by decide +kernel
theorem dX5_cost_48 : decode cX5_cost 48 = .ok (.iload 5, 2) := by decide +kernel
theorem dX5_cost_50 : decode cX5_cost 50 = .ok (.ireturn, 1) := by decide +kernel
set_option maxRecDepth 20000 in
theorem ggX5_bears_X5_askerAt : GoodIn wsX5_bears wsX5_askerAt := goodIn_r _ [5, 6, 7, 8, 4, 9, 16, 17, 18, 19, 20, 21, 22, 23] (by decide +kernel) (by decide +kernel)
set_option maxRecDepth 20000 in
theorem gX5_bears_X5_askerAt : GoodIn wsX5_bears (wsV RX5 151 RX5 yX5_askerAt wsX5_askerAt) := goodIn_app (goodIn_of _ (by decide +kernel)) ggX5_bears_X5_askerAt
set_option maxRecDepth 20000 in
theorem ggX5_bears_X5_isWithin : GoodIn wsX5_bears wsX5_isWithin := goodIn_r _ [9] (by decide +kernel) (by decide +kernel)
set_option maxRecDepth 20000 in
theorem gX5_bears_X5_isWithin : GoodIn wsX5_bears (va_wsS RX5 47 yX5_isWithin wsX5_isWithin) := goodIn_app (goodIn_of _ (by decide +kernel)) ggX5_bears_X5_isWithin
theorem dX5_bears_0 : decode cX5_bears 0 = .ok (.aload_n 0, 1) := by decide +kernel
theorem dX5_bears_1 : decode cX5_bears 1 = .ok (.iload_n 1, 1) := by decide +kernel
theorem dX5_bears_2 : decode cX5_bears 2 = .ok (.invokevirtual 151, 3) := by decide +kernel
theorem dX5_bears_5 : decode cX5_bears 5 = .ok (.astore_n 3, 1) := by decide +kernel
theorem dX5_bears_6 : decode cX5_bears 6 = .ok (.aload_n 3, 1) := by decide +kernel
theorem dX5_bears_7 : decode cX5_bears 7 = .ok (.ifnull 14, 3) := by decide +kernel
theorem dX5_bears_10 : decode cX5_bears 10 = .ok (.iload_n 2, 1) := by decide +kernel
theorem dX5_bears_11 : decode cX5_bears 11 = .ok (.iconst 0, 1) := by decide +kernel
theorem dX5_bears_12 : decode cX5_bears 12 = .ok (.sipush 9999, 3) := by decide +kernel
theorem dX5_bears_15 : decode cX5_bears 15 = .ok (.invokestatic 47, 3) := by decide +kernel
theorem dX5_bears_18 : decode cX5_bears 18 = .ok (.ifCond .ne 5, 3) := by decide +kernel
theorem dX5_bears_21 : decode cX5_bears 21 = .ok (.iconst (-1), 1) := by decide +kernel
theorem dX5_bears_22 : decode cX5_bears 22 = .ok (.ireturn, 1) := by decide +kernel
theorem dX5_bears_23 : decode cX5_bears 23 = .ok (.aload_n 3, 1) := by decide +kernel
theorem dX5_bears_24 : decode cX5_bears 24 = .ok (.getfield 162, 3) := by decide +kernel
theorem dX5_bears_27 : decode cX5_bears 27 = .ok (.istore 4, 2) := by decide +kernel
theorem dX5_bears_29 : decode cX5_bears 29 = .ok (.aload_n 3, 1) := by decide +kernel
theorem dX5_bears_30 : decode cX5_bears 30 = .ok (.iload_n 2, 1) := by decide +kernel
theorem dX5_bears_31 : decode cX5_bears 31 = .ok (.putfield 162, 3) := by decide +kernel
theorem dX5_bears_34 : decode cX5_bears 34 = .ok (.iload 4, 2) := by decide +kernel
theorem dX5_bears_36 : decode cX5_bears 36 = .ok (.ireturn, 1) := by decide +kernel
set_option maxRecDepth 20000 in
theorem ggX5_grace_X5_isWithin : GoodIn wsX5_grace wsX5_isWithin := goodIn_r _ [5] (by decide +kernel) (by decide +kernel)
set_option maxRecDepth 20000 in
theorem gX5_grace_X5_isWithin : GoodIn wsX5_grace (va_wsS RX5 47 yX5_isWithin wsX5_isWithin) := goodIn_app (goodIn_of _ (by decide +kernel)) ggX5_grace_X5_isWithin
theorem dX5_grace_0 : decode cX5_grace 0 = .ok (.iload_n 1, 1) := by decide +kernel
theorem dX5_grace_1 : decode cX5_grace 1 = .ok (.iconst 0, 1) := by decide +kernel
theorem dX5_grace_2 : decode cX5_grace 2 = .ok (.sipush 9999, 3) := by decide +kernel
theorem dX5_grace_5 : decode cX5_grace 5 = .ok (.invokestatic 47, 3) := by decide +kernel
theorem dX5_grace_8 : decode cX5_grace 8 = .ok (.ifCond .ne 5, 3) := by decide +kernel
theorem dX5_grace_11 : decode cX5_grace 11 = .ok (.iconst (-1), 1) := by decide +kernel
theorem dX5_grace_12 : decode cX5_grace 12 = .ok (.ireturn, 1) := by decide +kernel
theorem dX5_grace_13 : decode cX5_grace 13 = .ok (.aload_n 0, 1) := by decide +kernel
theorem dX5_grace_14 : decode cX5_grace 14 = .ok (.getfield 43, 3) := by decide +kernel
theorem dX5_grace_17 : decode cX5_grace 17 = .ok (.istore_n 2, 1) := by decide +kernel
theorem dX5_grace_18 : decode cX5_grace 18 = .ok (.aload_n 0, 1) := by decide +kernel
theorem dX5_grace_19 : decode cX5_grace 19 = .ok (.iload_n 1, 1) := by decide +kernel
theorem dX5_grace_20 : decode cX5_grace 20 = .ok (.putfield 43, 3) := by decide +kernel
theorem dX5_grace_23 : decode cX5_grace 23 = .ok (.iload_n 2, 1) := by decide +kernel
theorem dX5_grace_24 : decode cX5_grace 24 = .ok (.ireturn, 1) := by decide +kernel
set_option maxRecDepth 20000 in
theorem ggX5_forgives_X5_askerAt : GoodIn wsX5_forgives wsX5_askerAt := goodIn_r _ [5, 6, 7, 8, 4, 9, 23, 24, 25, 26, 27, 28, 29, 30] (by decide +kernel) (by decide +kernel)
set_option maxRecDepth 20000 in
theorem gX5_forgives_X5_askerAt : GoodIn wsX5_forgives (wsV RX5 151 RX5 yX5_askerAt wsX5_askerAt) := goodIn_app (goodIn_of _ (by decide +kernel)) ggX5_forgives_X5_askerAt
set_option maxRecDepth 20000 in
theorem ggX5_forgives_J6_bitCount_0f7a4 : GoodIn wsX5_forgives wsJ6_bitCount_0f7a4 := goodIn_r _ [13, 14, 15, 16] (by decide +kernel) (by decide +kernel)
set_option maxRecDepth 20000 in
theorem gX5_forgives_J6_bitCount_0f7a4 : GoodIn wsX5_forgives (va_wsS RX5 168 yJ6_bitCount_0f7a4 wsJ6_bitCount_0f7a4) := goodIn_app (goodIn_of _ (by decide +kernel)) ggX5_forgives_J6_bitCount_0f7a4
theorem dX5_forgives_0 : decode cX5_forgives 0 = .ok (.aload_n 0, 1) := by decide +kernel
theorem dX5_forgives_1 : decode cX5_forgives 1 = .ok (.iload_n 1, 1) := by decide +kernel
theorem dX5_forgives_2 : decode cX5_forgives 2 = .ok (.invokevirtual 151, 3) := by decide +kernel
theorem dX5_forgives_5 : decode cX5_forgives 5 = .ok (.astore_n 2, 1) := by decide +kernel
theorem dX5_forgives_6 : decode cX5_forgives 6 = .ok (.aload_n 2, 1) := by decide +kernel
theorem dX5_forgives_7 : decode cX5_forgives 7 = .ok (.ifnonnull 5, 3) := by decide +kernel
theorem dX5_forgives_10 : decode cX5_forgives 10 = .ok (.iconst (-1), 1) := by decide +kernel
theorem dX5_forgives_11 : decode cX5_forgives 11 = .ok (.ireturn, 1) := by decide +kernel
theorem dX5_forgives_12 : decode cX5_forgives 12 = .ok (.aload_n 2, 1) := by decide +kernel
theorem dX5_forgives_13 : decode cX5_forgives 13 = .ok (.getfield 165, 3) := by decide +kernel
theorem dX5_forgives_16 : decode cX5_forgives 16 = .ok (.invokestatic 168, 3) := by decide +kernel
theorem dX5_forgives_19 : decode cX5_forgives 19 = .ok (.istore_n 3, 1) := by decide +kernel
theorem dX5_forgives_20 : decode cX5_forgives 20 = .ok (.aload_n 2, 1) := by decide +kernel
theorem dX5_forgives_21 : decode cX5_forgives 21 = .ok (.iconst 0, 1) := by decide +kernel
theorem dX5_forgives_22 : decode cX5_forgives 22 = .ok (.putfield 165, 3) := by decide +kernel
theorem dX5_forgives_25 : decode cX5_forgives 25 = .ok (.iload_n 3, 1) := by decide +kernel
theorem dX5_forgives_26 : decode cX5_forgives 26 = .ok (.ireturn, 1) := by decide +kernel
set_option maxRecDepth 20000 in
theorem ggX5_ask_X5_askerAt : GoodIn wsX5_ask wsX5_askerAt := goodIn_r _ [8, 9, 10, 11, 7, 12, 162, 163, 164, 165, 166, 167, 168, 169] (by decide +kernel) (by decide +kernel)
set_option maxRecDepth 20000 in
theorem gX5_ask_X5_askerAt : GoodIn wsX5_ask (wsV RX5 151 RX5 yX5_askerAt wsX5_askerAt) := goodIn_app (goodIn_of _ (by decide +kernel)) ggX5_ask_X5_askerAt
set_option maxRecDepth 20000 in
theorem ggX5_ask_X5_isWithin : GoodIn wsX5_ask wsX5_isWithin := goodIn_r _ [12] (by decide +kernel) (by decide +kernel)
set_option maxRecDepth 20000 in
theorem gX5_ask_X5_isWithin : GoodIn wsX5_ask (va_wsS RX5 47 yX5_isWithin wsX5_isWithin) := goodIn_app (goodIn_of _ (by decide +kernel)) ggX5_ask_X5_isWithin
set_option maxRecDepth 20000 in
theorem ggX5_ask_X2_downAt : GoodIn wsX5_ask wsX2_downAt := goodIn_r _ [16, 17, 18, 19, 20, 11, 7, 12, 180, 181, 182, 183] (by decide +kernel) (by decide +kernel)
set_option maxRecDepth 20000 in
theorem gX5_ask_X2_downAt_n134 : GoodIn wsX5_ask (wsX2_downAt) := ggX5_ask_X2_downAt
set_option maxRecDepth 20000 in
theorem ggX5_ask_X1_begin : GoodIn wsX5_ask wsX1_begin := goodIn_r _ [24, 25, 26, 27, 28, 29, 30, 31, 170, 171, 172, 173, 174, 175, 176, 177, 178, 179] (by decide +kernel) (by decide +kernel)
set_option maxRecDepth 20000 in
theorem gX5_ask_X1_begin_n175 : GoodIn wsX5_ask (wsX1_begin) := ggX5_ask_X1_begin
set_option maxRecDepth 20000 in
theorem ggX5_ask_X0_lineUp : GoodIn wsX5_ask wsX0_lineUp := goodIn_r _ [35, 36, 37, 38, 39, 40, 33, 41, 42, 43, 7, 44, 10, 11, 12, 45, 46, 47, 48, 49, 156, 157, 158, 159, 160, 161] (by decide +kernel) (by decide +kernel)
set_option maxRecDepth 20000 in
theorem gX5_ask_X0_lineUp_n178 : GoodIn wsX5_ask (wsX0_lineUp) := ggX5_ask_X0_lineUp
set_option maxRecDepth 20000 in
theorem ggX5_ask_X5_carryOut : GoodIn wsX5_ask wsX5_carryOut := goodIn_r _ [53, 3, 54, 55, 56, 7, 57, 58, 33, 59, 60, 36, 49, 11, 12, 61, 62, 63, 64, 65, 66, 10, 39, 40, 41, 42, 43, 44, 67, 68, 69, 37, 70, 22, 71, 72, 27, 28, 73, 74, 75, 76, 77, 78, 79, 80, 81, 2, 82, 83, 84, 85, 86, 87, 88, 89, 90, 91, 92, 93, 94, 95, 96, 97, 98, 99, 100, 101, 102, 103, 104, 105, 106, 107, 108, 109, 110, 111, 112, 113, 114, 115, 116, 117, 118, 119, 120, 121, 122, 123, 124, 125, 126, 127, 128, 129, 29, 130, 131, 132, 162, 163, 164, 165, 166, 167, 168, 169, 170, 171, 172, 173, 174, 175, 176, 177, 178, 179, 156, 157, 158, 159, 160, 161, 184, 185, 186, 187, 188, 189, 190, 191, 192, 193, 194, 195, 196, 197, 198, 199, 200, 201] (by decide +kernel) (by decide +kernel)
set_option maxRecDepth 20000 in
theorem gX5_ask_X5_carryOut : GoodIn wsX5_ask (wsV RX5 181 RX5 yX5_carryOut wsX5_carryOut) := goodIn_app (goodIn_of _ (by decide +kernel)) ggX5_ask_X5_carryOut
set_option maxRecDepth 20000 in
theorem ggX5_ask_X5_foresee : GoodIn wsX5_ask wsX5_foresee := goodIn_r _ [136, 81, 3, 137, 138, 139, 7, 140, 65, 141, 142, 143, 144, 61, 62, 63, 64, 66, 10, 11, 12, 145, 146, 147, 67, 33, 68, 69, 37, 73, 43, 44, 77, 78, 79, 80, 2, 82, 83, 84, 85, 86, 87, 88, 89, 90, 91, 92, 93, 94, 95, 96, 97, 98, 99, 100, 101, 102, 103, 104, 105, 148, 149, 150, 151, 110, 111, 112, 113, 152, 153, 154, 155, 122, 123, 124, 125, 126, 162, 163, 164, 165, 166, 167, 168, 169, 170, 171, 172, 173, 174, 175, 176, 177, 178, 179, 184, 185, 186, 187, 188, 189, 190, 191, 192, 193, 156, 157, 158, 159, 160, 161, 194, 195, 196, 197, 198, 199, 200, 201] (by decide +kernel) (by decide +kernel)
set_option maxRecDepth 20000 in
theorem gX5_ask_X5_foresee : GoodIn wsX5_ask (wsV RX5 185 RX5 yX5_foresee wsX5_foresee) := goodIn_app (goodIn_of _ (by decide +kernel)) ggX5_ask_X5_foresee
theorem dX5_ask_0 : decode cX5_ask 0 = .ok (.aload_n 0, 1) := by decide +kernel
theorem dX5_ask_1 : decode cX5_ask 1 = .ok (.iload_n 1, 1) := by decide +kernel
theorem dX5_ask_2 : decode cX5_ask 2 = .ok (.invokevirtual 151, 3) := by decide +kernel
theorem dX5_ask_5 : decode cX5_ask 5 = .ok (.astore_n 3, 1) := by decide +kernel
theorem dX5_ask_6 : decode cX5_ask 6 = .ok (.aload_n 3, 1) := by decide +kernel
theorem dX5_ask_7 : decode cX5_ask 7 = .ok (.ifnull 14, 3) := by decide +kernel
theorem dX5_ask_10 : decode cX5_ask 10 = .ok (.iload_n 2, 1) := by decide +kernel
theorem dX5_ask_11 : decode cX5_ask 11 = .ok (.iconst 1, 1) := by decide +kernel
theorem dX5_ask_12 : decode cX5_ask 12 = .ok (.sipush 4095, 3) := by decide +kernel
theorem dX5_ask_15 : decode cX5_ask 15 = .ok (.invokestatic 47, 3) := by decide +kernel
theorem dX5_ask_18 : decode cX5_ask 18 = .ok (.ifCond .ne 5, 3) := by decide +kernel
theorem dX5_ask_21 : decode cX5_ask 21 = .ok (.iconst (-1), 1) := by decide +kernel
theorem dX5_ask_22 : decode cX5_ask 22 = .ok (.ireturn, 1) := by decide +kernel
theorem dX5_ask_23 : decode cX5_ask 23 = .ok (.aload_n 3, 1) := by decide +kernel
theorem dX5_ask_24 : decode cX5_ask 24 = .ok (.getfield 172, 3) := by decide +kernel
theorem dX5_ask_27 : decode cX5_ask 27 = .ok (.istore 4, 2) := by decide +kernel
theorem dX5_ask_29 : decode cX5_ask 29 = .ok (.aload_n 0, 1) := by decide +kernel
theorem dX5_ask_30 : decode cX5_ask 30 = .ok (.getfield 19, 3) := by decide +kernel
theorem dX5_ask_33 : decode cX5_ask 33 = .ok (.aload_n 0, 1) := by decide +kernel
theorem dX5_ask_34 : decode cX5_ask 34 = .ok (.getfield 55, 3) := by decide +kernel
theorem dX5_ask_37 : decode cX5_ask 37 = .ok (.invokevirtual 134, 3) := by decide +kernel
theorem dX5_ask_40 : decode cX5_ask 40 = .ok (.istore 5, 2) := by decide +kernel
theorem dX5_ask_42 : decode cX5_ask 42 = .ok (.aload_n 0, 1) := by decide +kernel
theorem dX5_ask_43 : decode cX5_ask 43 = .ok (.getfield 39, 3) := by decide +kernel
theorem dX5_ask_46 : decode cX5_ask 46 = .ok (.invokevirtual 175, 3) := by decide +kernel
theorem dX5_ask_49 : decode cX5_ask 49 = .ok (.aload_n 3, 1) := by decide +kernel
theorem dX5_ask_50 : decode cX5_ask 50 = .ok (.invokevirtual 178, 3) := by decide +kernel
theorem dX5_ask_53 : decode cX5_ask 53 = .ok (.aload_n 0, 1) := by decide +kernel
theorem dX5_ask_54 : decode cX5_ask 54 = .ok (.aload_n 3, 1) := by decide +kernel
theorem dX5_ask_55 : decode cX5_ask 55 = .ok (.iload_n 2, 1) := by decide +kernel
theorem dX5_ask_56 : decode cX5_ask 56 = .ok (.iload 5, 2) := by decide +kernel
theorem dX5_ask_58 : decode cX5_ask 58 = .ok (.invokevirtual 181, 3) := by decide +kernel
theorem dX5_ask_61 : decode cX5_ask 61 = .ok (.istore 6, 2) := by decide +kernel
theorem dX5_ask_63 : decode cX5_ask 63 = .ok (.iload 6, 2) := by decide +kernel
theorem dX5_ask_65 : decode cX5_ask 65 = .ok (.ifCond .ne 20, 3) := by decide +kernel
theorem dX5_ask_68 : decode cX5_ask 68 = .ok (.aload_n 0, 1) := by decide +kernel
theorem dX5_ask_69 : decode cX5_ask 69 = .ok (.getfield 39, 3) := by decide +kernel
theorem dX5_ask_72 : decode cX5_ask 72 = .ok (.aload_n 0, 1) := by decide +kernel
theorem dX5_ask_73 : decode cX5_ask 73 = .ok (.aload_n 3, 1) := by decide +kernel
theorem dX5_ask_74 : decode cX5_ask 74 = .ok (.iload_n 2, 1) := by decide +kernel
theorem dX5_ask_75 : decode cX5_ask 75 = .ok (.iload 4, 2) := by decide +kernel
theorem dX5_ask_77 : decode cX5_ask 77 = .ok (.iload 5, 2) := by decide +kernel
theorem dX5_ask_79 : decode cX5_ask 79 = .ok (.invokevirtual 185, 3) := by decide +kernel
theorem dX5_ask_82 : decode cX5_ask 82 = .ok (.putfield 189, 3) := by decide +kernel
theorem dX5_ask_85 : decode cX5_ask 85 = .ok (.iload 6, 2) := by decide +kernel
theorem dX5_ask_87 : decode cX5_ask 87 = .ok (.ireturn, 1) := by decide +kernel
theorem dX5_asked_0 : decode cX5_asked 0 = .ok (.aload_n 0, 1) := by decide +kernel
theorem dX5_asked_1 : decode cX5_asked 1 = .ok (.getfield 39, 3) := by decide +kernel
theorem dX5_asked_4 : decode cX5_asked 4 = .ok (.getfield 192, 3) := by decide +kernel
theorem dX5_asked_7 : decode cX5_asked 7 = .ok (.ifCond .ne 5, 3) := by decide +kernel
theorem dX5_asked_10 : decode cX5_asked 10 = .ok (.iconst (-1), 1) := by decide +kernel
theorem dX5_asked_11 : decode cX5_asked 11 = .ok (.ireturn, 1) := by decide +kernel
theorem dX5_asked_12 : decode cX5_asked 12 = .ok (.iload_n 1, 1) := by decide +kernel
theorem dX5_asked_13 : decode cX5_asked 13 = .ok (.tableswitch 87 0 5 #[39, 47, 55, 63, 71, 79], 39) := by decide +kernel
theorem dX5_asked_52 : decode cX5_asked 52 = .ok (.aload_n 0, 1) := by decide +kernel
theorem dX5_asked_53 : decode cX5_asked 53 = .ok (.getfield 39, 3) := by decide +kernel
theorem dX5_asked_56 : decode cX5_asked 56 = .ok (.getfield 195, 3) := by decide +kernel
theorem dX5_asked_59 : decode cX5_asked 59 = .ok (.ireturn, 1) := by decide +kernel
theorem dX5_asked_60 : decode cX5_asked 60 = .ok (.aload_n 0, 1) := by decide +kernel
theorem dX5_asked_61 : decode cX5_asked 61 = .ok (.getfield 39, 3) := by decide +kernel
theorem dX5_asked_64 : decode cX5_asked 64 = .ok (.getfield 196, 3) := by decide +kernel
theorem dX5_asked_67 : decode cX5_asked 67 = .ok (.ireturn, 1) := by decide +kernel
theorem dX5_asked_68 : decode cX5_asked 68 = .ok (.aload_n 0, 1) := by decide +kernel
theorem dX5_asked_69 : decode cX5_asked 69 = .ok (.getfield 39, 3) := by decide +kernel
theorem dX5_asked_72 : decode cX5_asked 72 = .ok (.getfield 199, 3) := by decide +kernel
theorem dX5_asked_75 : decode cX5_asked 75 = .ok (.ireturn, 1) := by decide +kernel
theorem dX5_asked_76 : decode cX5_asked 76 = .ok (.aload_n 0, 1) := by decide +kernel
theorem dX5_asked_77 : decode cX5_asked 77 = .ok (.getfield 39, 3) := by decide +kernel
theorem dX5_asked_80 : decode cX5_asked 80 = .ok (.getfield 202, 3) := by decide +kernel
theorem dX5_asked_83 : decode cX5_asked 83 = .ok (.ireturn, 1) := by decide +kernel
theorem dX5_asked_84 : decode cX5_asked 84 = .ok (.aload_n 0, 1) := by decide +kernel
theorem dX5_asked_85 : decode cX5_asked 85 = .ok (.getfield 39, 3) := by decide +kernel
theorem dX5_asked_88 : decode cX5_asked 88 = .ok (.getfield 205, 3) := by decide +kernel
theorem dX5_asked_91 : decode cX5_asked 91 = .ok (.ireturn, 1) := by decide +kernel
theorem dX5_asked_92 : decode cX5_asked 92 = .ok (.aload_n 0, 1) := by decide +kernel
theorem dX5_asked_93 : decode cX5_asked 93 = .ok (.getfield 39, 3) := by decide +kernel
theorem dX5_asked_96 : decode cX5_asked 96 = .ok (.getfield 189, 3) := by decide +kernel
theorem dX5_asked_99 : decode cX5_asked 99 = .ok (.ireturn, 1) := by decide +kernel
theorem dX5_asked_100 : decode cX5_asked 100 = .ok (.iconst (-1), 1) := by decide +kernel
theorem dX5_asked_101 : decode cX5_asked 101 = .ok (.ireturn, 1) := by decide +kernel
set_option maxRecDepth 20000 in
theorem ggX5_got_X1_gotten : GoodIn wsX5_got wsX1_gotten := goodIn_r _ [5, 6, 7, 8, 9, 10, 11, 12, 21, 22, 23, 24, 25, 26, 27, 28, 29, 30] (by decide +kernel) (by decide +kernel)
set_option maxRecDepth 20000 in
theorem gX5_got_X1_gotten_n208 : GoodIn wsX5_got (wsX1_gotten) := ggX5_got_X1_gotten
theorem dX5_got_0 : decode cX5_got 0 = .ok (.aload_n 0, 1) := by decide +kernel
theorem dX5_got_1 : decode cX5_got 1 = .ok (.getfield 39, 3) := by decide +kernel
theorem dX5_got_4 : decode cX5_got 4 = .ok (.iload_n 1, 1) := by decide +kernel
theorem dX5_got_5 : decode cX5_got 5 = .ok (.iload_n 2, 1) := by decide +kernel
theorem dX5_got_6 : decode cX5_got 6 = .ok (.invokevirtual 208, 3) := by decide +kernel
theorem dX5_got_9 : decode cX5_got 9 = .ok (.ireturn, 1) := by decide +kernel
set_option maxRecDepth 20000 in
theorem ggX5_asker_X5_askerAt : GoodIn wsX5_asker wsX5_askerAt := goodIn_r _ [5, 6, 7, 8, 4, 9, 16, 17, 18, 19, 20, 21, 22, 23] (by decide +kernel) (by decide +kernel)
set_option maxRecDepth 20000 in
theorem gX5_asker_X5_askerAt : GoodIn wsX5_asker (wsV RX5 151 RX5 yX5_askerAt wsX5_askerAt) := goodIn_app (goodIn_of _ (by decide +kernel)) ggX5_asker_X5_askerAt
theorem dX5_asker_0 : decode cX5_asker 0 = .ok (.aload_n 0, 1) := by decide +kernel
theorem dX5_asker_1 : decode cX5_asker 1 = .ok (.iload_n 1, 1) := by decide +kernel
theorem dX5_asker_2 : decode cX5_asker 2 = .ok (.invokevirtual 151, 3) := by decide +kernel
theorem dX5_asker_5 : decode cX5_asker 5 = .ok (.astore_n 3, 1) := by decide +kernel
theorem dX5_asker_6 : decode cX5_asker 6 = .ok (.aload_n 3, 1) := by decide +kernel
theorem dX5_asker_7 : decode cX5_asker 7 = .ok (.ifnonnull 5, 3) := by decide +kernel
theorem dX5_asker_10 : decode cX5_asker 10 = .ok (.iconst (-1), 1) := by decide +kernel
theorem dX5_asker_11 : decode cX5_asker 11 = .ok (.ireturn, 1) := by decide +kernel
theorem dX5_asker_12 : decode cX5_asker 12 = .ok (.iload_n 2, 1) := by decide +kernel
theorem dX5_asker_13 : decode cX5_asker 13 = .ok (.tableswitch 42 0 2 #[27, 32, 37], 27) := by decide +kernel
theorem dX5_asker_40 : decode cX5_asker 40 = .ok (.aload_n 3, 1) := by decide +kernel
theorem dX5_asker_41 : decode cX5_asker 41 = .ok (.getfield 172, 3) := by decide +kernel
theorem dX5_asker_44 : decode cX5_asker 44 = .ok (.ireturn, 1) := by decide +kernel
theorem dX5_asker_45 : decode cX5_asker 45 = .ok (.aload_n 3, 1) := by decide +kernel
theorem dX5_asker_46 : decode cX5_asker 46 = .ok (.getfield 162, 3) := by decide +kernel
theorem dX5_asker_49 : decode cX5_asker 49 = .ok (.ireturn, 1) := by decide +kernel
theorem dX5_asker_50 : decode cX5_asker 50 = .ok (.aload_n 3, 1) := by decide +kernel
theorem dX5_asker_51 : decode cX5_asker 51 = .ok (.getfield 165, 3) := by decide +kernel
theorem dX5_asker_54 : decode cX5_asker 54 = .ok (.ireturn, 1) := by decide +kernel
theorem dX5_asker_55 : decode cX5_asker 55 = .ok (.iconst (-1), 1) := by decide +kernel
theorem dX5_asker_56 : decode cX5_asker 56 = .ok (.ireturn, 1) := by decide +kernel
set_option maxRecDepth 20000 in
theorem ggX5_count_J13_bitCount_95d88 : GoodIn wsX5_count wsJ13_bitCount_95d88 := goodIn_r _ [9, 10, 11, 12] (by decide +kernel) (by decide +kernel)
set_option maxRecDepth 20000 in
theorem gX5_count_J13_bitCount_95d88 : GoodIn wsX5_count (va_wsS RX5 123 yJ13_bitCount_95d88 wsJ13_bitCount_95d88) := goodIn_app (goodIn_of _ (by decide +kernel)) ggX5_count_J13_bitCount_95d88
theorem dX5_count_0 : decode cX5_count 0 = .ok (.iload_n 1, 1) := by decide +kernel
theorem dX5_count_1 : decode cX5_count 1 = .ok (.tableswitch 93 0 6 #[43, 48, 56, 64, 69, 77, 82], 43) := by decide +kernel
theorem dX5_count_44 : decode cX5_count 44 = .ok (.aload_n 0, 1) := by decide +kernel
theorem dX5_count_45 : decode cX5_count 45 = .ok (.getfield 55, 3) := by decide +kernel
theorem dX5_count_48 : decode cX5_count 48 = .ok (.ireturn, 1) := by decide +kernel
theorem dX5_count_49 : decode cX5_count 49 = .ok (.aload_n 0, 1) := by decide +kernel
theorem dX5_count_50 : decode cX5_count 50 = .ok (.getfield 12, 3) := by decide +kernel
theorem dX5_count_53 : decode cX5_count 53 = .ok (.getfield 211, 3) := by decide +kernel
theorem dX5_count_56 : decode cX5_count 56 = .ok (.ireturn, 1) := by decide +kernel
theorem dX5_count_57 : decode cX5_count 57 = .ok (.aload_n 0, 1) := by decide +kernel
theorem dX5_count_58 : decode cX5_count 58 = .ok (.getfield 12, 3) := by decide +kernel
theorem dX5_count_61 : decode cX5_count 61 = .ok (.getfield 214, 3) := by decide +kernel
theorem dX5_count_64 : decode cX5_count 64 = .ok (.ireturn, 1) := by decide +kernel
theorem dX5_count_65 : decode cX5_count 65 = .ok (.aload_n 0, 1) := by decide +kernel
theorem dX5_count_66 : decode cX5_count 66 = .ok (.getfield 90, 3) := by decide +kernel
theorem dX5_count_69 : decode cX5_count 69 = .ok (.ireturn, 1) := by decide +kernel
theorem dX5_count_70 : decode cX5_count 70 = .ok (.aload_n 0, 1) := by decide +kernel
theorem dX5_count_71 : decode cX5_count 71 = .ok (.getfield 19, 3) := by decide +kernel
theorem dX5_count_74 : decode cX5_count 74 = .ok (.getfield 217, 3) := by decide +kernel
theorem dX5_count_77 : decode cX5_count 77 = .ok (.ireturn, 1) := by decide +kernel
theorem dX5_count_78 : decode cX5_count 78 = .ok (.aload_n 0, 1) := by decide +kernel
theorem dX5_count_79 : decode cX5_count 79 = .ok (.getfield 43, 3) := by decide +kernel
theorem dX5_count_82 : decode cX5_count 82 = .ok (.ireturn, 1) := by decide +kernel
theorem dX5_count_83 : decode cX5_count 83 = .ok (.aload_n 0, 1) := by decide +kernel
theorem dX5_count_84 : decode cX5_count 84 = .ok (.getfield 12, 3) := by decide +kernel
theorem dX5_count_87 : decode cX5_count 87 = .ok (.getfield 220, 3) := by decide +kernel
theorem dX5_count_90 : decode cX5_count 90 = .ok (.invokestatic 123, 3) := by decide +kernel
theorem dX5_count_93 : decode cX5_count 93 = .ok (.ireturn, 1) := by decide +kernel
theorem dX5_count_94 : decode cX5_count 94 = .ok (.iconst (-1), 1) := by decide +kernel
theorem dX5_count_95 : decode cX5_count 95 = .ok (.ireturn, 1) := by decide +kernel
theorem dX5_isWithin_0 : decode cX5_isWithin 0 = .ok (.iload_n 0, 1) := by decide +kernel
theorem dX5_isWithin_1 : decode cX5_isWithin 1 = .ok (.iload_n 1, 1) := by decide +kernel
theorem dX5_isWithin_2 : decode cX5_isWithin 2 = .ok (.if_icmp .lt 12, 3) := by decide +kernel
theorem dX5_isWithin_5 : decode cX5_isWithin 5 = .ok (.iload_n 0, 1) := by decide +kernel
theorem dX5_isWithin_6 : decode cX5_isWithin 6 = .ok (.iload_n 2, 1) := by decide +kernel
theorem dX5_isWithin_7 : decode cX5_isWithin 7 = .ok (.if_icmp .gt 7, 3) := by decide +kernel
theorem dX5_isWithin_10 : decode cX5_isWithin 10 = .ok (.iconst 1, 1) := by decide +kernel
theorem dX5_isWithin_11 : decode cX5_isWithin 11 = .ok (.goto 4, 3) := by decide +kernel
theorem dX5_isWithin_14 : decode cX5_isWithin 14 = .ok (.iconst 0, 1) := by decide +kernel
theorem dX5_isWithin_15 : decode cX5_isWithin 15 = .ok (.ireturn, 1) := by decide +kernel
set_option maxRecDepth 20000 in
theorem ggX5_isIn_X5_isWithin : GoodIn wsX5_isIn wsX5_isWithin := goodIn_r _ [4] (by decide +kernel) (by decide +kernel)
set_option maxRecDepth 20000 in
theorem gX5_isIn_X5_isWithin : GoodIn wsX5_isIn (va_wsS RX5 47 yX5_isWithin wsX5_isWithin) := goodIn_app (goodIn_of _ (by decide +kernel)) ggX5_isIn_X5_isWithin
theorem dX5_isIn_0 : decode cX5_isIn 0 = .ok (.iload_n 1, 1) := by decide +kernel
theorem dX5_isIn_1 : decode cX5_isIn 1 = .ok (.iconst 0, 1) := by decide +kernel
theorem dX5_isIn_2 : decode cX5_isIn 2 = .ok (.bipush 31, 2) := by decide +kernel
theorem dX5_isIn_4 : decode cX5_isIn 4 = .ok (.invokestatic 47, 3) := by decide +kernel
theorem dX5_isIn_7 : decode cX5_isIn 7 = .ok (.ifCond .eq 15, 3) := by decide +kernel
theorem dX5_isIn_10 : decode cX5_isIn 10 = .ok (.iload_n 0, 1) := by decide +kernel
theorem dX5_isIn_11 : decode cX5_isIn 11 = .ok (.iconst 1, 1) := by decide +kernel
theorem dX5_isIn_12 : decode cX5_isIn 12 = .ok (.iload_n 1, 1) := by decide +kernel
theorem dX5_isIn_13 : decode cX5_isIn 13 = .ok (.ishl, 1) := by decide +kernel
theorem dX5_isIn_14 : decode cX5_isIn 14 = .ok (.iand, 1) := by decide +kernel
theorem dX5_isIn_15 : decode cX5_isIn 15 = .ok (.ifCond .eq 7, 3) := by decide +kernel
theorem dX5_isIn_18 : decode cX5_isIn 18 = .ok (.iconst 1, 1) := by decide +kernel
theorem dX5_isIn_19 : decode cX5_isIn 19 = .ok (.goto 4, 3) := by decide +kernel
theorem dX5_isIn_22 : decode cX5_isIn 22 = .ok (.iconst 0, 1) := by decide +kernel
theorem dX5_isIn_23 : decode cX5_isIn 23 = .ok (.ireturn, 1) := by decide +kernel
set_option maxRecDepth 20000 in
theorem ggX5_bitOf_X5_isWithin : GoodIn wsX5_bitOf wsX5_isWithin := goodIn_r _ [4] (by decide +kernel) (by decide +kernel)
set_option maxRecDepth 20000 in
theorem gX5_bitOf_X5_isWithin : GoodIn wsX5_bitOf (va_wsS RX5 47 yX5_isWithin wsX5_isWithin) := goodIn_app (goodIn_of _ (by decide +kernel)) ggX5_bitOf_X5_isWithin
theorem dX5_bitOf_0 : decode cX5_bitOf 0 = .ok (.iload_n 0, 1) := by decide +kernel
theorem dX5_bitOf_1 : decode cX5_bitOf 1 = .ok (.iconst 0, 1) := by decide +kernel
theorem dX5_bitOf_2 : decode cX5_bitOf 2 = .ok (.bipush 59, 2) := by decide +kernel
theorem dX5_bitOf_4 : decode cX5_bitOf 4 = .ok (.invokestatic 47, 3) := by decide +kernel
theorem dX5_bitOf_7 : decode cX5_bitOf 7 = .ok (.ifCond .eq 9, 3) := by decide +kernel
theorem dX5_bitOf_10 : decode cX5_bitOf 10 = .ok (.lconst 1, 1) := by decide +kernel
theorem dX5_bitOf_11 : decode cX5_bitOf 11 = .ok (.iload_n 0, 1) := by decide +kernel
theorem dX5_bitOf_12 : decode cX5_bitOf 12 = .ok (.lshl, 1) := by decide +kernel
theorem dX5_bitOf_13 : decode cX5_bitOf 13 = .ok (.goto 4, 3) := by decide +kernel
theorem dX5_bitOf_16 : decode cX5_bitOf 16 = .ok (.lconst 0, 1) := by decide +kernel
theorem dX5_bitOf_17 : decode cX5_bitOf 17 = .ok (.lreturn, 1) := by decide +kernel
set_option maxRecDepth 20000 in
theorem ggX5_leastOf_J13_bitCount_95d88 : GoodIn wsX5_leastOf wsJ13_bitCount_95d88 := goodIn_r _ [4, 5, 6, 7] (by decide +kernel) (by decide +kernel)
set_option maxRecDepth 20000 in
theorem gX5_leastOf_J13_bitCount_95d88 : GoodIn wsX5_leastOf (va_wsS RX5 123 yJ13_bitCount_95d88 wsJ13_bitCount_95d88) := goodIn_app (goodIn_of _ (by decide +kernel)) ggX5_leastOf_J13_bitCount_95d88
theorem dX5_leastOf_0 : decode cX5_leastOf 0 = .ok (.lload_n 0, 1) := by decide +kernel
theorem dX5_leastOf_1 : decode cX5_leastOf 1 = .ok (.lload_n 0, 1) := by decide +kernel
theorem dX5_leastOf_2 : decode cX5_leastOf 2 = .ok (.lneg, 1) := by decide +kernel
theorem dX5_leastOf_3 : decode cX5_leastOf 3 = .ok (.land, 1) := by decide +kernel
theorem dX5_leastOf_4 : decode cX5_leastOf 4 = .ok (.lconst 1, 1) := by decide +kernel
theorem dX5_leastOf_5 : decode cX5_leastOf 5 = .ok (.lsub, 1) := by decide +kernel
theorem dX5_leastOf_6 : decode cX5_leastOf 6 = .ok (.invokestatic 123, 3) := by decide +kernel
theorem dX5_leastOf_9 : decode cX5_leastOf 9 = .ok (.ireturn, 1) := by decide +kernel
set_option maxRecDepth 20000 in
theorem ggX5_mirrorAt_X5_isWithin : GoodIn wsX5_mirrorAt wsX5_isWithin := goodIn_r _ [6] (by decide +kernel) (by decide +kernel)
set_option maxRecDepth 20000 in
theorem gX5_mirrorAt_X5_isWithin : GoodIn wsX5_mirrorAt (va_wsS RX5 47 yX5_isWithin wsX5_isWithin) := goodIn_app (goodIn_of _ (by decide +kernel)) ggX5_mirrorAt_X5_isWithin
theorem dX5_mirrorAt_0 : decode cX5_mirrorAt 0 = .ok (.iload_n 1, 1) := by decide +kernel
theorem dX5_mirrorAt_1 : decode cX5_mirrorAt 1 = .ok (.iconst 0, 1) := by decide +kernel
theorem dX5_mirrorAt_2 : decode cX5_mirrorAt 2 = .ok (.aload_n 0, 1) := by decide +kernel
theorem dX5_mirrorAt_3 : decode cX5_mirrorAt 3 = .ok (.getfield 90, 3) := by decide +kernel
theorem dX5_mirrorAt_6 : decode cX5_mirrorAt 6 = .ok (.iconst 1, 1) := by decide +kernel
theorem dX5_mirrorAt_7 : decode cX5_mirrorAt 7 = .ok (.isub, 1) := by decide +kernel
theorem dX5_mirrorAt_8 : decode cX5_mirrorAt 8 = .ok (.invokestatic 47, 3) := by decide +kernel
theorem dX5_mirrorAt_11 : decode cX5_mirrorAt 11 = .ok (.ifCond .eq 12, 3) := by decide +kernel
theorem dX5_mirrorAt_14 : decode cX5_mirrorAt 14 = .ok (.aload_n 0, 1) := by decide +kernel
theorem dX5_mirrorAt_15 : decode cX5_mirrorAt 15 = .ok (.getfield 25, 3) := by decide +kernel
theorem dX5_mirrorAt_18 : decode cX5_mirrorAt 18 = .ok (.iload_n 1, 1) := by decide +kernel
theorem dX5_mirrorAt_19 : decode cX5_mirrorAt 19 = .ok (.aaload, 1) := by decide +kernel
theorem dX5_mirrorAt_20 : decode cX5_mirrorAt 20 = .ok (.goto 4, 3) := by decide +kernel
theorem dX5_mirrorAt_23 : decode cX5_mirrorAt 23 = .ok (.aconst_null, 1) := by decide +kernel
theorem dX5_mirrorAt_24 : decode cX5_mirrorAt 24 = .ok (.areturn, 1) := by decide +kernel
set_option maxRecDepth 20000 in
theorem ggX5_askerAt_X5_isWithin : GoodIn wsX5_askerAt wsX5_isWithin := goodIn_r _ [5] (by decide +kernel) (by decide +kernel)
set_option maxRecDepth 20000 in
theorem gX5_askerAt_X5_isWithin : GoodIn wsX5_askerAt (va_wsS RX5 47 yX5_isWithin wsX5_isWithin) := goodIn_app (goodIn_of _ (by decide +kernel)) ggX5_askerAt_X5_isWithin
theorem dX5_askerAt_0 : decode cX5_askerAt 0 = .ok (.iload_n 1, 1) := by decide +kernel
theorem dX5_askerAt_1 : decode cX5_askerAt 1 = .ok (.iconst 0, 1) := by decide +kernel
theorem dX5_askerAt_2 : decode cX5_askerAt 2 = .ok (.iconst 5, 1) := by decide +kernel
theorem dX5_askerAt_3 : decode cX5_askerAt 3 = .ok (.invokestatic 47, 3) := by decide +kernel
theorem dX5_askerAt_6 : decode cX5_askerAt 6 = .ok (.ifCond .eq 12, 3) := by decide +kernel
theorem dX5_askerAt_9 : decode cX5_askerAt 9 = .ok (.aload_n 0, 1) := by decide +kernel
theorem dX5_askerAt_10 : decode cX5_askerAt 10 = .ok (.getfield 31, 3) := by decide +kernel
theorem dX5_askerAt_13 : decode cX5_askerAt 13 = .ok (.iload_n 1, 1) := by decide +kernel
theorem dX5_askerAt_14 : decode cX5_askerAt 14 = .ok (.aaload, 1) := by decide +kernel
theorem dX5_askerAt_15 : decode cX5_askerAt 15 = .ok (.goto 4, 3) := by decide +kernel
theorem dX5_askerAt_18 : decode cX5_askerAt 18 = .ok (.aconst_null, 1) := by decide +kernel
theorem dX5_askerAt_19 : decode cX5_askerAt 19 = .ok (.areturn, 1) := by decide +kernel
set_option maxRecDepth 20000 in
theorem ggX5_stepAll_X2_downAt : GoodIn wsX5_stepAll wsX2_downAt := goodIn_r _ [8, 9, 10, 11, 12, 13, 14, 15, 116, 117, 118, 119] (by decide +kernel) (by decide +kernel)
set_option maxRecDepth 20000 in
theorem gX5_stepAll_X2_downAt_n134 : GoodIn wsX5_stepAll (wsX2_downAt) := ggX5_stepAll_X2_downAt
set_option maxRecDepth 20000 in
theorem ggX5_stepAll_X5_mirrorAt : GoodIn wsX5_stepAll wsX5_mirrorAt := goodIn_r _ [19, 3, 20, 21, 13, 14, 15, 98, 99, 100, 101, 102, 103, 104, 105] (by decide +kernel) (by decide +kernel)
set_option maxRecDepth 20000 in
theorem gX5_stepAll_X5_mirrorAt : GoodIn wsX5_stepAll (wsV RX5 96 RX5 yX5_mirrorAt wsX5_mirrorAt) := goodIn_app (goodIn_of _ (by decide +kernel)) ggX5_stepAll_X5_mirrorAt
set_option maxRecDepth 20000 in
theorem ggX5_stepAll_X5_isIn : GoodIn wsX5_stepAll wsX5_isIn := goodIn_r _ [24, 21, 13, 14, 15] (by decide +kernel) (by decide +kernel)
set_option maxRecDepth 20000 in
theorem gX5_stepAll_X5_isIn : GoodIn wsX5_stepAll (va_wsS RX5 137 yX5_isIn wsX5_isIn) := goodIn_app (goodIn_of _ (by decide +kernel)) ggX5_stepAll_X5_isIn
set_option maxRecDepth 20000 in
theorem ggX5_stepAll_X4_latestState : GoodIn wsX5_stepAll wsX4_latestState := goodIn_r _ [28, 29, 120, 121, 122, 123, 124, 125, 126, 127] (by decide +kernel) (by decide +kernel)
set_option maxRecDepth 20000 in
theorem gX5_stepAll_X4_latestState_n226 : GoodIn wsX5_stepAll (wsX4_latestState) := ggX5_stepAll_X4_latestState
set_option maxRecDepth 20000 in
theorem ggX5_stepAll_X4_allFiles : GoodIn wsX5_stepAll wsX4_allFiles := goodIn_r _ [32, 33, 120, 121, 122, 123, 124, 125, 126, 127] (by decide +kernel) (by decide +kernel)
set_option maxRecDepth 20000 in
theorem gX5_stepAll_X4_allFiles_n230 : GoodIn wsX5_stepAll (wsX4_allFiles) := ggX5_stepAll_X4_allFiles
set_option maxRecDepth 20000 in
theorem ggX5_stepAll_X3_step : GoodIn wsX5_stepAll wsX3_step := goodIn_r _ [37, 38, 39, 40, 41, 42, 35, 43, 44, 45, 46, 47, 48, 49, 50, 51, 52, 26, 53, 54, 55, 56, 57, 58, 59, 29, 60, 14, 61, 62, 63, 64, 65, 66, 67, 68, 69, 70, 21, 13, 15, 71, 72, 73, 74, 75, 76, 77, 78, 33, 79, 80, 81, 82, 83, 84, 85, 86, 87, 88, 89, 90, 91, 92, 93, 94, 95, 96, 97, 106, 107, 108, 109, 110, 111, 112, 113, 114, 115, 120, 121, 122, 123, 124, 125, 126, 127] (by decide +kernel) (by decide +kernel)
set_option maxRecDepth 20000 in
theorem gX5_stepAll_X3_step_n234 : GoodIn wsX5_stepAll (wsX3_step) := ggX5_stepAll_X3_step
theorem dX5_stepAll_0 : decode cX5_stepAll 0 = .ok (.aload_n 0, 1) := by decide +kernel
theorem dX5_stepAll_1 : decode cX5_stepAll 1 = .ok (.getfield 19, 3) := by decide +kernel
theorem dX5_stepAll_4 : decode cX5_stepAll 4 = .ok (.aload_n 0, 1) := by decide +kernel
theorem dX5_stepAll_5 : decode cX5_stepAll 5 = .ok (.getfield 55, 3) := by decide +kernel
theorem dX5_stepAll_8 : decode cX5_stepAll 8 = .ok (.invokevirtual 134, 3) := by decide +kernel
theorem dX5_stepAll_11 : decode cX5_stepAll 11 = .ok (.istore_n 1, 1) := by decide +kernel
theorem dX5_stepAll_12 : decode cX5_stepAll 12 = .ok (.iconst 0, 1) := by decide +kernel
theorem dX5_stepAll_13 : decode cX5_stepAll 13 = .ok (.istore_n 2, 1) := by decide +kernel
theorem dX5_stepAll_14 : decode cX5_stepAll 14 = .ok (.iload_n 2, 1) := by decide +kernel
theorem dX5_stepAll_15 : decode cX5_stepAll 15 = .ok (.aload_n 0, 1) := by decide +kernel
theorem dX5_stepAll_16 : decode cX5_stepAll 16 = .ok (.getfield 90, 3) := by decide +kernel
theorem dX5_stepAll_19 : decode cX5_stepAll 19 = .ok (.if_icmp .ge 107, 3) := by decide +kernel
theorem dX5_stepAll_22 : decode cX5_stepAll 22 = .ok (.aload_n 0, 1) := by decide +kernel
theorem dX5_stepAll_23 : decode cX5_stepAll 23 = .ok (.iload_n 2, 1) := by decide +kernel
theorem dX5_stepAll_24 : decode cX5_stepAll 24 = .ok (.invokevirtual 96, 3) := by decide +kernel
theorem dX5_stepAll_27 : decode cX5_stepAll 27 = .ok (.astore_n 3, 1) := by decide +kernel
theorem dX5_stepAll_28 : decode cX5_stepAll 28 = .ok (.aload_n 3, 1) := by decide +kernel
theorem dX5_stepAll_29 : decode cX5_stepAll 29 = .ok (.ifnonnull 6, 3) := by decide +kernel
theorem dX5_stepAll_32 : decode cX5_stepAll 32 = .ok (.goto 88, 3) := by decide +kernel
theorem dX5_stepAll_35 : decode cX5_stepAll 35 = .ok (.aload_n 0, 1) := by decide +kernel
theorem dX5_stepAll_36 : decode cX5_stepAll 36 = .ok (.aload_n 3, 1) := by decide +kernel
theorem dX5_stepAll_37 : decode cX5_stepAll 37 = .ok (.getfield 223, 3) := by decide +kernel
theorem dX5_stepAll_40 : decode cX5_stepAll 40 = .ok (.invokevirtual 96, 3) := by decide +kernel
theorem dX5_stepAll_43 : decode cX5_stepAll 43 = .ok (.astore 4, 2) := by decide +kernel
theorem dX5_stepAll_45 : decode cX5_stepAll 45 = .ok (.iload_n 1, 1) := by decide +kernel
theorem dX5_stepAll_46 : decode cX5_stepAll 46 = .ok (.iload_n 2, 1) := by decide +kernel
theorem dX5_stepAll_47 : decode cX5_stepAll 47 = .ok (.invokestatic 137, 3) := by decide +kernel
theorem dX5_stepAll_50 : decode cX5_stepAll 50 = .ok (.ifCond .eq 11, 3) := by decide +kernel
theorem dX5_stepAll_53 : decode cX5_stepAll 53 = .ok (.aload_n 3, 1) := by decide +kernel
theorem dX5_stepAll_54 : decode cX5_stepAll 54 = .ok (.iconst 0, 1) := by decide +kernel
theorem dX5_stepAll_55 : decode cX5_stepAll 55 = .ok (.putfield 128, 3) := by decide +kernel
theorem dX5_stepAll_58 : decode cX5_stepAll 58 = .ok (.goto 62, 3) := by decide +kernel
theorem dX5_stepAll_61 : decode cX5_stepAll 61 = .ok (.aload 4, 2) := by decide +kernel
theorem dX5_stepAll_63 : decode cX5_stepAll 63 = .ok (.ifnonnull 28, 3) := by decide +kernel
theorem dX5_stepAll_66 : decode cX5_stepAll 66 = .ok (.aload_n 3, 1) := by decide +kernel
theorem dX5_stepAll_67 : decode cX5_stepAll 67 = .ok (.aload_n 0, 1) := by decide +kernel
theorem dX5_stepAll_68 : decode cX5_stepAll 68 = .ok (.getfield 12, 3) := by decide +kernel
theorem dX5_stepAll_71 : decode cX5_stepAll 71 = .ok (.aload_n 0, 1) := by decide +kernel
theorem dX5_stepAll_72 : decode cX5_stepAll 72 = .ok (.getfield 12, 3) := by decide +kernel
theorem dX5_stepAll_75 : decode cX5_stepAll 75 = .ok (.invokevirtual 226, 3) := by decide +kernel
theorem dX5_stepAll_78 : decode cX5_stepAll 78 = .ok (.aload_n 0, 1) := by decide +kernel
theorem dX5_stepAll_79 : decode cX5_stepAll 79 = .ok (.getfield 12, 3) := by decide +kernel
theorem dX5_stepAll_82 : decode cX5_stepAll 82 = .ok (.invokevirtual 230, 3) := by decide +kernel
theorem dX5_stepAll_85 : decode cX5_stepAll 85 = .ok (.invokevirtual 234, 3) := by decide +kernel
theorem dX5_stepAll_88 : decode cX5_stepAll 88 = .ok (.goto 32, 3) := by decide +kernel
theorem dX5_stepAll_91 : decode cX5_stepAll 91 = .ok (.iload_n 1, 1) := by decide +kernel
theorem dX5_stepAll_92 : decode cX5_stepAll 92 = .ok (.aload_n 3, 1) := by decide +kernel
theorem dX5_stepAll_93 : decode cX5_stepAll 93 = .ok (.getfield 223, 3) := by decide +kernel
theorem dX5_stepAll_96 : decode cX5_stepAll 96 = .ok (.invokestatic 137, 3) := by decide +kernel
theorem dX5_stepAll_99 : decode cX5_stepAll 99 = .ok (.ifCond .ne 21, 3) := by decide +kernel
theorem dX5_stepAll_102 : decode cX5_stepAll 102 = .ok (.aload_n 3, 1) := by decide +kernel
theorem dX5_stepAll_103 : decode cX5_stepAll 103 = .ok (.aload_n 0, 1) := by decide +kernel
theorem dX5_stepAll_104 : decode cX5_stepAll 104 = .ok (.getfield 12, 3) := by decide +kernel
theorem dX5_stepAll_107 : decode cX5_stepAll 107 = .ok (.aload 4, 2) := by decide +kernel
theorem dX5_stepAll_109 : decode cX5_stepAll 109 = .ok (.getfield 113, 3) := by decide +kernel
theorem dX5_stepAll_112 : decode cX5_stepAll 112 = .ok (.aload 4, 2) := by decide +kernel
theorem dX5_stepAll_114 : decode cX5_stepAll 114 = .ok (.getfield 119, 3) := by decide +kernel
theorem dX5_stepAll_117 : decode cX5_stepAll 117 = .ok (.invokevirtual 234, 3) := by decide +kernel
theorem dX5_stepAll_120 : decode cX5_stepAll 120 = .ok (.iinc 2 1, 3) := by decide +kernel
theorem dX5_stepAll_123 : decode cX5_stepAll 123 = .ok (.goto (-109), 3) := by decide +kernel
theorem dX5_stepAll_126 : decode cX5_stepAll 126 = .ok (.return_, 1) := by decide +kernel
set_option maxRecDepth 20000 in
theorem ggX5_carryOut_X5_findIndex : GoodIn wsX5_carryOut wsX5_findIndex := goodIn_r _ [6, 1, 7, 8, 9, 10, 11, 12, 13, 5, 14, 15, 16, 17, 18, 19, 20, 21, 22, 23, 24, 25, 26, 27, 28, 29, 30, 31, 32, 33, 34, 35, 36, 37, 38, 39, 40, 41, 42, 43, 44, 45, 46, 47, 48, 49, 50, 51, 52, 53, 54, 55, 56, 57, 58, 59, 60, 61, 62, 63, 64, 65, 66, 67, 68, 69, 70, 71, 118, 119, 120, 121, 122, 123, 100, 101, 102, 103, 104, 105, 106, 107, 124, 125, 126, 127, 128, 129, 130, 131, 132, 133, 108, 109, 110, 111, 112, 113, 114, 115, 116, 117, 134, 135, 136, 137, 138, 139, 140, 141] (by decide +kernel) (by decide +kernel)
set_option maxRecDepth 20000 in
theorem gX5_carryOut_X5_findIndex : GoodIn wsX5_carryOut (wsV RX5 238 RX5 yX5_findIndex wsX5_findIndex) := goodIn_app (goodIn_of _ (by decide +kernel)) ggX5_carryOut_X5_findIndex
set_option maxRecDepth 20000 in
theorem ggX5_carryOut_X5_firstNotNamed : GoodIn wsX5_carryOut wsX5_firstNotNamed := goodIn_r _ [75, 46, 38, 26, 5, 27, 21, 13, 14, 76, 50, 77, 78, 79, 54, 55, 56, 57, 58, 100, 101, 102, 103, 104, 105, 106, 107, 134, 135, 136, 137, 138, 139, 140, 141] (by decide +kernel) (by decide +kernel)
set_option maxRecDepth 20000 in
theorem gX5_carryOut_X5_firstNotNamed : GoodIn wsX5_carryOut (wsV RX5 242 RX5 yX5_firstNotNamed wsX5_firstNotNamed) := goodIn_app (goodIn_of _ (by decide +kernel)) ggX5_carryOut_X5_firstNotNamed
set_option maxRecDepth 20000 in
theorem ggX5_carryOut_X5_getFiles : GoodIn wsX5_carryOut wsX5_getFiles := goodIn_r _ [83, 46, 1, 38, 26, 5, 27, 21, 13, 14, 76, 50, 77, 78, 79, 54, 55, 56, 57, 58, 84, 85, 86, 87, 7, 8, 9, 10, 11, 12, 15, 16, 17, 18, 19, 20, 22, 23, 24, 25, 28, 29, 30, 31, 32, 33, 34, 35, 36, 37, 88, 89, 90, 91, 92, 70, 71, 39, 40, 41, 93, 94, 95, 96, 97, 98, 99, 100, 101, 102, 103, 104, 105, 106, 107, 108, 109, 110, 111, 112, 113, 114, 115, 116, 117, 134, 135, 136, 137, 138, 139, 140, 141, 118, 119, 120, 121, 122, 123, 124, 125, 126, 127, 128, 129, 130, 131, 132, 133] (by decide +kernel) (by decide +kernel)
set_option maxRecDepth 20000 in
theorem gX5_carryOut_X5_getFiles : GoodIn wsX5_carryOut (wsV RX5 245 RX5 yX5_getFiles wsX5_getFiles) := goodIn_app (goodIn_of _ (by decide +kernel)) ggX5_carryOut_X5_getFiles
theorem dX5_carryOut_0 : decode cX5_carryOut 0 = .ok (.aload_n 0, 1) := by decide +kernel
theorem dX5_carryOut_1 : decode cX5_carryOut 1 = .ok (.getfield 39, 3) := by decide +kernel
theorem dX5_carryOut_4 : decode cX5_carryOut 4 = .ok (.aload_n 0, 1) := by decide +kernel
theorem dX5_carryOut_5 : decode cX5_carryOut 5 = .ok (.aload_n 1, 1) := by decide +kernel
theorem dX5_carryOut_6 : decode cX5_carryOut 6 = .ok (.iload_n 3, 1) := by decide +kernel
theorem dX5_carryOut_7 : decode cX5_carryOut 7 = .ok (.invokevirtual 238, 3) := by decide +kernel
theorem dX5_carryOut_10 : decode cX5_carryOut 10 = .ok (.putfield 195, 3) := by decide +kernel
theorem dX5_carryOut_13 : decode cX5_carryOut 13 = .ok (.aload_n 0, 1) := by decide +kernel
theorem dX5_carryOut_14 : decode cX5_carryOut 14 = .ok (.getfield 39, 3) := by decide +kernel
theorem dX5_carryOut_17 : decode cX5_carryOut 17 = .ok (.getfield 195, 3) := by decide +kernel
theorem dX5_carryOut_20 : decode cX5_carryOut 20 = .ok (.iconst (-1), 1) := by decide +kernel
theorem dX5_carryOut_21 : decode cX5_carryOut 21 = .ok (.if_icmp .ne 5, 3) := by decide +kernel
theorem dX5_carryOut_24 : decode cX5_carryOut 24 = .ok (.iconst 1, 1) := by decide +kernel
theorem dX5_carryOut_25 : decode cX5_carryOut 25 = .ok (.ireturn, 1) := by decide +kernel
theorem dX5_carryOut_26 : decode cX5_carryOut 26 = .ok (.aload_n 1, 1) := by decide +kernel
theorem dX5_carryOut_27 : decode cX5_carryOut 27 = .ok (.aload_n 0, 1) := by decide +kernel
theorem dX5_carryOut_28 : decode cX5_carryOut 28 = .ok (.getfield 39, 3) := by decide +kernel
theorem dX5_carryOut_31 : decode cX5_carryOut 31 = .ok (.getfield 195, 3) := by decide +kernel
theorem dX5_carryOut_34 : decode cX5_carryOut 34 = .ok (.putfield 172, 3) := by decide +kernel
theorem dX5_carryOut_37 : decode cX5_carryOut 37 = .ok (.aload_n 0, 1) := by decide +kernel
theorem dX5_carryOut_38 : decode cX5_carryOut 38 = .ok (.getfield 39, 3) := by decide +kernel
theorem dX5_carryOut_41 : decode cX5_carryOut 41 = .ok (.aload_n 0, 1) := by decide +kernel
theorem dX5_carryOut_42 : decode cX5_carryOut 42 = .ok (.aload_n 0, 1) := by decide +kernel
theorem dX5_carryOut_43 : decode cX5_carryOut 43 = .ok (.getfield 39, 3) := by decide +kernel
theorem dX5_carryOut_46 : decode cX5_carryOut 46 = .ok (.getfield 195, 3) := by decide +kernel
theorem dX5_carryOut_49 : decode cX5_carryOut 49 = .ok (.iload_n 2, 1) := by decide +kernel
theorem dX5_carryOut_50 : decode cX5_carryOut 50 = .ok (.invokevirtual 242, 3) := by decide +kernel
theorem dX5_carryOut_53 : decode cX5_carryOut 53 = .ok (.putfield 205, 3) := by decide +kernel
theorem dX5_carryOut_56 : decode cX5_carryOut 56 = .ok (.aload_n 0, 1) := by decide +kernel
theorem dX5_carryOut_57 : decode cX5_carryOut 57 = .ok (.getfield 39, 3) := by decide +kernel
theorem dX5_carryOut_60 : decode cX5_carryOut 60 = .ok (.getfield 205, 3) := by decide +kernel
theorem dX5_carryOut_63 : decode cX5_carryOut 63 = .ok (.iconst (-1), 1) := by decide +kernel
theorem dX5_carryOut_64 : decode cX5_carryOut 64 = .ok (.if_icmp .eq 5, 3) := by decide +kernel
theorem dX5_carryOut_67 : decode cX5_carryOut 67 = .ok (.iconst 2, 1) := by decide +kernel
theorem dX5_carryOut_68 : decode cX5_carryOut 68 = .ok (.ireturn, 1) := by decide +kernel
theorem dX5_carryOut_69 : decode cX5_carryOut 69 = .ok (.aload_n 0, 1) := by decide +kernel
theorem dX5_carryOut_70 : decode cX5_carryOut 70 = .ok (.getfield 39, 3) := by decide +kernel
theorem dX5_carryOut_73 : decode cX5_carryOut 73 = .ok (.aload_n 0, 1) := by decide +kernel
theorem dX5_carryOut_74 : decode cX5_carryOut 74 = .ok (.aload_n 1, 1) := by decide +kernel
theorem dX5_carryOut_75 : decode cX5_carryOut 75 = .ok (.iload_n 2, 1) := by decide +kernel
theorem dX5_carryOut_76 : decode cX5_carryOut 76 = .ok (.iload_n 3, 1) := by decide +kernel
theorem dX5_carryOut_77 : decode cX5_carryOut 77 = .ok (.invokevirtual 245, 3) := by decide +kernel
theorem dX5_carryOut_80 : decode cX5_carryOut 80 = .ok (.putfield 205, 3) := by decide +kernel
theorem dX5_carryOut_83 : decode cX5_carryOut 83 = .ok (.aload_n 0, 1) := by decide +kernel
theorem dX5_carryOut_84 : decode cX5_carryOut 84 = .ok (.getfield 39, 3) := by decide +kernel
theorem dX5_carryOut_87 : decode cX5_carryOut 87 = .ok (.getfield 205, 3) := by decide +kernel
theorem dX5_carryOut_90 : decode cX5_carryOut 90 = .ok (.iconst (-1), 1) := by decide +kernel
theorem dX5_carryOut_91 : decode cX5_carryOut 91 = .ok (.if_icmp .ne 7, 3) := by decide +kernel
theorem dX5_carryOut_94 : decode cX5_carryOut 94 = .ok (.iconst 0, 1) := by decide +kernel
theorem dX5_carryOut_95 : decode cX5_carryOut 95 = .ok (.goto 4, 3) := by decide +kernel
theorem dX5_carryOut_98 : decode cX5_carryOut 98 = .ok (.iconst 3, 1) := by decide +kernel
theorem dX5_carryOut_99 : decode cX5_carryOut 99 = .ok (.ireturn, 1) := by decide +kernel
set_option maxRecDepth 20000 in
theorem ggX5_findIndex_X0_inLine : GoodIn wsX5_findIndex wsX0_inLine := goodIn_r _ [5, 6, 7, 8, 9, 10, 68, 69, 70, 71, 72, 73] (by decide +kernel) (by decide +kernel)
set_option maxRecDepth 20000 in
theorem gX5_findIndex_X0_inLine_n251 : GoodIn wsX5_findIndex (wsX0_inLine) := ggX5_findIndex_X0_inLine
set_option maxRecDepth 20000 in
theorem ggX5_findIndex_X5_mirrorAt : GoodIn wsX5_findIndex wsX5_mirrorAt := goodIn_r _ [14, 15, 16, 17, 8, 9, 10, 74, 75, 76, 77, 78, 79, 80, 81] (by decide +kernel) (by decide +kernel)
set_option maxRecDepth 20000 in
theorem gX5_findIndex_X5_mirrorAt : GoodIn wsX5_findIndex (wsV RX5 96 RX5 yX5_mirrorAt wsX5_mirrorAt) := goodIn_app (goodIn_of _ (by decide +kernel)) ggX5_findIndex_X5_mirrorAt
set_option maxRecDepth 20000 in
theorem ggX5_findIndex_X0_knowsAsBad : GoodIn wsX5_findIndex wsX0_knowsAsBad := goodIn_r _ [20, 21, 22, 9, 23, 17, 8, 10, 68, 69, 70, 71, 72, 73] (by decide +kernel) (by decide +kernel)
set_option maxRecDepth 20000 in
theorem gX5_findIndex_X0_knowsAsBad_n254 : GoodIn wsX5_findIndex (wsX0_knowsAsBad) := ggX5_findIndex_X0_knowsAsBad
set_option maxRecDepth 20000 in
theorem ggX5_findIndex_X0_costOf : GoodIn wsX5_findIndex wsX0_costOf := goodIn_r _ [26, 27, 8, 9, 10, 68, 69, 70, 71, 72, 73] (by decide +kernel) (by decide +kernel)
set_option maxRecDepth 20000 in
theorem gX5_findIndex_X0_costOf_n155 : GoodIn wsX5_findIndex (wsX0_costOf) := ggX5_findIndex_X0_costOf
set_option maxRecDepth 20000 in
theorem ggX5_findIndex_X1_spend : GoodIn wsX5_findIndex wsX1_spend := goodIn_r _ [31, 32, 33, 92, 93, 94, 95, 96, 97, 98, 99, 100, 101] (by decide +kernel) (by decide +kernel)
set_option maxRecDepth 20000 in
theorem gX5_findIndex_X1_spend_n257 : GoodIn wsX5_findIndex (wsX1_spend) := ggX5_findIndex_X1_spend
set_option maxRecDepth 20000 in
theorem ggX5_findIndex_X5_isIn : GoodIn wsX5_findIndex wsX5_isIn := goodIn_r _ [23, 17, 8, 9, 10] (by decide +kernel) (by decide +kernel)
set_option maxRecDepth 20000 in
theorem gX5_findIndex_X5_isIn : GoodIn wsX5_findIndex (va_wsS RX5 137 yX5_isIn wsX5_isIn) := goodIn_app (goodIn_of _ (by decide +kernel)) ggX5_findIndex_X5_isIn
set_option maxRecDepth 20000 in
theorem ggX5_findIndex_X0_markBad : GoodIn wsX5_findIndex wsX0_markBad := goodIn_r _ [37, 21, 8, 9, 10, 68, 69, 70, 71, 72, 73] (by decide +kernel) (by decide +kernel)
set_option maxRecDepth 20000 in
theorem gX5_findIndex_X0_markBad_n261 : GoodIn wsX5_findIndex (wsX0_markBad) := ggX5_findIndex_X0_markBad
set_option maxRecDepth 20000 in
theorem ggX5_findIndex_X5_suits : GoodIn wsX5_findIndex wsX5_suits := goodIn_r _ [41, 42, 43, 44, 45, 46, 47, 48, 49, 50, 51, 52, 53, 54, 55, 56, 57, 58, 59, 60, 61, 62, 63, 64, 65, 66, 9, 67, 17, 8, 10, 74, 75, 76, 77, 78, 79, 80, 81, 102, 103, 104, 105, 106, 107, 108, 109] (by decide +kernel) (by decide +kernel)
set_option maxRecDepth 20000 in
theorem gX5_findIndex_X5_suits : GoodIn wsX5_findIndex (wsV RX5 264 RX5 yX5_suits wsX5_suits) := goodIn_app (goodIn_of _ (by decide +kernel)) ggX5_findIndex_X5_suits
theorem dX5_findIndex_0 : decode cX5_findIndex 0 = .ok (.iconst 0, 1) := by decide +kernel
theorem dX5_findIndex_1 : decode cX5_findIndex 1 = .ok (.istore_n 3, 1) := by decide +kernel
theorem dX5_findIndex_2 : decode cX5_findIndex 2 = .ok (.iload_n 3, 1) := by decide +kernel
theorem dX5_findIndex_3 : decode cX5_findIndex 3 = .ok (.aload_n 1, 1) := by decide +kernel
theorem dX5_findIndex_4 : decode cX5_findIndex 4 = .ok (.getfield 248, 3) := by decide +kernel
theorem dX5_findIndex_7 : decode cX5_findIndex 7 = .ok (.if_icmp .ge 109, 3) := by decide +kernel
theorem dX5_findIndex_10 : decode cX5_findIndex 10 = .ok (.aload_n 1, 1) := by decide +kernel
theorem dX5_findIndex_11 : decode cX5_findIndex 11 = .ok (.iload_n 3, 1) := by decide +kernel
theorem dX5_findIndex_12 : decode cX5_findIndex 12 = .ok (.invokevirtual 251, 3) := by decide +kernel
theorem dX5_findIndex_15 : decode cX5_findIndex 15 = .ok (.istore 4, 2) := by decide +kernel
theorem dX5_findIndex_17 : decode cX5_findIndex 17 = .ok (.aload_n 0, 1) := by decide +kernel
theorem dX5_findIndex_18 : decode cX5_findIndex 18 = .ok (.iload 4, 2) := by decide +kernel
theorem dX5_findIndex_20 : decode cX5_findIndex 20 = .ok (.invokevirtual 96, 3) := by decide +kernel
theorem dX5_findIndex_23 : decode cX5_findIndex 23 = .ok (.astore 5, 2) := by decide +kernel
theorem dX5_findIndex_25 : decode cX5_findIndex 25 = .ok (.aload 5, 2) := by decide +kernel
theorem dX5_findIndex_27 : decode cX5_findIndex 27 = .ok (.ifnull 83, 3) := by decide +kernel
theorem dX5_findIndex_30 : decode cX5_findIndex 30 = .ok (.aload_n 1, 1) := by decide +kernel
theorem dX5_findIndex_31 : decode cX5_findIndex 31 = .ok (.iload 4, 2) := by decide +kernel
theorem dX5_findIndex_33 : decode cX5_findIndex 33 = .ok (.invokevirtual 254, 3) := by decide +kernel
theorem dX5_findIndex_36 : decode cX5_findIndex 36 = .ok (.ifCond .eq 6, 3) := by decide +kernel
theorem dX5_findIndex_39 : decode cX5_findIndex 39 = .ok (.goto 71, 3) := by decide +kernel
theorem dX5_findIndex_42 : decode cX5_findIndex 42 = .ok (.aload_n 0, 1) := by decide +kernel
theorem dX5_findIndex_43 : decode cX5_findIndex 43 = .ok (.getfield 39, 3) := by decide +kernel
theorem dX5_findIndex_46 : decode cX5_findIndex 46 = .ok (.aload_n 1, 1) := by decide +kernel
theorem dX5_findIndex_47 : decode cX5_findIndex 47 = .ok (.iload 4, 2) := by decide +kernel
theorem dX5_findIndex_49 : decode cX5_findIndex 49 = .ok (.invokevirtual 155, 3) := by decide +kernel
theorem dX5_findIndex_52 : decode cX5_findIndex 52 = .ok (.invokevirtual 257, 3) := by decide +kernel
theorem dX5_findIndex_55 : decode cX5_findIndex 55 = .ok (.iload_n 2, 1) := by decide +kernel
theorem dX5_findIndex_56 : decode cX5_findIndex 56 = .ok (.iload 4, 2) := by decide +kernel
theorem dX5_findIndex_58 : decode cX5_findIndex 58 = .ok (.invokestatic 137, 3) := by decide +kernel
theorem dX5_findIndex_61 : decode cX5_findIndex 61 = .ok (.ifCond .eq 6, 3) := by decide +kernel
theorem dX5_findIndex_64 : decode cX5_findIndex 64 = .ok (.goto 46, 3) := by decide +kernel
theorem dX5_findIndex_67 : decode cX5_findIndex 67 = .ok (.aload 5, 2) := by decide +kernel
theorem dX5_findIndex_69 : decode cX5_findIndex 69 = .ok (.getfield 106, 3) := by decide +kernel
theorem dX5_findIndex_72 : decode cX5_findIndex 72 = .ok (.ifCond .eq 12, 3) := by decide +kernel
theorem dX5_findIndex_75 : decode cX5_findIndex 75 = .ok (.aload_n 1, 1) := by decide +kernel
theorem dX5_findIndex_76 : decode cX5_findIndex 76 = .ok (.iload 4, 2) := by decide +kernel
theorem dX5_findIndex_78 : decode cX5_findIndex 78 = .ok (.invokevirtual 261, 3) := by decide +kernel
theorem dX5_findIndex_81 : decode cX5_findIndex 81 = .ok (.goto 29, 3) := by decide +kernel
theorem dX5_findIndex_84 : decode cX5_findIndex 84 = .ok (.aload_n 0, 1) := by decide +kernel
theorem dX5_findIndex_85 : decode cX5_findIndex 85 = .ok (.aload 5, 2) := by decide +kernel
theorem dX5_findIndex_87 : decode cX5_findIndex 87 = .ok (.getfield 113, 3) := by decide +kernel
theorem dX5_findIndex_90 : decode cX5_findIndex 90 = .ok (.aload_n 1, 1) := by decide +kernel
theorem dX5_findIndex_91 : decode cX5_findIndex 91 = .ok (.getfield 162, 3) := by decide +kernel
theorem dX5_findIndex_94 : decode cX5_findIndex 94 = .ok (.aload_n 1, 1) := by decide +kernel
theorem dX5_findIndex_95 : decode cX5_findIndex 95 = .ok (.getfield 172, 3) := by decide +kernel
theorem dX5_findIndex_98 : decode cX5_findIndex 98 = .ok (.invokevirtual 264, 3) := by decide +kernel
theorem dX5_findIndex_101 : decode cX5_findIndex 101 = .ok (.ifCond .eq 9, 3) := by decide +kernel
theorem dX5_findIndex_104 : decode cX5_findIndex 104 = .ok (.aload 5, 2) := by decide +kernel
theorem dX5_findIndex_106 : decode cX5_findIndex 106 = .ok (.getfield 113, 3) := by decide +kernel
theorem dX5_findIndex_109 : decode cX5_findIndex 109 = .ok (.ireturn, 1) := by decide +kernel
theorem dX5_findIndex_110 : decode cX5_findIndex 110 = .ok (.iinc 3 1, 3) := by decide +kernel
theorem dX5_findIndex_113 : decode cX5_findIndex 113 = .ok (.goto (-111), 3) := by decide +kernel
theorem dX5_findIndex_116 : decode cX5_findIndex 116 = .ok (.iconst (-1), 1) := by decide +kernel
theorem dX5_findIndex_117 : decode cX5_findIndex 117 = .ok (.ireturn, 1) := by decide +kernel
set_option maxRecDepth 20000 in
theorem ggX5_suits_X4_ageOf : GoodIn wsX5_suits wsX4_ageOf := goodIn_r _ [7, 8, 9, 10, 11, 5, 12, 13, 39, 40, 41, 42, 43, 44, 45, 46] (by decide +kernel) (by decide +kernel)
set_option maxRecDepth 20000 in
theorem gX5_suits_X4_ageOf_n76 : GoodIn wsX5_suits (wsX4_ageOf) := ggX5_suits_X4_ageOf
set_option maxRecDepth 20000 in
theorem ggX5_suits_X4_namesLongYanked : GoodIn wsX5_suits wsX4_namesLongYanked := goodIn_r _ [16, 17, 18, 19, 20, 21, 22, 5, 23, 24, 9, 10, 11, 12, 13, 25, 26, 27, 28, 29, 30, 39, 40, 41, 42, 43, 44, 45, 46] (by decide +kernel) (by decide +kernel)
set_option maxRecDepth 20000 in
theorem gX5_suits_X4_namesLongYanked_n267 : GoodIn wsX5_suits (wsX4_namesLongYanked) := ggX5_suits_X4_namesLongYanked
theorem dX5_suits_0 : decode cX5_suits 0 = .ok (.iload_n 1, 1) := by decide +kernel
theorem dX5_suits_1 : decode cX5_suits 1 = .ok (.iload_n 3, 1) := by decide +kernel
theorem dX5_suits_2 : decode cX5_suits 2 = .ok (.if_icmp .lt 42, 3) := by decide +kernel
theorem dX5_suits_5 : decode cX5_suits 5 = .ok (.aload_n 0, 1) := by decide +kernel
theorem dX5_suits_6 : decode cX5_suits 6 = .ok (.getfield 12, 3) := by decide +kernel
theorem dX5_suits_9 : decode cX5_suits 9 = .ok (.iload_n 1, 1) := by decide +kernel
theorem dX5_suits_10 : decode cX5_suits 10 = .ok (.aload_n 0, 1) := by decide +kernel
theorem dX5_suits_11 : decode cX5_suits 11 = .ok (.getfield 55, 3) := by decide +kernel
theorem dX5_suits_14 : decode cX5_suits 14 = .ok (.invokevirtual 76, 3) := by decide +kernel
theorem dX5_suits_17 : decode cX5_suits 17 = .ok (.iload_n 2, 1) := by decide +kernel
theorem dX5_suits_18 : decode cX5_suits 18 = .ok (.if_icmp .gt 26, 3) := by decide +kernel
theorem dX5_suits_21 : decode cX5_suits 21 = .ok (.aload_n 0, 1) := by decide +kernel
theorem dX5_suits_22 : decode cX5_suits 22 = .ok (.getfield 12, 3) := by decide +kernel
theorem dX5_suits_25 : decode cX5_suits 25 = .ok (.iload_n 1, 1) := by decide +kernel
theorem dX5_suits_26 : decode cX5_suits 26 = .ok (.aload_n 0, 1) := by decide +kernel
theorem dX5_suits_27 : decode cX5_suits 27 = .ok (.getfield 55, 3) := by decide +kernel
theorem dX5_suits_30 : decode cX5_suits 30 = .ok (.aload_n 0, 1) := by decide +kernel
theorem dX5_suits_31 : decode cX5_suits 31 = .ok (.getfield 43, 3) := by decide +kernel
theorem dX5_suits_34 : decode cX5_suits 34 = .ok (.invokevirtual 267, 3) := by decide +kernel
theorem dX5_suits_37 : decode cX5_suits 37 = .ok (.ifCond .ne 7, 3) := by decide +kernel
theorem dX5_suits_40 : decode cX5_suits 40 = .ok (.iconst 1, 1) := by decide +kernel
theorem dX5_suits_41 : decode cX5_suits 41 = .ok (.goto 4, 3) := by decide +kernel
theorem dX5_suits_44 : decode cX5_suits 44 = .ok (.iconst 0, 1) := by decide +kernel
theorem dX5_suits_45 : decode cX5_suits 45 = .ok (.ireturn, 1) := by decide +kernel
set_option maxRecDepth 20000 in
theorem ggX5_firstNotNamed_X5_isIn : GoodIn wsX5_firstNotNamed wsX5_isIn := goodIn_r _ [5, 6, 7, 4, 8] (by decide +kernel) (by decide +kernel)
set_option maxRecDepth 20000 in
theorem gX5_firstNotNamed_X5_isIn : GoodIn wsX5_firstNotNamed (va_wsS RX5 137 yX5_isIn wsX5_isIn) := goodIn_app (goodIn_of _ (by decide +kernel)) ggX5_firstNotNamed_X5_isIn
set_option maxRecDepth 20000 in
theorem ggX5_firstNotNamed_X4_namedBy : GoodIn wsX5_firstNotNamed wsX4_namedBy := goodIn_r _ [12, 13, 14, 15, 16, 10, 17, 18, 7, 4, 8, 27, 28, 29, 30, 31, 32, 33, 34] (by decide +kernel) (by decide +kernel)
set_option maxRecDepth 20000 in
theorem gX5_firstNotNamed_X4_namedBy_n66 : GoodIn wsX5_firstNotNamed (wsX4_namedBy) := ggX5_firstNotNamed_X4_namedBy
theorem dX5_firstNotNamed_0 : decode cX5_firstNotNamed 0 = .ok (.iconst 0, 1) := by decide +kernel
theorem dX5_firstNotNamed_1 : decode cX5_firstNotNamed 1 = .ok (.istore_n 3, 1) := by decide +kernel
theorem dX5_firstNotNamed_2 : decode cX5_firstNotNamed 2 = .ok (.iload_n 3, 1) := by decide +kernel
theorem dX5_firstNotNamed_3 : decode cX5_firstNotNamed 3 = .ok (.bipush 12, 2) := by decide +kernel
theorem dX5_firstNotNamed_5 : decode cX5_firstNotNamed 5 = .ok (.if_icmp .ge 32, 3) := by decide +kernel
theorem dX5_firstNotNamed_8 : decode cX5_firstNotNamed 8 = .ok (.iload_n 2, 1) := by decide +kernel
theorem dX5_firstNotNamed_9 : decode cX5_firstNotNamed 9 = .ok (.iload_n 3, 1) := by decide +kernel
theorem dX5_firstNotNamed_10 : decode cX5_firstNotNamed 10 = .ok (.invokestatic 137, 3) := by decide +kernel
theorem dX5_firstNotNamed_13 : decode cX5_firstNotNamed 13 = .ok (.ifCond .eq 18, 3) := by decide +kernel
theorem dX5_firstNotNamed_16 : decode cX5_firstNotNamed 16 = .ok (.aload_n 0, 1) := by decide +kernel
theorem dX5_firstNotNamed_17 : decode cX5_firstNotNamed 17 = .ok (.getfield 12, 3) := by decide +kernel
theorem dX5_firstNotNamed_20 : decode cX5_firstNotNamed 20 = .ok (.iload_n 1, 1) := by decide +kernel
theorem dX5_firstNotNamed_21 : decode cX5_firstNotNamed 21 = .ok (.iload_n 3, 1) := by decide +kernel
theorem dX5_firstNotNamed_22 : decode cX5_firstNotNamed 22 = .ok (.invokevirtual 66, 3) := by decide +kernel
theorem dX5_firstNotNamed_25 : decode cX5_firstNotNamed 25 = .ok (.iconst (-1), 1) := by decide +kernel
theorem dX5_firstNotNamed_26 : decode cX5_firstNotNamed 26 = .ok (.if_icmp .ne 5, 3) := by decide +kernel
theorem dX5_firstNotNamed_29 : decode cX5_firstNotNamed 29 = .ok (.iload_n 3, 1) := by decide +kernel
theorem dX5_firstNotNamed_30 : decode cX5_firstNotNamed 30 = .ok (.ireturn, 1) := by decide +kernel
theorem dX5_firstNotNamed_31 : decode cX5_firstNotNamed 31 = .ok (.iinc 3 1, 3) := by decide +kernel
theorem dX5_firstNotNamed_34 : decode cX5_firstNotNamed 34 = .ok (.goto (-32), 3) := by decide +kernel
theorem dX5_firstNotNamed_37 : decode cX5_firstNotNamed 37 = .ok (.iconst (-1), 1) := by decide +kernel
theorem dX5_firstNotNamed_38 : decode cX5_firstNotNamed 38 = .ok (.ireturn, 1) := by decide +kernel
set_option maxRecDepth 20000 in
theorem ggX5_getFiles_X5_isIn : GoodIn wsX5_getFiles wsX5_isIn := goodIn_r _ [6, 7, 8, 5, 9] (by decide +kernel) (by decide +kernel)
set_option maxRecDepth 20000 in
theorem gX5_getFiles_X5_isIn : GoodIn wsX5_getFiles (va_wsS RX5 137 yX5_isIn wsX5_isIn) := goodIn_app (goodIn_of _ (by decide +kernel)) ggX5_getFiles_X5_isIn
set_option maxRecDepth 20000 in
theorem ggX5_getFiles_X4_namedBy : GoodIn wsX5_getFiles wsX4_namedBy := goodIn_r _ [13, 14, 15, 16, 17, 11, 18, 19, 8, 5, 9, 85, 86, 87, 88, 89, 90, 91, 92] (by decide +kernel) (by decide +kernel)
set_option maxRecDepth 20000 in
theorem gX5_getFiles_X4_namedBy_n66 : GoodIn wsX5_getFiles (wsX4_namedBy) := ggX5_getFiles_X4_namedBy
set_option maxRecDepth 20000 in
theorem ggX5_getFiles_X5_findGiver : GoodIn wsX5_getFiles wsX5_findGiver := goodIn_r _ [23, 2, 24, 25, 26, 27, 28, 29, 8, 5, 9, 30, 31, 32, 33, 34, 35, 7, 36, 37, 38, 39, 4, 6, 40, 41, 42, 43, 44, 45, 46, 47, 48, 49, 3, 50, 51, 52, 53, 54, 55, 56, 57, 58, 59, 93, 94, 95, 96, 97, 98, 67, 68, 69, 70, 71, 72, 73, 74, 99, 100, 101, 102, 103, 104, 105, 106, 107, 108, 75, 76, 77, 78, 79, 80, 81, 82, 83, 84] (by decide +kernel) (by decide +kernel)
set_option maxRecDepth 20000 in
theorem gX5_getFiles_X5_findGiver : GoodIn wsX5_getFiles (wsV RX5 270 RX5 yX5_findGiver wsX5_findGiver) := goodIn_app (goodIn_of _ (by decide +kernel)) ggX5_getFiles_X5_findGiver
set_option maxRecDepth 20000 in
theorem ggX5_getFiles_X1_keepGot : GoodIn wsX5_getFiles wsX1_keepGot := goodIn_r _ [62, 63, 64, 65, 66, 75, 76, 77, 78, 79, 80, 81, 82, 83, 84] (by decide +kernel) (by decide +kernel)
set_option maxRecDepth 20000 in
theorem gX5_getFiles_X1_keepGot_n273 : GoodIn wsX5_getFiles (wsX1_keepGot) := ggX5_getFiles_X1_keepGot
theorem dX5_getFiles_0 : decode cX5_getFiles 0 = .ok (.iconst 0, 1) := by decide +kernel
theorem dX5_getFiles_1 : decode cX5_getFiles 1 = .ok (.istore 4, 2) := by decide +kernel
theorem dX5_getFiles_3 : decode cX5_getFiles 3 = .ok (.iload 4, 2) := by decide +kernel
theorem dX5_getFiles_5 : decode cX5_getFiles 5 = .ok (.bipush 12, 2) := by decide +kernel
theorem dX5_getFiles_7 : decode cX5_getFiles 7 = .ok (.if_icmp .ge 71, 3) := by decide +kernel
theorem dX5_getFiles_10 : decode cX5_getFiles 10 = .ok (.iload_n 2, 1) := by decide +kernel
theorem dX5_getFiles_11 : decode cX5_getFiles 11 = .ok (.iload 4, 2) := by decide +kernel
theorem dX5_getFiles_13 : decode cX5_getFiles 13 = .ok (.invokestatic 137, 3) := by decide +kernel
theorem dX5_getFiles_16 : decode cX5_getFiles 16 = .ok (.ifCond .ne 6, 3) := by decide +kernel
theorem dX5_getFiles_19 : decode cX5_getFiles 19 = .ok (.goto 53, 3) := by decide +kernel
theorem dX5_getFiles_22 : decode cX5_getFiles 22 = .ok (.aload_n 0, 1) := by decide +kernel
theorem dX5_getFiles_23 : decode cX5_getFiles 23 = .ok (.getfield 12, 3) := by decide +kernel
theorem dX5_getFiles_26 : decode cX5_getFiles 26 = .ok (.aload_n 0, 1) := by decide +kernel
theorem dX5_getFiles_27 : decode cX5_getFiles 27 = .ok (.getfield 39, 3) := by decide +kernel
theorem dX5_getFiles_30 : decode cX5_getFiles 30 = .ok (.getfield 195, 3) := by decide +kernel
theorem dX5_getFiles_33 : decode cX5_getFiles 33 = .ok (.iload 4, 2) := by decide +kernel
theorem dX5_getFiles_35 : decode cX5_getFiles 35 = .ok (.invokevirtual 66, 3) := by decide +kernel
theorem dX5_getFiles_38 : decode cX5_getFiles 38 = .ok (.istore 5, 2) := by decide +kernel
theorem dX5_getFiles_40 : decode cX5_getFiles 40 = .ok (.aload_n 0, 1) := by decide +kernel
theorem dX5_getFiles_41 : decode cX5_getFiles 41 = .ok (.aload_n 1, 1) := by decide +kernel
theorem dX5_getFiles_42 : decode cX5_getFiles 42 = .ok (.iload 5, 2) := by decide +kernel
theorem dX5_getFiles_44 : decode cX5_getFiles 44 = .ok (.iload_n 3, 1) := by decide +kernel
theorem dX5_getFiles_45 : decode cX5_getFiles 45 = .ok (.invokevirtual 270, 3) := by decide +kernel
theorem dX5_getFiles_48 : decode cX5_getFiles 48 = .ok (.istore 6, 2) := by decide +kernel
theorem dX5_getFiles_50 : decode cX5_getFiles 50 = .ok (.iload 6, 2) := by decide +kernel
theorem dX5_getFiles_52 : decode cX5_getFiles 52 = .ok (.iconst (-1), 1) := by decide +kernel
theorem dX5_getFiles_53 : decode cX5_getFiles 53 = .ok (.if_icmp .ne 6, 3) := by decide +kernel
theorem dX5_getFiles_56 : decode cX5_getFiles 56 = .ok (.iload 4, 2) := by decide +kernel
theorem dX5_getFiles_58 : decode cX5_getFiles 58 = .ok (.ireturn, 1) := by decide +kernel
theorem dX5_getFiles_59 : decode cX5_getFiles 59 = .ok (.aload_n 0, 1) := by decide +kernel
theorem dX5_getFiles_60 : decode cX5_getFiles 60 = .ok (.getfield 39, 3) := by decide +kernel
theorem dX5_getFiles_63 : decode cX5_getFiles 63 = .ok (.iload 5, 2) := by decide +kernel
theorem dX5_getFiles_65 : decode cX5_getFiles 65 = .ok (.iload 4, 2) := by decide +kernel
theorem dX5_getFiles_67 : decode cX5_getFiles 67 = .ok (.iload 6, 2) := by decide +kernel
theorem dX5_getFiles_69 : decode cX5_getFiles 69 = .ok (.invokevirtual 273, 3) := by decide +kernel
theorem dX5_getFiles_72 : decode cX5_getFiles 72 = .ok (.iinc 4 1, 3) := by decide +kernel
theorem dX5_getFiles_75 : decode cX5_getFiles 75 = .ok (.goto (-72), 3) := by decide +kernel
theorem dX5_getFiles_78 : decode cX5_getFiles 78 = .ok (.iconst (-1), 1) := by decide +kernel
theorem dX5_getFiles_79 : decode cX5_getFiles 79 = .ok (.ireturn, 1) := by decide +kernel
set_option maxRecDepth 20000 in
theorem ggX5_findGiver_X0_inLine : GoodIn wsX5_findGiver wsX0_inLine := goodIn_r _ [5, 6, 7, 8, 9, 10, 45, 46, 47, 48, 49, 50] (by decide +kernel) (by decide +kernel)
set_option maxRecDepth 20000 in
theorem gX5_findGiver_X0_inLine_n251 : GoodIn wsX5_findGiver (wsX0_inLine) := ggX5_findGiver_X0_inLine
set_option maxRecDepth 20000 in
theorem ggX5_findGiver_X5_mirrorAt : GoodIn wsX5_findGiver wsX5_mirrorAt := goodIn_r _ [14, 15, 16, 17, 8, 9, 10, 51, 52, 53, 54, 55, 56, 57, 58] (by decide +kernel) (by decide +kernel)
set_option maxRecDepth 20000 in
theorem gX5_findGiver_X5_mirrorAt : GoodIn wsX5_findGiver (wsV RX5 96 RX5 yX5_mirrorAt wsX5_mirrorAt) := goodIn_app (goodIn_of _ (by decide +kernel)) ggX5_findGiver_X5_mirrorAt
set_option maxRecDepth 20000 in
theorem ggX5_findGiver_X0_knowsAsBad : GoodIn wsX5_findGiver wsX0_knowsAsBad := goodIn_r _ [20, 21, 22, 9, 23, 17, 8, 10, 45, 46, 47, 48, 49, 50] (by decide +kernel) (by decide +kernel)
set_option maxRecDepth 20000 in
theorem gX5_findGiver_X0_knowsAsBad_n254 : GoodIn wsX5_findGiver (wsX0_knowsAsBad) := ggX5_findGiver_X0_knowsAsBad
set_option maxRecDepth 20000 in
theorem ggX5_findGiver_X0_costOf : GoodIn wsX5_findGiver wsX0_costOf := goodIn_r _ [26, 27, 8, 9, 10, 45, 46, 47, 48, 49, 50] (by decide +kernel) (by decide +kernel)
set_option maxRecDepth 20000 in
theorem gX5_findGiver_X0_costOf_n155 : GoodIn wsX5_findGiver (wsX0_costOf) := ggX5_findGiver_X0_costOf
set_option maxRecDepth 20000 in
theorem ggX5_findGiver_X1_spend : GoodIn wsX5_findGiver wsX1_spend := goodIn_r _ [31, 32, 33, 69, 70, 71, 72, 73, 74, 75, 76, 77, 78] (by decide +kernel) (by decide +kernel)
set_option maxRecDepth 20000 in
theorem gX5_findGiver_X1_spend_n257 : GoodIn wsX5_findGiver (wsX1_spend) := ggX5_findGiver_X1_spend
set_option maxRecDepth 20000 in
theorem ggX5_findGiver_X5_isIn : GoodIn wsX5_findGiver wsX5_isIn := goodIn_r _ [23, 17, 8, 9, 10] (by decide +kernel) (by decide +kernel)
set_option maxRecDepth 20000 in
theorem gX5_findGiver_X5_isIn : GoodIn wsX5_findGiver (va_wsS RX5 137 yX5_isIn wsX5_isIn) := goodIn_app (goodIn_of _ (by decide +kernel)) ggX5_findGiver_X5_isIn
set_option maxRecDepth 20000 in
theorem ggX5_findGiver_X3_holds : GoodIn wsX5_findGiver wsX3_holds := goodIn_r _ [38, 39, 40, 9, 41, 17, 8, 10, 59, 60, 61, 62, 63, 64, 65, 66, 67, 68] (by decide +kernel) (by decide +kernel)
set_option maxRecDepth 20000 in
theorem gX5_findGiver_X3_holds_n148 : GoodIn wsX5_findGiver (wsX3_holds) := ggX5_findGiver_X3_holds
set_option maxRecDepth 20000 in
theorem ggX5_findGiver_X0_markBad : GoodIn wsX5_findGiver wsX0_markBad := goodIn_r _ [44, 21, 8, 9, 10, 45, 46, 47, 48, 49, 50] (by decide +kernel) (by decide +kernel)
set_option maxRecDepth 20000 in
theorem gX5_findGiver_X0_markBad_n261 : GoodIn wsX5_findGiver (wsX0_markBad) := ggX5_findGiver_X0_markBad
theorem dX5_findGiver_0 : decode cX5_findGiver 0 = .ok (.iconst 0, 1) := by decide +kernel
theorem dX5_findGiver_1 : decode cX5_findGiver 1 = .ok (.istore 4, 2) := by decide +kernel
theorem dX5_findGiver_3 : decode cX5_findGiver 3 = .ok (.iload 4, 2) := by decide +kernel
theorem dX5_findGiver_5 : decode cX5_findGiver 5 = .ok (.aload_n 1, 1) := by decide +kernel
theorem dX5_findGiver_6 : decode cX5_findGiver 6 = .ok (.getfield 248, 3) := by decide +kernel
theorem dX5_findGiver_9 : decode cX5_findGiver 9 = .ok (.if_icmp .ge 93, 3) := by decide +kernel
theorem dX5_findGiver_12 : decode cX5_findGiver 12 = .ok (.aload_n 1, 1) := by decide +kernel
theorem dX5_findGiver_13 : decode cX5_findGiver 13 = .ok (.iload 4, 2) := by decide +kernel
theorem dX5_findGiver_15 : decode cX5_findGiver 15 = .ok (.invokevirtual 251, 3) := by decide +kernel
theorem dX5_findGiver_18 : decode cX5_findGiver 18 = .ok (.istore 5, 2) := by decide +kernel
theorem dX5_findGiver_20 : decode cX5_findGiver 20 = .ok (.aload_n 0, 1) := by decide +kernel
theorem dX5_findGiver_21 : decode cX5_findGiver 21 = .ok (.iload 5, 2) := by decide +kernel
theorem dX5_findGiver_23 : decode cX5_findGiver 23 = .ok (.invokevirtual 96, 3) := by decide +kernel
theorem dX5_findGiver_26 : decode cX5_findGiver 26 = .ok (.astore 6, 2) := by decide +kernel
theorem dX5_findGiver_28 : decode cX5_findGiver 28 = .ok (.aload 6, 2) := by decide +kernel
theorem dX5_findGiver_30 : decode cX5_findGiver 30 = .ok (.ifnull 66, 3) := by decide +kernel
theorem dX5_findGiver_33 : decode cX5_findGiver 33 = .ok (.aload_n 1, 1) := by decide +kernel
theorem dX5_findGiver_34 : decode cX5_findGiver 34 = .ok (.iload 5, 2) := by decide +kernel
theorem dX5_findGiver_36 : decode cX5_findGiver 36 = .ok (.invokevirtual 254, 3) := by decide +kernel
theorem dX5_findGiver_39 : decode cX5_findGiver 39 = .ok (.ifCond .eq 6, 3) := by decide +kernel
theorem dX5_findGiver_42 : decode cX5_findGiver 42 = .ok (.goto 54, 3) := by decide +kernel
theorem dX5_findGiver_45 : decode cX5_findGiver 45 = .ok (.aload_n 0, 1) := by decide +kernel
theorem dX5_findGiver_46 : decode cX5_findGiver 46 = .ok (.getfield 39, 3) := by decide +kernel
theorem dX5_findGiver_49 : decode cX5_findGiver 49 = .ok (.aload_n 1, 1) := by decide +kernel
theorem dX5_findGiver_50 : decode cX5_findGiver 50 = .ok (.iload 5, 2) := by decide +kernel
theorem dX5_findGiver_52 : decode cX5_findGiver 52 = .ok (.invokevirtual 155, 3) := by decide +kernel
theorem dX5_findGiver_55 : decode cX5_findGiver 55 = .ok (.invokevirtual 257, 3) := by decide +kernel
theorem dX5_findGiver_58 : decode cX5_findGiver 58 = .ok (.iload_n 3, 1) := by decide +kernel
theorem dX5_findGiver_59 : decode cX5_findGiver 59 = .ok (.iload 5, 2) := by decide +kernel
theorem dX5_findGiver_61 : decode cX5_findGiver 61 = .ok (.invokestatic 137, 3) := by decide +kernel
theorem dX5_findGiver_64 : decode cX5_findGiver 64 = .ok (.ifCond .ne 32, 3) := by decide +kernel
theorem dX5_findGiver_67 : decode cX5_findGiver 67 = .ok (.aload 6, 2) := by decide +kernel
theorem dX5_findGiver_69 : decode cX5_findGiver 69 = .ok (.iload_n 2, 1) := by decide +kernel
theorem dX5_findGiver_70 : decode cX5_findGiver 70 = .ok (.invokevirtual 148, 3) := by decide +kernel
theorem dX5_findGiver_73 : decode cX5_findGiver 73 = .ok (.ifCond .ne 6, 3) := by decide +kernel
theorem dX5_findGiver_76 : decode cX5_findGiver 76 = .ok (.goto 20, 3) := by decide +kernel
theorem dX5_findGiver_79 : decode cX5_findGiver 79 = .ok (.aload 6, 2) := by decide +kernel
theorem dX5_findGiver_81 : decode cX5_findGiver 81 = .ok (.getfield 106, 3) := by decide +kernel
theorem dX5_findGiver_84 : decode cX5_findGiver 84 = .ok (.ifCond .ne 6, 3) := by decide +kernel
theorem dX5_findGiver_87 : decode cX5_findGiver 87 = .ok (.iload 5, 2) := by decide +kernel
theorem dX5_findGiver_89 : decode cX5_findGiver 89 = .ok (.ireturn, 1) := by decide +kernel
theorem dX5_findGiver_90 : decode cX5_findGiver 90 = .ok (.aload_n 1, 1) := by decide +kernel
theorem dX5_findGiver_91 : decode cX5_findGiver 91 = .ok (.iload 5, 2) := by decide +kernel
theorem dX5_findGiver_93 : decode cX5_findGiver 93 = .ok (.invokevirtual 261, 3) := by decide +kernel
theorem dX5_findGiver_96 : decode cX5_findGiver 96 = .ok (.iinc 4 1, 3) := by decide +kernel
theorem dX5_findGiver_99 : decode cX5_findGiver 99 = .ok (.goto (-96), 3) := by decide +kernel
theorem dX5_findGiver_102 : decode cX5_findGiver 102 = .ok (.iconst (-1), 1) := by decide +kernel
theorem dX5_findGiver_103 : decode cX5_findGiver 103 = .ok (.ireturn, 1) := by decide +kernel
set_option maxRecDepth 20000 in
theorem ggX5_foresee_X5_leastForIndex : GoodIn wsX5_foresee wsX5_leastForIndex := goodIn_r _ [7, 8, 1, 2, 9, 10, 11, 12, 13, 14, 15, 6, 16, 17, 18, 19, 20, 21, 22, 23, 24, 25, 26, 27, 28, 29, 30, 31, 32, 33, 34, 35, 36, 37, 38, 39, 40, 41, 42, 43, 44, 45, 46, 47, 48, 49, 50, 51, 52, 53, 54, 55, 56, 57, 58, 59, 60, 61, 62, 63, 64, 65, 66, 67, 68, 78, 79, 80, 81, 82, 83, 84, 85, 96, 97, 98, 99, 100, 101, 102, 103, 104, 105, 106, 107, 108, 109, 110, 111, 86, 87, 88, 89, 90, 91, 92, 93, 94, 95, 112, 113, 114, 115, 116, 117, 118, 119] (by decide +kernel) (by decide +kernel)
set_option maxRecDepth 20000 in
theorem gX5_foresee_X5_leastForIndex : GoodIn wsX5_foresee (wsV RX5 276 RX5 yX5_leastForIndex wsX5_leastForIndex) := goodIn_app (goodIn_of _ (by decide +kernel)) ggX5_foresee_X5_leastForIndex
set_option maxRecDepth 20000 in
theorem ggX5_foresee_X5_isIn : GoodIn wsX5_foresee wsX5_isIn := goodIn_r _ [31, 18, 19, 6, 20] (by decide +kernel) (by decide +kernel)
set_option maxRecDepth 20000 in
theorem gX5_foresee_X5_isIn : GoodIn wsX5_foresee (va_wsS RX5 137 yX5_isIn wsX5_isIn) := goodIn_app (goodIn_of _ (by decide +kernel)) ggX5_foresee_X5_isIn
set_option maxRecDepth 20000 in
theorem ggX5_foresee_X4_namedBy : GoodIn wsX5_foresee wsX4_namedBy := goodIn_r _ [67, 68, 43, 44, 45, 39, 46, 47, 19, 6, 20, 112, 113, 114, 115, 116, 117, 118, 119] (by decide +kernel) (by decide +kernel)
set_option maxRecDepth 20000 in
theorem gX5_foresee_X4_namedBy_n66 : GoodIn wsX5_foresee (wsX4_namedBy) := ggX5_foresee_X4_namedBy
set_option maxRecDepth 20000 in
theorem ggX5_foresee_X5_leastForFile : GoodIn wsX5_foresee wsX5_leastForFile := goodIn_r _ [72, 8, 9, 10, 11, 12, 13, 14, 15, 6, 16, 17, 18, 19, 20, 21, 22, 23, 24, 25, 26, 27, 28, 29, 30, 31, 73, 74, 75, 76, 77, 59, 60, 78, 79, 80, 81, 82, 83, 84, 85, 96, 97, 98, 99, 100, 101, 102, 103, 104, 105, 106, 107, 108, 109, 110, 111] (by decide +kernel) (by decide +kernel)
set_option maxRecDepth 20000 in
theorem gX5_foresee_X5_leastForFile : GoodIn wsX5_foresee (wsV RX5 279 RX5 yX5_leastForFile wsX5_leastForFile) := goodIn_app (goodIn_of _ (by decide +kernel)) ggX5_foresee_X5_leastForFile
theorem dX5_foresee_0 : decode cX5_foresee 0 = .ok (.aload_n 0, 1) := by decide +kernel
theorem dX5_foresee_1 : decode cX5_foresee 1 = .ok (.aload_n 1, 1) := by decide +kernel
theorem dX5_foresee_2 : decode cX5_foresee 2 = .ok (.iload_n 2, 1) := by decide +kernel
theorem dX5_foresee_3 : decode cX5_foresee 3 = .ok (.iload_n 3, 1) := by decide +kernel
theorem dX5_foresee_4 : decode cX5_foresee 4 = .ok (.iload 4, 2) := by decide +kernel
theorem dX5_foresee_6 : decode cX5_foresee 6 = .ok (.invokevirtual 276, 3) := by decide +kernel
theorem dX5_foresee_9 : decode cX5_foresee 9 = .ok (.istore 5, 2) := by decide +kernel
theorem dX5_foresee_11 : decode cX5_foresee 11 = .ok (.iconst 0, 1) := by decide +kernel
theorem dX5_foresee_12 : decode cX5_foresee 12 = .ok (.istore 6, 2) := by decide +kernel
theorem dX5_foresee_14 : decode cX5_foresee 14 = .ok (.iload 6, 2) := by decide +kernel
theorem dX5_foresee_16 : decode cX5_foresee 16 = .ok (.bipush 12, 2) := by decide +kernel
theorem dX5_foresee_18 : decode cX5_foresee 18 = .ok (.if_icmp .ge 46, 3) := by decide +kernel
theorem dX5_foresee_21 : decode cX5_foresee 21 = .ok (.iload_n 2, 1) := by decide +kernel
theorem dX5_foresee_22 : decode cX5_foresee 22 = .ok (.iload 6, 2) := by decide +kernel
theorem dX5_foresee_24 : decode cX5_foresee 24 = .ok (.invokestatic 137, 3) := by decide +kernel
theorem dX5_foresee_27 : decode cX5_foresee 27 = .ok (.ifCond .eq 31, 3) := by decide +kernel
theorem dX5_foresee_30 : decode cX5_foresee 30 = .ok (.iload 5, 2) := by decide +kernel
theorem dX5_foresee_32 : decode cX5_foresee 32 = .ok (.aload_n 0, 1) := by decide +kernel
theorem dX5_foresee_33 : decode cX5_foresee 33 = .ok (.aload_n 1, 1) := by decide +kernel
theorem dX5_foresee_34 : decode cX5_foresee 34 = .ok (.aload_n 0, 1) := by decide +kernel
theorem dX5_foresee_35 : decode cX5_foresee 35 = .ok (.getfield 12, 3) := by decide +kernel
theorem dX5_foresee_38 : decode cX5_foresee 38 = .ok (.aload_n 0, 1) := by decide +kernel
theorem dX5_foresee_39 : decode cX5_foresee 39 = .ok (.getfield 39, 3) := by decide +kernel
theorem dX5_foresee_42 : decode cX5_foresee 42 = .ok (.getfield 195, 3) := by decide +kernel
theorem dX5_foresee_45 : decode cX5_foresee 45 = .ok (.iload 6, 2) := by decide +kernel
theorem dX5_foresee_47 : decode cX5_foresee 47 = .ok (.invokevirtual 66, 3) := by decide +kernel
theorem dX5_foresee_50 : decode cX5_foresee 50 = .ok (.iload 4, 2) := by decide +kernel
theorem dX5_foresee_52 : decode cX5_foresee 52 = .ok (.invokevirtual 279, 3) := by decide +kernel
theorem dX5_foresee_55 : decode cX5_foresee 55 = .ok (.iadd, 1) := by decide +kernel
theorem dX5_foresee_56 : decode cX5_foresee 56 = .ok (.istore 5, 2) := by decide +kernel
theorem dX5_foresee_58 : decode cX5_foresee 58 = .ok (.iinc 6 1, 3) := by decide +kernel
theorem dX5_foresee_61 : decode cX5_foresee 61 = .ok (.goto (-47), 3) := by decide +kernel
theorem dX5_foresee_64 : decode cX5_foresee 64 = .ok (.iload 5, 2) := by decide +kernel
theorem dX5_foresee_66 : decode cX5_foresee 66 = .ok (.ireturn, 1) := by decide +kernel
set_option maxRecDepth 20000 in
theorem ggX5_leastForIndex_X5_mirrorAt : GoodIn wsX5_leastForIndex wsX5_mirrorAt := goodIn_r _ [12, 1, 13, 14, 15, 11, 16, 65, 66, 67, 68, 69, 70, 71, 72] (by decide +kernel) (by decide +kernel)
set_option maxRecDepth 20000 in
theorem gX5_leastForIndex_X5_mirrorAt : GoodIn wsX5_leastForIndex (wsV RX5 96 RX5 yX5_mirrorAt wsX5_mirrorAt) := goodIn_app (goodIn_of _ (by decide +kernel)) ggX5_leastForIndex_X5_mirrorAt
set_option maxRecDepth 20000 in
theorem ggX5_leastForIndex_X5_wouldAnswer : GoodIn wsX5_leastForIndex wsX5_wouldAnswer := goodIn_r _ [19, 20, 21, 22, 23, 24, 15, 11, 16, 25, 26, 27, 14, 73, 74, 75, 76, 77, 78, 79, 80, 81, 82, 83, 84, 85, 86, 87, 88] (by decide +kernel) (by decide +kernel)
set_option maxRecDepth 20000 in
theorem gX5_leastForIndex_X5_wouldAnswer : GoodIn wsX5_leastForIndex (va_wsS RX5 282 yX5_wouldAnswer wsX5_wouldAnswer) := goodIn_app (goodIn_of _ (by decide +kernel)) ggX5_leastForIndex_X5_wouldAnswer
set_option maxRecDepth 20000 in
theorem ggX5_leastForIndex_X5_suits : GoodIn wsX5_leastForIndex wsX5_suits := goodIn_r _ [31, 2, 32, 33, 34, 35, 36, 37, 38, 39, 40, 41, 42, 43, 44, 45, 46, 47, 48, 49, 50, 51, 52, 53, 54, 55, 11, 56, 14, 15, 16, 65, 66, 67, 68, 69, 70, 71, 72, 99, 100, 101, 102, 103, 104, 105, 106] (by decide +kernel) (by decide +kernel)
set_option maxRecDepth 20000 in
theorem gX5_leastForIndex_X5_suits : GoodIn wsX5_leastForIndex (wsV RX5 264 RX5 yX5_suits wsX5_suits) := goodIn_app (goodIn_of _ (by decide +kernel)) ggX5_leastForIndex_X5_suits
set_option maxRecDepth 20000 in
theorem ggX5_leastForIndex_X4_namesAlike : GoodIn wsX5_leastForIndex wsX4_namesAlike := goodIn_r _ [59, 26, 11, 27, 14, 15, 16, 60, 61, 62, 35, 63, 64, 39, 40, 41, 42, 43, 99, 100, 101, 102, 103, 104, 105, 106] (by decide +kernel) (by decide +kernel)
set_option maxRecDepth 20000 in
theorem gX5_leastForIndex_X4_namesAlike_n286 : GoodIn wsX5_leastForIndex (wsX4_namesAlike) := ggX5_leastForIndex_X4_namesAlike
set_option maxRecDepth 20000 in
theorem ggX5_leastForIndex_X0_costOf : GoodIn wsX5_leastForIndex wsX0_costOf := goodIn_r _ [23, 24, 15, 11, 16, 83, 84, 85, 86, 87, 88] (by decide +kernel) (by decide +kernel)
set_option maxRecDepth 20000 in
theorem gX5_leastForIndex_X0_costOf_n155 : GoodIn wsX5_leastForIndex (wsX0_costOf) := ggX5_leastForIndex_X0_costOf
theorem dX5_leastForIndex_0 : decode cX5_leastForIndex 0 = .ok (.bipush 100, 2) := by decide +kernel
theorem dX5_leastForIndex_2 : decode cX5_leastForIndex 2 = .ok (.istore 5, 2) := by decide +kernel
theorem dX5_leastForIndex_4 : decode cX5_leastForIndex 4 = .ok (.iconst 0, 1) := by decide +kernel
theorem dX5_leastForIndex_5 : decode cX5_leastForIndex 5 = .ok (.istore 6, 2) := by decide +kernel
theorem dX5_leastForIndex_7 : decode cX5_leastForIndex 7 = .ok (.iload 6, 2) := by decide +kernel
theorem dX5_leastForIndex_9 : decode cX5_leastForIndex 9 = .ok (.aload_n 0, 1) := by decide +kernel
theorem dX5_leastForIndex_10 : decode cX5_leastForIndex 10 = .ok (.getfield 90, 3) := by decide +kernel
theorem dX5_leastForIndex_13 : decode cX5_leastForIndex 13 = .ok (.if_icmp .ge 88, 3) := by decide +kernel
theorem dX5_leastForIndex_16 : decode cX5_leastForIndex 16 = .ok (.aload_n 0, 1) := by decide +kernel
theorem dX5_leastForIndex_17 : decode cX5_leastForIndex 17 = .ok (.iload 6, 2) := by decide +kernel
theorem dX5_leastForIndex_19 : decode cX5_leastForIndex 19 = .ok (.invokevirtual 96, 3) := by decide +kernel
theorem dX5_leastForIndex_22 : decode cX5_leastForIndex 22 = .ok (.astore 7, 2) := by decide +kernel
theorem dX5_leastForIndex_24 : decode cX5_leastForIndex 24 = .ok (.aload 7, 2) := by decide +kernel
theorem dX5_leastForIndex_26 : decode cX5_leastForIndex 26 = .ok (.ifnull 69, 3) := by decide +kernel
theorem dX5_leastForIndex_29 : decode cX5_leastForIndex 29 = .ok (.aload_n 1, 1) := by decide +kernel
theorem dX5_leastForIndex_30 : decode cX5_leastForIndex 30 = .ok (.aload 7, 2) := by decide +kernel
theorem dX5_leastForIndex_32 : decode cX5_leastForIndex 32 = .ok (.iload 6, 2) := by decide +kernel
theorem dX5_leastForIndex_34 : decode cX5_leastForIndex 34 = .ok (.iload 4, 2) := by decide +kernel
theorem dX5_leastForIndex_36 : decode cX5_leastForIndex 36 = .ok (.invokestatic 282, 3) := by decide +kernel
theorem dX5_leastForIndex_39 : decode cX5_leastForIndex 39 = .ok (.ifCond .eq 56, 3) := by decide +kernel
theorem dX5_leastForIndex_42 : decode cX5_leastForIndex 42 = .ok (.aload_n 0, 1) := by decide +kernel
theorem dX5_leastForIndex_43 : decode cX5_leastForIndex 43 = .ok (.aload 7, 2) := by decide +kernel
theorem dX5_leastForIndex_45 : decode cX5_leastForIndex 45 = .ok (.getfield 113, 3) := by decide +kernel
theorem dX5_leastForIndex_48 : decode cX5_leastForIndex 48 = .ok (.aload_n 1, 1) := by decide +kernel
theorem dX5_leastForIndex_49 : decode cX5_leastForIndex 49 = .ok (.getfield 162, 3) := by decide +kernel
theorem dX5_leastForIndex_52 : decode cX5_leastForIndex 52 = .ok (.iload_n 3, 1) := by decide +kernel
theorem dX5_leastForIndex_53 : decode cX5_leastForIndex 53 = .ok (.invokevirtual 264, 3) := by decide +kernel
theorem dX5_leastForIndex_56 : decode cX5_leastForIndex 56 = .ok (.ifCond .eq 39, 3) := by decide +kernel
theorem dX5_leastForIndex_59 : decode cX5_leastForIndex 59 = .ok (.aload_n 0, 1) := by decide +kernel
theorem dX5_leastForIndex_60 : decode cX5_leastForIndex 60 = .ok (.getfield 12, 3) := by decide +kernel
theorem dX5_leastForIndex_63 : decode cX5_leastForIndex 63 = .ok (.aload 7, 2) := by decide +kernel
theorem dX5_leastForIndex_65 : decode cX5_leastForIndex 65 = .ok (.getfield 113, 3) := by decide +kernel
theorem dX5_leastForIndex_68 : decode cX5_leastForIndex 68 = .ok (.aload_n 0, 1) := by decide +kernel
theorem dX5_leastForIndex_69 : decode cX5_leastForIndex 69 = .ok (.getfield 39, 3) := by decide +kernel
theorem dX5_leastForIndex_72 : decode cX5_leastForIndex 72 = .ok (.getfield 195, 3) := by decide +kernel
theorem dX5_leastForIndex_75 : decode cX5_leastForIndex 75 = .ok (.iload_n 2, 1) := by decide +kernel
theorem dX5_leastForIndex_76 : decode cX5_leastForIndex 76 = .ok (.invokevirtual 286, 3) := by decide +kernel
theorem dX5_leastForIndex_79 : decode cX5_leastForIndex 79 = .ok (.ifCond .eq 16, 3) := by decide +kernel
theorem dX5_leastForIndex_82 : decode cX5_leastForIndex 82 = .ok (.iload 5, 2) := by decide +kernel
theorem dX5_leastForIndex_84 : decode cX5_leastForIndex 84 = .ok (.aload_n 1, 1) := by decide +kernel
theorem dX5_leastForIndex_85 : decode cX5_leastForIndex 85 = .ok (.iload 6, 2) := by decide +kernel
theorem dX5_leastForIndex_87 : decode cX5_leastForIndex 87 = .ok (.invokevirtual 155, 3) := by decide +kernel
theorem dX5_leastForIndex_90 : decode cX5_leastForIndex 90 = .ok (.invokestatic 289, 3) := by decide +kernel
theorem dX5_leastForIndex_93 : decode cX5_leastForIndex 93 = .ok (.istore 5, 2) := by decide +kernel
theorem dX5_leastForIndex_95 : decode cX5_leastForIndex 95 = .ok (.iinc 6 1, 3) := by decide +kernel
theorem dX5_leastForIndex_98 : decode cX5_leastForIndex 98 = .ok (.goto (-91), 3) := by decide +kernel
theorem dX5_leastForIndex_101 : decode cX5_leastForIndex 101 = .ok (.iload 5, 2) := by decide +kernel
theorem dX5_leastForIndex_103 : decode cX5_leastForIndex 103 = .ok (.ireturn, 1) := by decide +kernel
set_option maxRecDepth 20000 in
theorem ggX5_leastForFile_X5_mirrorAt : GoodIn wsX5_leastForFile wsX5_mirrorAt := goodIn_r _ [10, 1, 11, 12, 13, 9, 14, 33, 34, 35, 36, 37, 38, 39, 40] (by decide +kernel) (by decide +kernel)
set_option maxRecDepth 20000 in
theorem gX5_leastForFile_X5_mirrorAt : GoodIn wsX5_leastForFile (wsV RX5 96 RX5 yX5_mirrorAt wsX5_mirrorAt) := goodIn_app (goodIn_of _ (by decide +kernel)) ggX5_leastForFile_X5_mirrorAt
set_option maxRecDepth 20000 in
theorem ggX5_leastForFile_X5_wouldAnswer : GoodIn wsX5_leastForFile wsX5_wouldAnswer := goodIn_r _ [17, 18, 19, 20, 21, 22, 13, 9, 14, 23, 24, 25, 12, 41, 42, 43, 44, 45, 46, 47, 48, 49, 50, 51, 52, 53, 54, 55, 56] (by decide +kernel) (by decide +kernel)
set_option maxRecDepth 20000 in
theorem gX5_leastForFile_X5_wouldAnswer : GoodIn wsX5_leastForFile (va_wsS RX5 282 yX5_wouldAnswer wsX5_wouldAnswer) := goodIn_app (goodIn_of _ (by decide +kernel)) ggX5_leastForFile_X5_wouldAnswer
set_option maxRecDepth 20000 in
theorem ggX5_leastForFile_X3_holds : GoodIn wsX5_leastForFile wsX3_holds := goodIn_r _ [29, 30, 31, 9, 32, 12, 13, 14, 41, 42, 43, 44, 45, 46, 47, 48, 49, 50] (by decide +kernel) (by decide +kernel)
set_option maxRecDepth 20000 in
theorem gX5_leastForFile_X3_holds_n148 : GoodIn wsX5_leastForFile (wsX3_holds) := ggX5_leastForFile_X3_holds
set_option maxRecDepth 20000 in
theorem ggX5_leastForFile_X0_costOf : GoodIn wsX5_leastForFile wsX0_costOf := goodIn_r _ [21, 22, 13, 9, 14, 51, 52, 53, 54, 55, 56] (by decide +kernel) (by decide +kernel)
set_option maxRecDepth 20000 in
theorem gX5_leastForFile_X0_costOf_n155 : GoodIn wsX5_leastForFile (wsX0_costOf) := ggX5_leastForFile_X0_costOf
theorem dX5_leastForFile_0 : decode cX5_leastForFile 0 = .ok (.bipush 100, 2) := by decide +kernel
theorem dX5_leastForFile_2 : decode cX5_leastForFile 2 = .ok (.istore 4, 2) := by decide +kernel
theorem dX5_leastForFile_4 : decode cX5_leastForFile 4 = .ok (.iconst 0, 1) := by decide +kernel
theorem dX5_leastForFile_5 : decode cX5_leastForFile 5 = .ok (.istore 5, 2) := by decide +kernel
theorem dX5_leastForFile_7 : decode cX5_leastForFile 7 = .ok (.iload 5, 2) := by decide +kernel
theorem dX5_leastForFile_9 : decode cX5_leastForFile 9 = .ok (.aload_n 0, 1) := by decide +kernel
theorem dX5_leastForFile_10 : decode cX5_leastForFile 10 = .ok (.getfield 90, 3) := by decide +kernel
theorem dX5_leastForFile_13 : decode cX5_leastForFile 13 = .ok (.if_icmp .ge 56, 3) := by decide +kernel
theorem dX5_leastForFile_16 : decode cX5_leastForFile 16 = .ok (.aload_n 0, 1) := by decide +kernel
theorem dX5_leastForFile_17 : decode cX5_leastForFile 17 = .ok (.iload 5, 2) := by decide +kernel
theorem dX5_leastForFile_19 : decode cX5_leastForFile 19 = .ok (.invokevirtual 96, 3) := by decide +kernel
theorem dX5_leastForFile_22 : decode cX5_leastForFile 22 = .ok (.astore 6, 2) := by decide +kernel
theorem dX5_leastForFile_24 : decode cX5_leastForFile 24 = .ok (.aload 6, 2) := by decide +kernel
theorem dX5_leastForFile_26 : decode cX5_leastForFile 26 = .ok (.ifnull 37, 3) := by decide +kernel
theorem dX5_leastForFile_29 : decode cX5_leastForFile 29 = .ok (.aload_n 1, 1) := by decide +kernel
theorem dX5_leastForFile_30 : decode cX5_leastForFile 30 = .ok (.aload 6, 2) := by decide +kernel
theorem dX5_leastForFile_32 : decode cX5_leastForFile 32 = .ok (.iload 5, 2) := by decide +kernel
theorem dX5_leastForFile_34 : decode cX5_leastForFile 34 = .ok (.iload_n 3, 1) := by decide +kernel
theorem dX5_leastForFile_35 : decode cX5_leastForFile 35 = .ok (.invokestatic 282, 3) := by decide +kernel
theorem dX5_leastForFile_38 : decode cX5_leastForFile 38 = .ok (.ifCond .eq 25, 3) := by decide +kernel
theorem dX5_leastForFile_41 : decode cX5_leastForFile 41 = .ok (.aload 6, 2) := by decide +kernel
theorem dX5_leastForFile_43 : decode cX5_leastForFile 43 = .ok (.iload_n 2, 1) := by decide +kernel
theorem dX5_leastForFile_44 : decode cX5_leastForFile 44 = .ok (.invokevirtual 148, 3) := by decide +kernel
theorem dX5_leastForFile_47 : decode cX5_leastForFile 47 = .ok (.ifCond .eq 16, 3) := by decide +kernel
theorem dX5_leastForFile_50 : decode cX5_leastForFile 50 = .ok (.iload 4, 2) := by decide +kernel
theorem dX5_leastForFile_52 : decode cX5_leastForFile 52 = .ok (.aload_n 1, 1) := by decide +kernel
theorem dX5_leastForFile_53 : decode cX5_leastForFile 53 = .ok (.iload 5, 2) := by decide +kernel
theorem dX5_leastForFile_55 : decode cX5_leastForFile 55 = .ok (.invokevirtual 155, 3) := by decide +kernel
theorem dX5_leastForFile_58 : decode cX5_leastForFile 58 = .ok (.invokestatic 289, 3) := by decide +kernel
theorem dX5_leastForFile_61 : decode cX5_leastForFile 61 = .ok (.istore 4, 2) := by decide +kernel
theorem dX5_leastForFile_63 : decode cX5_leastForFile 63 = .ok (.iinc 5 1, 3) := by decide +kernel
theorem dX5_leastForFile_66 : decode cX5_leastForFile 66 = .ok (.goto (-59), 3) := by decide +kernel
theorem dX5_leastForFile_69 : decode cX5_leastForFile 69 = .ok (.iload 4, 2) := by decide +kernel
theorem dX5_leastForFile_71 : decode cX5_leastForFile 71 = .ok (.ireturn, 1) := by decide +kernel
set_option maxRecDepth 20000 in
theorem ggX5_wouldAnswer_X0_costOf : GoodIn wsX5_wouldAnswer wsX0_costOf := goodIn_r _ [4, 5, 6, 7, 8, 23, 24, 25, 26, 27, 28] (by decide +kernel) (by decide +kernel)
set_option maxRecDepth 20000 in
theorem gX5_wouldAnswer_X0_costOf_n155 : GoodIn wsX5_wouldAnswer (wsX0_costOf) := ggX5_wouldAnswer_X0_costOf
set_option maxRecDepth 20000 in
theorem ggX5_wouldAnswer_X5_isIn : GoodIn wsX5_wouldAnswer wsX5_isIn := goodIn_r _ [11, 12, 6, 7, 8] (by decide +kernel) (by decide +kernel)
set_option maxRecDepth 20000 in
theorem gX5_wouldAnswer_X5_isIn : GoodIn wsX5_wouldAnswer (va_wsS RX5 137 yX5_isIn wsX5_isIn) := goodIn_app (goodIn_of _ (by decide +kernel)) ggX5_wouldAnswer_X5_isIn
theorem dX5_wouldAnswer_0 : decode cX5_wouldAnswer 0 = .ok (.aload_n 0, 1) := by decide +kernel
theorem dX5_wouldAnswer_1 : decode cX5_wouldAnswer 1 = .ok (.iload_n 2, 1) := by decide +kernel
theorem dX5_wouldAnswer_2 : decode cX5_wouldAnswer 2 = .ok (.invokevirtual 155, 3) := by decide +kernel
theorem dX5_wouldAnswer_5 : decode cX5_wouldAnswer 5 = .ok (.iconst (-1), 1) := by decide +kernel
theorem dX5_wouldAnswer_6 : decode cX5_wouldAnswer 6 = .ok (.if_icmp .eq 22, 3) := by decide +kernel
theorem dX5_wouldAnswer_9 : decode cX5_wouldAnswer 9 = .ok (.iload_n 3, 1) := by decide +kernel
theorem dX5_wouldAnswer_10 : decode cX5_wouldAnswer 10 = .ok (.iload_n 2, 1) := by decide +kernel
theorem dX5_wouldAnswer_11 : decode cX5_wouldAnswer 11 = .ok (.invokestatic 137, 3) := by decide +kernel
theorem dX5_wouldAnswer_14 : decode cX5_wouldAnswer 14 = .ok (.ifCond .ne 14, 3) := by decide +kernel
theorem dX5_wouldAnswer_17 : decode cX5_wouldAnswer 17 = .ok (.aload_n 1, 1) := by decide +kernel
theorem dX5_wouldAnswer_18 : decode cX5_wouldAnswer 18 = .ok (.getfield 106, 3) := by decide +kernel
theorem dX5_wouldAnswer_21 : decode cX5_wouldAnswer 21 = .ok (.ifCond .ne 7, 3) := by decide +kernel
theorem dX5_wouldAnswer_24 : decode cX5_wouldAnswer 24 = .ok (.iconst 1, 1) := by decide +kernel
theorem dX5_wouldAnswer_25 : decode cX5_wouldAnswer 25 = .ok (.goto 4, 3) := by decide +kernel
theorem dX5_wouldAnswer_28 : decode cX5_wouldAnswer 28 = .ok (.iconst 0, 1) := by decide +kernel
theorem dX5_wouldAnswer_29 : decode cX5_wouldAnswer 29 = .ok (.ireturn, 1) := by decide +kernel
end
section
theorem dX6_init_0 : decode cX6_init 0 = .ok (.aload_n 0, 1) := by decide +kernel
theorem dX6_init_1 : decode cX6_init 1 = .ok (.invokespecial 1, 3) := by decide +kernel
theorem dX6_init_4 : decode cX6_init 4 = .ok (.aload_n 0, 1) := by decide +kernel
theorem dX6_init_5 : decode cX6_init 5 = .ok (.bipush 60, 2) := by decide +kernel
theorem dX6_init_7 : decode cX6_init 7 = .ok (.newarray .int, 2) := by decide +kernel
theorem dX6_init_9 : decode cX6_init 9 = .ok (.putfield 7, 3) := by decide +kernel
theorem dX6_init_12 : decode cX6_init 12 = .ok (.aload_n 0, 1) := by decide +kernel
theorem dX6_init_13 : decode cX6_init 13 = .ok (.bipush 60, 2) := by decide +kernel
theorem dX6_init_15 : decode cX6_init 15 = .ok (.newarray .int, 2) := by decide +kernel
theorem dX6_init_17 : decode cX6_init 17 = .ok (.putfield 13, 3) := by decide +kernel
theorem dX6_init_20 : decode cX6_init 20 = .ok (.aload_n 0, 1) := by decide +kernel
theorem dX6_init_21 : decode cX6_init 21 = .ok (.iconst 1, 1) := by decide +kernel
theorem dX6_init_22 : decode cX6_init 22 = .ok (.putfield 16, 3) := by decide +kernel
theorem dX6_init_25 : decode cX6_init 25 = .ok (.aload_n 0, 1) := by decide +kernel
theorem dX6_init_26 : decode cX6_init 26 = .ok (.bipush 60, 2) := by decide +kernel
theorem dX6_init_28 : decode cX6_init 28 = .ok (.newarray .int, 2) := by decide +kernel
theorem dX6_init_30 : decode cX6_init 30 = .ok (.putfield 20, 3) := by decide +kernel
theorem dX6_init_33 : decode cX6_init 33 = .ok (.aload_n 0, 1) := by decide +kernel
theorem dX6_init_34 : decode cX6_init 34 = .ok (.sipush 720, 3) := by decide +kernel
theorem dX6_init_37 : decode cX6_init 37 = .ok (.newarray .int, 2) := by decide +kernel
theorem dX6_init_39 : decode cX6_init 39 = .ok (.putfield 23, 3) := by decide +kernel
theorem dX6_init_42 : decode cX6_init 42 = .ok (.aload_n 0, 1) := by decide +kernel
theorem dX6_init_43 : decode cX6_init 43 = .ok (.bipush 8, 2) := by decide +kernel
theorem dX6_init_45 : decode cX6_init 45 = .ok (.newarray .int, 2) := by decide +kernel
theorem dX6_init_47 : decode cX6_init 47 = .ok (.putfield 26, 3) := by decide +kernel
theorem dX6_init_50 : decode cX6_init 50 = .ok (.aload_n 0, 1) := by decide +kernel
theorem dX6_init_51 : decode cX6_init 51 = .ok (.bipush 8, 2) := by decide +kernel
theorem dX6_init_53 : decode cX6_init 53 = .ok (.newarray .int, 2) := by decide +kernel
theorem dX6_init_55 : decode cX6_init 55 = .ok (.putfield 29, 3) := by decide +kernel
theorem dX6_init_58 : decode cX6_init 58 = .ok (.aload_n 0, 1) := by decide +kernel
theorem dX6_init_59 : decode cX6_init 59 = .ok (.bipush 8, 2) := by decide +kernel
theorem dX6_init_61 : decode cX6_init 61 = .ok (.newarray .int, 2) := by decide +kernel
theorem dX6_init_63 : decode cX6_init 63 = .ok (.putfield 32, 3) := by decide +kernel
theorem dX6_init_66 : decode cX6_init 66 = .ok (.aload_n 0, 1) := by decide +kernel
theorem dX6_init_67 : decode cX6_init 67 = .ok (.bipush 8, 2) := by decide +kernel
theorem dX6_init_69 : decode cX6_init 69 = .ok (.newarray .int, 2) := by decide +kernel
theorem dX6_init_71 : decode cX6_init 71 = .ok (.putfield 35, 3) := by decide +kernel
theorem dX6_init_74 : decode cX6_init 74 = .ok (.aload_n 0, 1) := by decide +kernel
theorem dX6_init_75 : decode cX6_init 75 = .ok (.bipush 8, 2) := by decide +kernel
theorem dX6_init_77 : decode cX6_init 77 = .ok (.newarray .int, 2) := by decide +kernel
theorem dX6_init_79 : decode cX6_init 79 = .ok (.putfield 38, 3) := by decide +kernel
theorem dX6_init_82 : decode cX6_init 82 = .ok (.aload_n 0, 1) := by decide +kernel
theorem dX6_init_83 : decode cX6_init 83 = .ok (.bipush 8, 2) := by decide +kernel
theorem dX6_init_85 : decode cX6_init 85 = .ok (.newarray .int, 2) := by decide +kernel
theorem dX6_init_87 : decode cX6_init 87 = .ok (.putfield 41, 3) := by decide +kernel
theorem dX6_init_90 : decode cX6_init 90 = .ok (.aload_n 0, 1) := by decide +kernel
theorem dX6_init_91 : decode cX6_init 91 = .ok (.bipush 8, 2) := by decide +kernel
theorem dX6_init_93 : decode cX6_init 93 = .ok (.newarray .int, 2) := by decide +kernel
theorem dX6_init_95 : decode cX6_init 95 = .ok (.putfield 44, 3) := by decide +kernel
theorem dX6_init_98 : decode cX6_init 98 = .ok (.aload_n 0, 1) := by decide +kernel
theorem dX6_init_99 : decode cX6_init 99 = .ok (.bipush 8, 2) := by decide +kernel
theorem dX6_init_101 : decode cX6_init 101 = .ok (.newarray .boolean, 2) := by decide +kernel
theorem dX6_init_103 : decode cX6_init 103 = .ok (.putfield 47, 3) := by decide +kernel
theorem dX6_init_106 : decode cX6_init 106 = .ok (.aload_n 0, 1) := by decide +kernel
theorem dX6_init_107 : decode cX6_init 107 = .ok (.sipush 480, 3) := by decide +kernel
theorem dX6_init_110 : decode cX6_init 110 = .ok (.newarray .boolean, 2) := by decide +kernel
theorem dX6_init_112 : decode cX6_init 112 = .ok (.putfield 51, 3) := by decide +kernel
theorem dX6_init_115 : decode cX6_init 115 = .ok (.aload_n 0, 1) := by decide +kernel
theorem dX6_init_116 : decode cX6_init 116 = .ok (.bipush 24, 2) := by decide +kernel
theorem dX6_init_118 : decode cX6_init 118 = .ok (.newarray .int, 2) := by decide +kernel
theorem dX6_init_120 : decode cX6_init 120 = .ok (.putfield 54, 3) := by decide +kernel
theorem dX6_init_123 : decode cX6_init 123 = .ok (.aload_n 0, 1) := by decide +kernel
theorem dX6_init_124 : decode cX6_init 124 = .ok (.bipush 8, 2) := by decide +kernel
theorem dX6_init_126 : decode cX6_init 126 = .ok (.newarray .int, 2) := by decide +kernel
theorem dX6_init_128 : decode cX6_init 128 = .ok (.putfield 57, 3) := by decide +kernel
theorem dX6_init_131 : decode cX6_init 131 = .ok (.aload_n 0, 1) := by decide +kernel
theorem dX6_init_132 : decode cX6_init 132 = .ok (.bipush 40, 2) := by decide +kernel
theorem dX6_init_134 : decode cX6_init 134 = .ok (.newarray .int, 2) := by decide +kernel
theorem dX6_init_136 : decode cX6_init 136 = .ok (.putfield 60, 3) := by decide +kernel
theorem dX6_init_139 : decode cX6_init 139 = .ok (.aload_n 0, 1) := by decide +kernel
theorem dX6_init_140 : decode cX6_init 140 = .ok (.bipush 40, 2) := by decide +kernel
theorem dX6_init_142 : decode cX6_init 142 = .ok (.newarray .int, 2) := by decide +kernel
theorem dX6_init_144 : decode cX6_init 144 = .ok (.putfield 63, 3) := by decide +kernel
theorem dX6_init_147 : decode cX6_init 147 = .ok (.aload_n 0, 1) := by decide +kernel
theorem dX6_init_148 : decode cX6_init 148 = .ok (.bipush 40, 2) := by decide +kernel
theorem dX6_init_150 : decode cX6_init 150 = .ok (.newarray .int, 2) := by decide +kernel
theorem dX6_init_152 : decode cX6_init 152 = .ok (.putfield 66, 3) := by decide +kernel
theorem dX6_init_155 : decode cX6_init 155 = .ok (.aload_n 0, 1) := by decide +kernel
theorem dX6_init_156 : decode cX6_init 156 = .ok (.sipush 9999, 3) := by decide +kernel
theorem dX6_init_159 : decode cX6_init 159 = .ok (.putfield 69, 3) := by decide +kernel
theorem dX6_init_162 : decode cX6_init 162 = .ok (.aload_n 0, 1) := by decide +kernel
theorem dX6_init_163 : decode cX6_init 163 = .ok (.bipush 48, 2) := by decide +kernel
theorem dX6_init_165 : decode cX6_init 165 = .ok (.newarray .int, 2) := by decide +kernel
theorem dX6_init_167 : decode cX6_init 167 = .ok (.putfield 72, 3) := by decide +kernel
theorem dX6_init_170 : decode cX6_init 170 = .ok (.aload_n 0, 1) := by decide +kernel
theorem dX6_init_171 : decode cX6_init 171 = .ok (.bipush 6, 2) := by decide +kernel
theorem dX6_init_173 : decode cX6_init 173 = .ok (.newarray .int, 2) := by decide +kernel
theorem dX6_init_175 : decode cX6_init 175 = .ok (.putfield 75, 3) := by decide +kernel
theorem dX6_init_178 : decode cX6_init 178 = .ok (.aload_n 0, 1) := by decide +kernel
theorem dX6_init_179 : decode cX6_init 179 = .ok (.bipush 6, 2) := by decide +kernel
theorem dX6_init_181 : decode cX6_init 181 = .ok (.newarray .int, 2) := by decide +kernel
theorem dX6_init_183 : decode cX6_init 183 = .ok (.putfield 78, 3) := by decide +kernel
theorem dX6_init_186 : decode cX6_init 186 = .ok (.aload_n 0, 1) := by decide +kernel
theorem dX6_init_187 : decode cX6_init 187 = .ok (.bipush 6, 2) := by decide +kernel
theorem dX6_init_189 : decode cX6_init 189 = .ok (.newarray .int, 2) := by decide +kernel
theorem dX6_init_191 : decode cX6_init 191 = .ok (.putfield 81, 3) := by decide +kernel
theorem dX6_init_194 : decode cX6_init 194 = .ok (.aload_n 0, 1) := by decide +kernel
theorem dX6_init_195 : decode cX6_init 195 = .ok (.bipush 8, 2) := by decide +kernel
theorem dX6_init_197 : decode cX6_init 197 = .ok (.newarray .int, 2) := by decide +kernel
theorem dX6_init_199 : decode cX6_init 199 = .ok (.putfield 84, 3) := by decide +kernel
theorem dX6_init_202 : decode cX6_init 202 = .ok (.aload_n 0, 1) := by decide +kernel
theorem dX6_init_203 : decode cX6_init 203 = .ok (.bipush 12, 2) := by decide +kernel
theorem dX6_init_205 : decode cX6_init 205 = .ok (.newarray .int, 2) := by decide +kernel
theorem dX6_init_207 : decode cX6_init 207 = .ok (.putfield 87, 3) := by decide +kernel
theorem dX6_init_210 : decode cX6_init 210 = .ok (.aload_n 0, 1) := by decide +kernel
theorem dX6_init_211 : decode cX6_init 211 = .ok (.bipush 12, 2) := by decide +kernel
theorem dX6_init_213 : decode cX6_init 213 = .ok (.newarray .int, 2) := by decide +kernel
theorem dX6_init_215 : decode cX6_init 215 = .ok (.putfield 90, 3) := by decide +kernel
theorem dX6_init_218 : decode cX6_init 218 = .ok (.aload_n 0, 1) := by decide +kernel
theorem dX6_init_219 : decode cX6_init 219 = .ok (.bipush 12, 2) := by decide +kernel
theorem dX6_init_221 : decode cX6_init 221 = .ok (.newarray .int, 2) := by decide +kernel
theorem dX6_init_223 : decode cX6_init 223 = .ok (.putfield 93, 3) := by decide +kernel
theorem dX6_init_226 : decode cX6_init 226 = .ok (.iconst 0, 1) := by decide +kernel
theorem dX6_init_227 : decode cX6_init 227 = .ok (.istore_n 1, 1) := by decide +kernel
theorem dX6_init_228 : decode cX6_init 228 = .ok (.iload_n 1, 1) := by decide +kernel
theorem dX6_init_229 : decode cX6_init 229 = .ok (.bipush 12, 2) := by decide +kernel
theorem dX6_init_231 : decode cX6_init 231 = .ok (.if_icmp .ge 16, 3) := by decide +kernel
theorem dX6_init_234 : decode cX6_init 234 = .ok (.aload_n 0, 1) := by decide +kernel
theorem dX6_init_235 : decode cX6_init 235 = .ok (.getfield 23, 3) := by decide +kernel
theorem dX6_init_238 : decode cX6_init 238 = .ok (.iload_n 1, 1) := by decide +kernel
theorem dX6_init_239 : decode cX6_init 239 = .ok (.iconst (-1), 1) := by decide +kernel
theorem dX6_init_240 : decode cX6_init 240 = .ok (.iastore, 1) := by decide +kernel
theorem dX6_init_241 : decode cX6_init 241 = .ok (.iinc 1 1, 3) := by decide +kernel
theorem dX6_init_244 : decode cX6_init 244 = .ok (.goto (-16), 3) := by decide +kernel
theorem dX6_init_247 : decode cX6_init 247 = .ok (.iconst 0, 1) := by decide +kernel
theorem dX6_init_248 : decode cX6_init 248 = .ok (.istore_n 1, 1) := by decide +kernel
theorem dX6_init_249 : decode cX6_init 249 = .ok (.iload_n 1, 1) := by decide +kernel
theorem dX6_init_250 : decode cX6_init 250 = .ok (.bipush 48, 2) := by decide +kernel
theorem dX6_init_252 : decode cX6_init 252 = .ok (.if_icmp .ge 16, 3) := by decide +kernel
theorem dX6_init_255 : decode cX6_init 255 = .ok (.aload_n 0, 1) := by decide +kernel
theorem dX6_init_256 : decode cX6_init 256 = .ok (.getfield 72, 3) := by decide +kernel
theorem dX6_init_259 : decode cX6_init 259 = .ok (.iload_n 1, 1) := by decide +kernel
theorem dX6_init_260 : decode cX6_init 260 = .ok (.iconst (-1), 1) := by decide +kernel
theorem dX6_init_261 : decode cX6_init 261 = .ok (.iastore, 1) := by decide +kernel
theorem dX6_init_262 : decode cX6_init 262 = .ok (.iinc 1 1, 3) := by decide +kernel
theorem dX6_init_265 : decode cX6_init 265 = .ok (.goto (-16), 3) := by decide +kernel
theorem dX6_init_268 : decode cX6_init 268 = .ok (.iconst 0, 1) := by decide +kernel
theorem dX6_init_269 : decode cX6_init 269 = .ok (.istore_n 1, 1) := by decide +kernel
theorem dX6_init_270 : decode cX6_init 270 = .ok (.iload_n 1, 1) := by decide +kernel
theorem dX6_init_271 : decode cX6_init 271 = .ok (.bipush 6, 2) := by decide +kernel
theorem dX6_init_273 : decode cX6_init 273 = .ok (.if_icmp .ge 25, 3) := by decide +kernel
theorem dX6_init_276 : decode cX6_init 276 = .ok (.aload_n 0, 1) := by decide +kernel
theorem dX6_init_277 : decode cX6_init 277 = .ok (.getfield 75, 3) := by decide +kernel
theorem dX6_init_280 : decode cX6_init 280 = .ok (.iload_n 1, 1) := by decide +kernel
theorem dX6_init_281 : decode cX6_init 281 = .ok (.sipush 9999, 3) := by decide +kernel
theorem dX6_init_284 : decode cX6_init 284 = .ok (.iastore, 1) := by decide +kernel
theorem dX6_init_285 : decode cX6_init 285 = .ok (.aload_n 0, 1) := by decide +kernel
theorem dX6_init_286 : decode cX6_init 286 = .ok (.getfield 78, 3) := by decide +kernel
theorem dX6_init_289 : decode cX6_init 289 = .ok (.iload_n 1, 1) := by decide +kernel
theorem dX6_init_290 : decode cX6_init 290 = .ok (.iconst (-1), 1) := by decide +kernel
theorem dX6_init_291 : decode cX6_init 291 = .ok (.iastore, 1) := by decide +kernel
theorem dX6_init_292 : decode cX6_init 292 = .ok (.iinc 1 1, 3) := by decide +kernel
theorem dX6_init_295 : decode cX6_init 295 = .ok (.goto (-25), 3) := by decide +kernel
theorem dX6_init_298 : decode cX6_init 298 = .ok (.return_, 1) := by decide +kernel
theorem dX6_in_0 : decode cX6_in 0 = .ok (.iload_n 0, 1) := by decide +kernel
theorem dX6_in_1 : decode cX6_in 1 = .ok (.iload_n 1, 1) := by decide +kernel
theorem dX6_in_2 : decode cX6_in 2 = .ok (.if_icmp .lt 12, 3) := by decide +kernel
theorem dX6_in_5 : decode cX6_in 5 = .ok (.iload_n 0, 1) := by decide +kernel
theorem dX6_in_6 : decode cX6_in 6 = .ok (.iload_n 2, 1) := by decide +kernel
theorem dX6_in_7 : decode cX6_in 7 = .ok (.if_icmp .gt 7, 3) := by decide +kernel
theorem dX6_in_10 : decode cX6_in 10 = .ok (.iconst 1, 1) := by decide +kernel
theorem dX6_in_11 : decode cX6_in 11 = .ok (.goto 4, 3) := by decide +kernel
theorem dX6_in_14 : decode cX6_in 14 = .ok (.iconst 0, 1) := by decide +kernel
theorem dX6_in_15 : decode cX6_in 15 = .ok (.ireturn, 1) := by decide +kernel
set_option maxRecDepth 20000 in
theorem ggX6_file_X6_in : GoodIn wsX6_file wsX6_in := goodIn_r _ [7] (by decide +kernel) (by decide +kernel)
set_option maxRecDepth 20000 in
theorem gX6_file_X6_in : GoodIn wsX6_file (va_wsS RX6 99 yX6_in wsX6_in) := goodIn_app (goodIn_of _ (by decide +kernel)) ggX6_file_X6_in
theorem dX6_file_0 : decode cX6_file 0 = .ok (.aload_n 0, 1) := by decide +kernel
theorem dX6_file_1 : decode cX6_file 1 = .ok (.getfield 96, 3) := by decide +kernel
theorem dX6_file_4 : decode cX6_file 4 = .ok (.bipush 60, 2) := by decide +kernel
theorem dX6_file_6 : decode cX6_file 6 = .ok (.if_icmp .eq 14, 3) := by decide +kernel
theorem dX6_file_9 : decode cX6_file 9 = .ok (.iload_n 1, 1) := by decide +kernel
theorem dX6_file_10 : decode cX6_file 10 = .ok (.iconst 1, 1) := by decide +kernel
theorem dX6_file_11 : decode cX6_file 11 = .ok (.sipush 500, 3) := by decide +kernel
theorem dX6_file_14 : decode cX6_file 14 = .ok (.invokestatic 99, 3) := by decide +kernel
theorem dX6_file_17 : decode cX6_file 17 = .ok (.ifCond .ne 5, 3) := by decide +kernel
theorem dX6_file_20 : decode cX6_file 20 = .ok (.iconst (-1), 1) := by decide +kernel
theorem dX6_file_21 : decode cX6_file 21 = .ok (.ireturn, 1) := by decide +kernel
theorem dX6_file_22 : decode cX6_file 22 = .ok (.aload_n 0, 1) := by decide +kernel
theorem dX6_file_23 : decode cX6_file 23 = .ok (.getfield 7, 3) := by decide +kernel
theorem dX6_file_26 : decode cX6_file 26 = .ok (.aload_n 0, 1) := by decide +kernel
theorem dX6_file_27 : decode cX6_file 27 = .ok (.getfield 96, 3) := by decide +kernel
theorem dX6_file_30 : decode cX6_file 30 = .ok (.iload_n 1, 1) := by decide +kernel
theorem dX6_file_31 : decode cX6_file 31 = .ok (.iastore, 1) := by decide +kernel
theorem dX6_file_32 : decode cX6_file 32 = .ok (.aload_n 0, 1) := by decide +kernel
theorem dX6_file_33 : decode cX6_file 33 = .ok (.getfield 13, 3) := by decide +kernel
theorem dX6_file_36 : decode cX6_file 36 = .ok (.aload_n 0, 1) := by decide +kernel
theorem dX6_file_37 : decode cX6_file 37 = .ok (.getfield 96, 3) := by decide +kernel
theorem dX6_file_40 : decode cX6_file 40 = .ok (.iconst (-1), 1) := by decide +kernel
theorem dX6_file_41 : decode cX6_file 41 = .ok (.iastore, 1) := by decide +kernel
theorem dX6_file_42 : decode cX6_file 42 = .ok (.aload_n 0, 1) := by decide +kernel
theorem dX6_file_43 : decode cX6_file 43 = .ok (.dup, 1) := by decide +kernel
theorem dX6_file_44 : decode cX6_file 44 = .ok (.getfield 96, 3) := by decide +kernel
theorem dX6_file_47 : decode cX6_file 47 = .ok (.iconst 1, 1) := by decide +kernel
theorem dX6_file_48 : decode cX6_file 48 = .ok (.iadd, 1) := by decide +kernel
theorem dX6_file_49 : decode cX6_file 49 = .ok (.putfield 96, 3) := by decide +kernel
theorem dX6_file_52 : decode cX6_file 52 = .ok (.aload_n 0, 1) := by decide +kernel
theorem dX6_file_53 : decode cX6_file 53 = .ok (.getfield 96, 3) := by decide +kernel
theorem dX6_file_56 : decode cX6_file 56 = .ok (.iconst 1, 1) := by decide +kernel
theorem dX6_file_57 : decode cX6_file 57 = .ok (.isub, 1) := by decide +kernel
theorem dX6_file_58 : decode cX6_file 58 = .ok (.ireturn, 1) := by decide +kernel
set_option maxRecDepth 20000 in
theorem ggX6_isFile_X6_in : GoodIn wsX6_isFile wsX6_in := goodIn_r _ [5] (by decide +kernel) (by decide +kernel)
set_option maxRecDepth 20000 in
theorem gX6_isFile_X6_in : GoodIn wsX6_isFile (va_wsS RX6 99 yX6_in wsX6_in) := goodIn_app (goodIn_of _ (by decide +kernel)) ggX6_isFile_X6_in
theorem dX6_isFile_0 : decode cX6_isFile 0 = .ok (.iload_n 1, 1) := by decide +kernel
theorem dX6_isFile_1 : decode cX6_isFile 1 = .ok (.iconst 0, 1) := by decide +kernel
theorem dX6_isFile_2 : decode cX6_isFile 2 = .ok (.aload_n 0, 1) := by decide +kernel
theorem dX6_isFile_3 : decode cX6_isFile 3 = .ok (.getfield 96, 3) := by decide +kernel
theorem dX6_isFile_6 : decode cX6_isFile 6 = .ok (.iconst 1, 1) := by decide +kernel
theorem dX6_isFile_7 : decode cX6_isFile 7 = .ok (.isub, 1) := by decide +kernel
theorem dX6_isFile_8 : decode cX6_isFile 8 = .ok (.invokestatic 99, 3) := by decide +kernel
theorem dX6_isFile_11 : decode cX6_isFile 11 = .ok (.ireturn, 1) := by decide +kernel
theorem dX6_comes_0 : decode cX6_comes 0 = .ok (.iconst 0, 1) := by decide +kernel
theorem dX6_comes_1 : decode cX6_comes 1 = .ok (.istore_n 1, 1) := by decide +kernel
theorem dX6_comes_2 : decode cX6_comes 2 = .ok (.iload_n 1, 1) := by decide +kernel
theorem dX6_comes_3 : decode cX6_comes 3 = .ok (.bipush 12, 2) := by decide +kernel
theorem dX6_comes_5 : decode cX6_comes 5 = .ok (.if_icmp .ge 39, 3) := by decide +kernel
theorem dX6_comes_8 : decode cX6_comes 8 = .ok (.aload_n 0, 1) := by decide +kernel
theorem dX6_comes_9 : decode cX6_comes 9 = .ok (.getfield 23, 3) := by decide +kernel
theorem dX6_comes_12 : decode cX6_comes 12 = .ok (.bipush 12, 2) := by decide +kernel
theorem dX6_comes_14 : decode cX6_comes 14 = .ok (.aload_n 0, 1) := by decide +kernel
theorem dX6_comes_15 : decode cX6_comes 15 = .ok (.getfield 16, 3) := by decide +kernel
theorem dX6_comes_18 : decode cX6_comes 18 = .ok (.imul, 1) := by decide +kernel
theorem dX6_comes_19 : decode cX6_comes 19 = .ok (.iload_n 1, 1) := by decide +kernel
theorem dX6_comes_20 : decode cX6_comes 20 = .ok (.iadd, 1) := by decide +kernel
theorem dX6_comes_21 : decode cX6_comes 21 = .ok (.aload_n 0, 1) := by decide +kernel
theorem dX6_comes_22 : decode cX6_comes 22 = .ok (.getfield 23, 3) := by decide +kernel
theorem dX6_comes_25 : decode cX6_comes 25 = .ok (.bipush 12, 2) := by decide +kernel
theorem dX6_comes_27 : decode cX6_comes 27 = .ok (.aload_n 0, 1) := by decide +kernel
theorem dX6_comes_28 : decode cX6_comes 28 = .ok (.getfield 16, 3) := by decide +kernel
theorem dX6_comes_31 : decode cX6_comes 31 = .ok (.iconst 1, 1) := by decide +kernel
theorem dX6_comes_32 : decode cX6_comes 32 = .ok (.isub, 1) := by decide +kernel
theorem dX6_comes_33 : decode cX6_comes 33 = .ok (.imul, 1) := by decide +kernel
theorem dX6_comes_34 : decode cX6_comes 34 = .ok (.iload_n 1, 1) := by decide +kernel
theorem dX6_comes_35 : decode cX6_comes 35 = .ok (.iadd, 1) := by decide +kernel
theorem dX6_comes_36 : decode cX6_comes 36 = .ok (.iaload, 1) := by decide +kernel
theorem dX6_comes_37 : decode cX6_comes 37 = .ok (.iastore, 1) := by decide +kernel
theorem dX6_comes_38 : decode cX6_comes 38 = .ok (.iinc 1 1, 3) := by decide +kernel
theorem dX6_comes_41 : decode cX6_comes 41 = .ok (.goto (-39), 3) := by decide +kernel
theorem dX6_comes_44 : decode cX6_comes 44 = .ok (.aload_n 0, 1) := by decide +kernel
theorem dX6_comes_45 : decode cX6_comes 45 = .ok (.getfield 20, 3) := by decide +kernel
theorem dX6_comes_48 : decode cX6_comes 48 = .ok (.aload_n 0, 1) := by decide +kernel
theorem dX6_comes_49 : decode cX6_comes 49 = .ok (.getfield 16, 3) := by decide +kernel
theorem dX6_comes_52 : decode cX6_comes 52 = .ok (.aload_n 0, 1) := by decide +kernel
theorem dX6_comes_53 : decode cX6_comes 53 = .ok (.getfield 103, 3) := by decide +kernel
theorem dX6_comes_56 : decode cX6_comes 56 = .ok (.iastore, 1) := by decide +kernel
theorem dX6_comes_57 : decode cX6_comes 57 = .ok (.aload_n 0, 1) := by decide +kernel
theorem dX6_comes_58 : decode cX6_comes 58 = .ok (.dup, 1) := by decide +kernel
theorem dX6_comes_59 : decode cX6_comes 59 = .ok (.getfield 16, 3) := by decide +kernel
theorem dX6_comes_62 : decode cX6_comes 62 = .ok (.iconst 1, 1) := by decide +kernel
theorem dX6_comes_63 : decode cX6_comes 63 = .ok (.iadd, 1) := by decide +kernel
theorem dX6_comes_64 : decode cX6_comes 64 = .ok (.putfield 16, 3) := by decide +kernel
theorem dX6_comes_67 : decode cX6_comes 67 = .ok (.return_, 1) := by decide +kernel
set_option maxRecDepth 20000 in
theorem ggX6_put_X6_in : GoodIn wsX6_put wsX6_in := goodIn_r _ [7] (by decide +kernel) (by decide +kernel)
set_option maxRecDepth 20000 in
theorem gX6_put_X6_in : GoodIn wsX6_put (va_wsS RX6 99 yX6_in wsX6_in) := goodIn_app (goodIn_of _ (by decide +kernel)) ggX6_put_X6_in
set_option maxRecDepth 20000 in
theorem ggX6_put_X6_isFile : GoodIn wsX6_put wsX6_isFile := goodIn_r _ [11, 12, 4, 5, 6, 7, 19, 20, 21, 22, 23, 24, 25, 26, 27, 28, 29, 30, 31, 32, 33, 34, 35, 36, 37, 38, 39, 40, 41, 42, 43, 44, 45, 46, 47, 48, 49, 50, 51, 52, 53, 54, 55, 56, 57, 58] (by decide +kernel) (by decide +kernel)
set_option maxRecDepth 20000 in
theorem gX6_put_X6_isFile : GoodIn wsX6_put (wsV RX6 106 RX6 yX6_isFile wsX6_isFile) := goodIn_app (goodIn_of _ (by decide +kernel)) ggX6_put_X6_isFile
set_option maxRecDepth 20000 in
theorem ggX6_put_X6_comes : GoodIn wsX6_put wsX6_comes := goodIn_r _ [16, 3, 1, 17, 18, 19, 20, 21, 22, 23, 24, 25, 26, 27, 28, 29, 30, 31, 32, 33, 34, 35, 36, 37, 38, 39, 40, 41, 42, 43, 44, 45, 46, 47, 48, 49, 50, 51, 52, 53, 54, 55, 56, 57, 58] (by decide +kernel) (by decide +kernel)
set_option maxRecDepth 20000 in
theorem gX6_put_X6_comes : GoodIn wsX6_put (wsV RX6 110 RX6 yX6_comes wsX6_comes) := goodIn_app (goodIn_of _ (by decide +kernel)) ggX6_put_X6_comes
theorem dX6_put_0 : decode cX6_put 0 = .ok (.aload_n 0, 1) := by decide +kernel
theorem dX6_put_1 : decode cX6_put 1 = .ok (.getfield 16, 3) := by decide +kernel
theorem dX6_put_4 : decode cX6_put 4 = .ok (.bipush 60, 2) := by decide +kernel
theorem dX6_put_6 : decode cX6_put 6 = .ok (.if_icmp .eq 51, 3) := by decide +kernel
theorem dX6_put_9 : decode cX6_put 9 = .ok (.iload_n 1, 1) := by decide +kernel
theorem dX6_put_10 : decode cX6_put 10 = .ok (.iconst 0, 1) := by decide +kernel
theorem dX6_put_11 : decode cX6_put 11 = .ok (.bipush 11, 2) := by decide +kernel
theorem dX6_put_13 : decode cX6_put 13 = .ok (.invokestatic 99, 3) := by decide +kernel
theorem dX6_put_16 : decode cX6_put 16 = .ok (.ifCond .eq 41, 3) := by decide +kernel
theorem dX6_put_19 : decode cX6_put 19 = .ok (.aload_n 0, 1) := by decide +kernel
theorem dX6_put_20 : decode cX6_put 20 = .ok (.iload_n 2, 1) := by decide +kernel
theorem dX6_put_21 : decode cX6_put 21 = .ok (.invokevirtual 106, 3) := by decide +kernel
theorem dX6_put_24 : decode cX6_put 24 = .ok (.ifCond .eq 33, 3) := by decide +kernel
theorem dX6_put_27 : decode cX6_put 27 = .ok (.aload_n 0, 1) := by decide +kernel
theorem dX6_put_28 : decode cX6_put 28 = .ok (.getfield 13, 3) := by decide +kernel
theorem dX6_put_31 : decode cX6_put 31 = .ok (.iload_n 2, 1) := by decide +kernel
theorem dX6_put_32 : decode cX6_put 32 = .ok (.iaload, 1) := by decide +kernel
theorem dX6_put_33 : decode cX6_put 33 = .ok (.iconst (-1), 1) := by decide +kernel
theorem dX6_put_34 : decode cX6_put 34 = .ok (.if_icmp .ne 23, 3) := by decide +kernel
theorem dX6_put_37 : decode cX6_put 37 = .ok (.aload_n 0, 1) := by decide +kernel
theorem dX6_put_38 : decode cX6_put 38 = .ok (.getfield 23, 3) := by decide +kernel
theorem dX6_put_41 : decode cX6_put 41 = .ok (.bipush 12, 2) := by decide +kernel
theorem dX6_put_43 : decode cX6_put 43 = .ok (.aload_n 0, 1) := by decide +kernel
theorem dX6_put_44 : decode cX6_put 44 = .ok (.getfield 16, 3) := by decide +kernel
theorem dX6_put_47 : decode cX6_put 47 = .ok (.iconst 1, 1) := by decide +kernel
theorem dX6_put_48 : decode cX6_put 48 = .ok (.isub, 1) := by decide +kernel
theorem dX6_put_49 : decode cX6_put 49 = .ok (.imul, 1) := by decide +kernel
theorem dX6_put_50 : decode cX6_put 50 = .ok (.iload_n 1, 1) := by decide +kernel
theorem dX6_put_51 : decode cX6_put 51 = .ok (.iadd, 1) := by decide +kernel
theorem dX6_put_52 : decode cX6_put 52 = .ok (.iaload, 1) := by decide +kernel
theorem dX6_put_53 : decode cX6_put 53 = .ok (.iload_n 2, 1) := by decide +kernel
theorem dX6_put_54 : decode cX6_put 54 = .ok (.if_icmp .ne 5, 3) := by decide +kernel
theorem dX6_put_57 : decode cX6_put 57 = .ok (.iconst (-1), 1) := by decide +kernel
theorem dX6_put_58 : decode cX6_put 58 = .ok (.ireturn, 1) := by decide +kernel
theorem dX6_put_59 : decode cX6_put 59 = .ok (.aload_n 0, 1) := by decide +kernel
theorem dX6_put_60 : decode cX6_put 60 = .ok (.invokevirtual 110, 3) := by decide +kernel
theorem dX6_put_63 : decode cX6_put 63 = .ok (.aload_n 0, 1) := by decide +kernel
theorem dX6_put_64 : decode cX6_put 64 = .ok (.getfield 23, 3) := by decide +kernel
theorem dX6_put_67 : decode cX6_put 67 = .ok (.bipush 12, 2) := by decide +kernel
theorem dX6_put_69 : decode cX6_put 69 = .ok (.aload_n 0, 1) := by decide +kernel
theorem dX6_put_70 : decode cX6_put 70 = .ok (.getfield 16, 3) := by decide +kernel
theorem dX6_put_73 : decode cX6_put 73 = .ok (.iconst 1, 1) := by decide +kernel
theorem dX6_put_74 : decode cX6_put 74 = .ok (.isub, 1) := by decide +kernel
theorem dX6_put_75 : decode cX6_put 75 = .ok (.imul, 1) := by decide +kernel
theorem dX6_put_76 : decode cX6_put 76 = .ok (.iload_n 1, 1) := by decide +kernel
theorem dX6_put_77 : decode cX6_put 77 = .ok (.iadd, 1) := by decide +kernel
theorem dX6_put_78 : decode cX6_put 78 = .ok (.iload_n 2, 1) := by decide +kernel
theorem dX6_put_79 : decode cX6_put 79 = .ok (.iastore, 1) := by decide +kernel
theorem dX6_put_80 : decode cX6_put 80 = .ok (.aload_n 0, 1) := by decide +kernel
theorem dX6_put_81 : decode cX6_put 81 = .ok (.getfield 16, 3) := by decide +kernel
theorem dX6_put_84 : decode cX6_put 84 = .ok (.iconst 1, 1) := by decide +kernel
theorem dX6_put_85 : decode cX6_put 85 = .ok (.isub, 1) := by decide +kernel
theorem dX6_put_86 : decode cX6_put 86 = .ok (.ireturn, 1) := by decide +kernel
set_option maxRecDepth 20000 in
theorem ggX6_yank_X6_isFile : GoodIn wsX6_yank wsX6_isFile := goodIn_r _ [9, 10, 11, 12, 8, 13, 19, 20, 21, 22, 23, 24, 25, 26, 27, 28, 29, 30, 31, 32, 33, 34, 35, 36, 37, 38, 39, 40, 41, 42, 43, 44, 45, 46, 47, 48, 49, 50, 51, 52, 53, 54, 55, 56, 57, 58] (by decide +kernel) (by decide +kernel)
set_option maxRecDepth 20000 in
theorem gX6_yank_X6_isFile : GoodIn wsX6_yank (wsV RX6 106 RX6 yX6_isFile wsX6_isFile) := goodIn_app (goodIn_of _ (by decide +kernel)) ggX6_yank_X6_isFile
set_option maxRecDepth 20000 in
theorem ggX6_yank_X6_comes : GoodIn wsX6_yank wsX6_comes := goodIn_r _ [17, 4, 1, 18, 3, 19, 20, 21, 22, 23, 24, 25, 26, 27, 28, 29, 30, 31, 32, 33, 34, 35, 36, 37, 38, 39, 40, 41, 42, 43, 44, 45, 46, 47, 48, 49, 50, 51, 52, 53, 54, 55, 56, 57, 58] (by decide +kernel) (by decide +kernel)
set_option maxRecDepth 20000 in
theorem gX6_yank_X6_comes : GoodIn wsX6_yank (wsV RX6 110 RX6 yX6_comes wsX6_comes) := goodIn_app (goodIn_of _ (by decide +kernel)) ggX6_yank_X6_comes
theorem dX6_yank_0 : decode cX6_yank 0 = .ok (.aload_n 0, 1) := by decide +kernel
theorem dX6_yank_1 : decode cX6_yank 1 = .ok (.getfield 16, 3) := by decide +kernel
theorem dX6_yank_4 : decode cX6_yank 4 = .ok (.bipush 60, 2) := by decide +kernel
theorem dX6_yank_6 : decode cX6_yank 6 = .ok (.if_icmp .eq 21, 3) := by decide +kernel
theorem dX6_yank_9 : decode cX6_yank 9 = .ok (.aload_n 0, 1) := by decide +kernel
theorem dX6_yank_10 : decode cX6_yank 10 = .ok (.iload_n 1, 1) := by decide +kernel
theorem dX6_yank_11 : decode cX6_yank 11 = .ok (.invokevirtual 106, 3) := by decide +kernel
theorem dX6_yank_14 : decode cX6_yank 14 = .ok (.ifCond .eq 13, 3) := by decide +kernel
theorem dX6_yank_17 : decode cX6_yank 17 = .ok (.aload_n 0, 1) := by decide +kernel
theorem dX6_yank_18 : decode cX6_yank 18 = .ok (.getfield 13, 3) := by decide +kernel
theorem dX6_yank_21 : decode cX6_yank 21 = .ok (.iload_n 1, 1) := by decide +kernel
theorem dX6_yank_22 : decode cX6_yank 22 = .ok (.iaload, 1) := by decide +kernel
theorem dX6_yank_23 : decode cX6_yank 23 = .ok (.iconst (-1), 1) := by decide +kernel
theorem dX6_yank_24 : decode cX6_yank 24 = .ok (.if_icmp .eq 5, 3) := by decide +kernel
theorem dX6_yank_27 : decode cX6_yank 27 = .ok (.iconst (-1), 1) := by decide +kernel
theorem dX6_yank_28 : decode cX6_yank 28 = .ok (.ireturn, 1) := by decide +kernel
theorem dX6_yank_29 : decode cX6_yank 29 = .ok (.aload_n 0, 1) := by decide +kernel
theorem dX6_yank_30 : decode cX6_yank 30 = .ok (.invokevirtual 110, 3) := by decide +kernel
theorem dX6_yank_33 : decode cX6_yank 33 = .ok (.aload_n 0, 1) := by decide +kernel
theorem dX6_yank_34 : decode cX6_yank 34 = .ok (.getfield 13, 3) := by decide +kernel
theorem dX6_yank_37 : decode cX6_yank 37 = .ok (.iload_n 1, 1) := by decide +kernel
theorem dX6_yank_38 : decode cX6_yank 38 = .ok (.aload_n 0, 1) := by decide +kernel
theorem dX6_yank_39 : decode cX6_yank 39 = .ok (.getfield 103, 3) := by decide +kernel
theorem dX6_yank_42 : decode cX6_yank 42 = .ok (.iastore, 1) := by decide +kernel
theorem dX6_yank_43 : decode cX6_yank 43 = .ok (.iconst 0, 1) := by decide +kernel
theorem dX6_yank_44 : decode cX6_yank 44 = .ok (.istore_n 2, 1) := by decide +kernel
theorem dX6_yank_45 : decode cX6_yank 45 = .ok (.iload_n 2, 1) := by decide +kernel
theorem dX6_yank_46 : decode cX6_yank 46 = .ok (.bipush 12, 2) := by decide +kernel
theorem dX6_yank_48 : decode cX6_yank 48 = .ok (.if_icmp .ge 46, 3) := by decide +kernel
theorem dX6_yank_51 : decode cX6_yank 51 = .ok (.aload_n 0, 1) := by decide +kernel
theorem dX6_yank_52 : decode cX6_yank 52 = .ok (.getfield 23, 3) := by decide +kernel
theorem dX6_yank_55 : decode cX6_yank 55 = .ok (.bipush 12, 2) := by decide +kernel
theorem dX6_yank_57 : decode cX6_yank 57 = .ok (.aload_n 0, 1) := by decide +kernel
theorem dX6_yank_58 : decode cX6_yank 58 = .ok (.getfield 16, 3) := by decide +kernel
theorem dX6_yank_61 : decode cX6_yank 61 = .ok (.iconst 1, 1) := by decide +kernel
theorem dX6_yank_62 : decode cX6_yank 62 = .ok (.isub, 1) := by decide +kernel
theorem dX6_yank_63 : decode cX6_yank 63 = .ok (.imul, 1) := by decide +kernel
theorem dX6_yank_64 : decode cX6_yank 64 = .ok (.iload_n 2, 1) := by decide +kernel
theorem dX6_yank_65 : decode cX6_yank 65 = .ok (.iadd, 1) := by decide +kernel
theorem dX6_yank_66 : decode cX6_yank 66 = .ok (.iaload, 1) := by decide +kernel
theorem dX6_yank_67 : decode cX6_yank 67 = .ok (.iload_n 1, 1) := by decide +kernel
theorem dX6_yank_68 : decode cX6_yank 68 = .ok (.if_icmp .ne 20, 3) := by decide +kernel
theorem dX6_yank_71 : decode cX6_yank 71 = .ok (.aload_n 0, 1) := by decide +kernel
theorem dX6_yank_72 : decode cX6_yank 72 = .ok (.getfield 23, 3) := by decide +kernel
theorem dX6_yank_75 : decode cX6_yank 75 = .ok (.bipush 12, 2) := by decide +kernel
theorem dX6_yank_77 : decode cX6_yank 77 = .ok (.aload_n 0, 1) := by decide +kernel
theorem dX6_yank_78 : decode cX6_yank 78 = .ok (.getfield 16, 3) := by decide +kernel
theorem dX6_yank_81 : decode cX6_yank 81 = .ok (.iconst 1, 1) := by decide +kernel
theorem dX6_yank_82 : decode cX6_yank 82 = .ok (.isub, 1) := by decide +kernel
theorem dX6_yank_83 : decode cX6_yank 83 = .ok (.imul, 1) := by decide +kernel
theorem dX6_yank_84 : decode cX6_yank 84 = .ok (.iload_n 2, 1) := by decide +kernel
theorem dX6_yank_85 : decode cX6_yank 85 = .ok (.iadd, 1) := by decide +kernel
theorem dX6_yank_86 : decode cX6_yank 86 = .ok (.iconst (-1), 1) := by decide +kernel
theorem dX6_yank_87 : decode cX6_yank 87 = .ok (.iastore, 1) := by decide +kernel
theorem dX6_yank_88 : decode cX6_yank 88 = .ok (.iinc 2 1, 3) := by decide +kernel
theorem dX6_yank_91 : decode cX6_yank 91 = .ok (.goto (-46), 3) := by decide +kernel
theorem dX6_yank_94 : decode cX6_yank 94 = .ok (.aload_n 0, 1) := by decide +kernel
theorem dX6_yank_95 : decode cX6_yank 95 = .ok (.getfield 16, 3) := by decide +kernel
theorem dX6_yank_98 : decode cX6_yank 98 = .ok (.iconst 1, 1) := by decide +kernel
theorem dX6_yank_99 : decode cX6_yank 99 = .ok (.isub, 1) := by decide +kernel
theorem dX6_yank_100 : decode cX6_yank 100 = .ok (.ireturn, 1) := by decide +kernel
set_option maxRecDepth 20000 in
theorem ggX6_mirror_X6_in : GoodIn wsX6_mirror wsX6_in := goodIn_r _ [9] (by decide +kernel) (by decide +kernel)
set_option maxRecDepth 20000 in
theorem gX6_mirror_X6_in : GoodIn wsX6_mirror (va_wsS RX6 99 yX6_in wsX6_in) := goodIn_app (goodIn_of _ (by decide +kernel)) ggX6_mirror_X6_in
theorem dX6_mirror_0 : decode cX6_mirror 0 = .ok (.aload_n 0, 1) := by decide +kernel
theorem dX6_mirror_1 : decode cX6_mirror 1 = .ok (.getfield 113, 3) := by decide +kernel
theorem dX6_mirror_4 : decode cX6_mirror 4 = .ok (.bipush 8, 2) := by decide +kernel
theorem dX6_mirror_6 : decode cX6_mirror 6 = .ok (.if_icmp .eq 37, 3) := by decide +kernel
theorem dX6_mirror_9 : decode cX6_mirror 9 = .ok (.iload_n 1, 1) := by decide +kernel
theorem dX6_mirror_10 : decode cX6_mirror 10 = .ok (.iconst (-1), 1) := by decide +kernel
theorem dX6_mirror_11 : decode cX6_mirror 11 = .ok (.aload_n 0, 1) := by decide +kernel
theorem dX6_mirror_12 : decode cX6_mirror 12 = .ok (.getfield 113, 3) := by decide +kernel
theorem dX6_mirror_15 : decode cX6_mirror 15 = .ok (.iconst 1, 1) := by decide +kernel
theorem dX6_mirror_16 : decode cX6_mirror 16 = .ok (.isub, 1) := by decide +kernel
theorem dX6_mirror_17 : decode cX6_mirror 17 = .ok (.invokestatic 99, 3) := by decide +kernel
theorem dX6_mirror_20 : decode cX6_mirror 20 = .ok (.ifCond .eq 23, 3) := by decide +kernel
theorem dX6_mirror_23 : decode cX6_mirror 23 = .ok (.iload_n 2, 1) := by decide +kernel
theorem dX6_mirror_24 : decode cX6_mirror 24 = .ok (.iconst 1, 1) := by decide +kernel
theorem dX6_mirror_25 : decode cX6_mirror 25 = .ok (.sipush 1000, 3) := by decide +kernel
theorem dX6_mirror_28 : decode cX6_mirror 28 = .ok (.invokestatic 99, 3) := by decide +kernel
theorem dX6_mirror_31 : decode cX6_mirror 31 = .ok (.ifCond .eq 12, 3) := by decide +kernel
theorem dX6_mirror_34 : decode cX6_mirror 34 = .ok (.iload_n 3, 1) := by decide +kernel
theorem dX6_mirror_35 : decode cX6_mirror 35 = .ok (.iconst 0, 1) := by decide +kernel
theorem dX6_mirror_36 : decode cX6_mirror 36 = .ok (.iconst 3, 1) := by decide +kernel
theorem dX6_mirror_37 : decode cX6_mirror 37 = .ok (.invokestatic 99, 3) := by decide +kernel
theorem dX6_mirror_40 : decode cX6_mirror 40 = .ok (.ifCond .ne 5, 3) := by decide +kernel
theorem dX6_mirror_43 : decode cX6_mirror 43 = .ok (.iconst (-1), 1) := by decide +kernel
theorem dX6_mirror_44 : decode cX6_mirror 44 = .ok (.ireturn, 1) := by decide +kernel
theorem dX6_mirror_45 : decode cX6_mirror 45 = .ok (.aload_n 0, 1) := by decide +kernel
theorem dX6_mirror_46 : decode cX6_mirror 46 = .ok (.getfield 26, 3) := by decide +kernel
theorem dX6_mirror_49 : decode cX6_mirror 49 = .ok (.aload_n 0, 1) := by decide +kernel
theorem dX6_mirror_50 : decode cX6_mirror 50 = .ok (.getfield 113, 3) := by decide +kernel
theorem dX6_mirror_53 : decode cX6_mirror 53 = .ok (.iload_n 1, 1) := by decide +kernel
theorem dX6_mirror_54 : decode cX6_mirror 54 = .ok (.iastore, 1) := by decide +kernel
theorem dX6_mirror_55 : decode cX6_mirror 55 = .ok (.aload_n 0, 1) := by decide +kernel
theorem dX6_mirror_56 : decode cX6_mirror 56 = .ok (.getfield 29, 3) := by decide +kernel
theorem dX6_mirror_59 : decode cX6_mirror 59 = .ok (.aload_n 0, 1) := by decide +kernel
theorem dX6_mirror_60 : decode cX6_mirror 60 = .ok (.getfield 113, 3) := by decide +kernel
theorem dX6_mirror_63 : decode cX6_mirror 63 = .ok (.iload_n 2, 1) := by decide +kernel
theorem dX6_mirror_64 : decode cX6_mirror 64 = .ok (.iastore, 1) := by decide +kernel
theorem dX6_mirror_65 : decode cX6_mirror 65 = .ok (.aload_n 0, 1) := by decide +kernel
theorem dX6_mirror_66 : decode cX6_mirror 66 = .ok (.getfield 32, 3) := by decide +kernel
theorem dX6_mirror_69 : decode cX6_mirror 69 = .ok (.aload_n 0, 1) := by decide +kernel
theorem dX6_mirror_70 : decode cX6_mirror 70 = .ok (.getfield 113, 3) := by decide +kernel
theorem dX6_mirror_73 : decode cX6_mirror 73 = .ok (.iload_n 3, 1) := by decide +kernel
theorem dX6_mirror_74 : decode cX6_mirror 74 = .ok (.iastore, 1) := by decide +kernel
theorem dX6_mirror_75 : decode cX6_mirror 75 = .ok (.aload_n 0, 1) := by decide +kernel
theorem dX6_mirror_76 : decode cX6_mirror 76 = .ok (.getfield 38, 3) := by decide +kernel
theorem dX6_mirror_79 : decode cX6_mirror 79 = .ok (.aload_n 0, 1) := by decide +kernel
theorem dX6_mirror_80 : decode cX6_mirror 80 = .ok (.getfield 113, 3) := by decide +kernel
theorem dX6_mirror_83 : decode cX6_mirror 83 = .ok (.iconst (-1), 1) := by decide +kernel
theorem dX6_mirror_84 : decode cX6_mirror 84 = .ok (.iastore, 1) := by decide +kernel
theorem dX6_mirror_85 : decode cX6_mirror 85 = .ok (.aload_n 0, 1) := by decide +kernel
theorem dX6_mirror_86 : decode cX6_mirror 86 = .ok (.dup, 1) := by decide +kernel
theorem dX6_mirror_87 : decode cX6_mirror 87 = .ok (.getfield 113, 3) := by decide +kernel
theorem dX6_mirror_90 : decode cX6_mirror 90 = .ok (.iconst 1, 1) := by decide +kernel
theorem dX6_mirror_91 : decode cX6_mirror 91 = .ok (.iadd, 1) := by decide +kernel
theorem dX6_mirror_92 : decode cX6_mirror 92 = .ok (.putfield 113, 3) := by decide +kernel
theorem dX6_mirror_95 : decode cX6_mirror 95 = .ok (.aload_n 0, 1) := by decide +kernel
theorem dX6_mirror_96 : decode cX6_mirror 96 = .ok (.getfield 113, 3) := by decide +kernel
theorem dX6_mirror_99 : decode cX6_mirror 99 = .ok (.iconst 1, 1) := by decide +kernel
theorem dX6_mirror_100 : decode cX6_mirror 100 = .ok (.isub, 1) := by decide +kernel
theorem dX6_mirror_101 : decode cX6_mirror 101 = .ok (.ireturn, 1) := by decide +kernel
set_option maxRecDepth 20000 in
theorem ggX6_isMirror_X6_in : GoodIn wsX6_isMirror wsX6_in := goodIn_r _ [5] (by decide +kernel) (by decide +kernel)
set_option maxRecDepth 20000 in
theorem gX6_isMirror_X6_in : GoodIn wsX6_isMirror (va_wsS RX6 99 yX6_in wsX6_in) := goodIn_app (goodIn_of _ (by decide +kernel)) ggX6_isMirror_X6_in
theorem dX6_isMirror_0 : decode cX6_isMirror 0 = .ok (.iload_n 1, 1) := by decide +kernel
theorem dX6_isMirror_1 : decode cX6_isMirror 1 = .ok (.iconst 0, 1) := by decide +kernel
theorem dX6_isMirror_2 : decode cX6_isMirror 2 = .ok (.aload_n 0, 1) := by decide +kernel
theorem dX6_isMirror_3 : decode cX6_isMirror 3 = .ok (.getfield 113, 3) := by decide +kernel
theorem dX6_isMirror_6 : decode cX6_isMirror 6 = .ok (.iconst 1, 1) := by decide +kernel
theorem dX6_isMirror_7 : decode cX6_isMirror 7 = .ok (.isub, 1) := by decide +kernel
theorem dX6_isMirror_8 : decode cX6_isMirror 8 = .ok (.invokestatic 99, 3) := by decide +kernel
theorem dX6_isMirror_11 : decode cX6_isMirror 11 = .ok (.ireturn, 1) := by decide +kernel
set_option maxRecDepth 20000 in
theorem ggX6_speed_X6_isMirror : GoodIn wsX6_speed wsX6_isMirror := goodIn_r _ [6, 7, 8, 9, 5, 10, 11, 12, 13, 14, 15, 16, 17, 18, 19, 20, 21, 22, 23, 24, 25, 26, 27, 28, 29, 30, 31, 32, 33, 34, 35, 36, 37, 38, 39, 40, 41, 42, 43, 44, 45, 46, 47, 48, 49, 50] (by decide +kernel) (by decide +kernel)
set_option maxRecDepth 20000 in
theorem gX6_speed_X6_isMirror : GoodIn wsX6_speed (wsV RX6 116 RX6 yX6_isMirror wsX6_isMirror) := goodIn_app (goodIn_of _ (by decide +kernel)) ggX6_speed_X6_isMirror
set_option maxRecDepth 20000 in
theorem ggX6_speed_X6_in : GoodIn wsX6_speed wsX6_in := goodIn_r _ [10] (by decide +kernel) (by decide +kernel)
set_option maxRecDepth 20000 in
theorem gX6_speed_X6_in : GoodIn wsX6_speed (va_wsS RX6 99 yX6_in wsX6_in) := goodIn_app (goodIn_of _ (by decide +kernel)) ggX6_speed_X6_in
theorem dX6_speed_0 : decode cX6_speed 0 = .ok (.aload_n 0, 1) := by decide +kernel
theorem dX6_speed_1 : decode cX6_speed 1 = .ok (.iload_n 1, 1) := by decide +kernel
theorem dX6_speed_2 : decode cX6_speed 2 = .ok (.invokevirtual 116, 3) := by decide +kernel
theorem dX6_speed_5 : decode cX6_speed 5 = .ok (.ifCond .eq 14, 3) := by decide +kernel
theorem dX6_speed_8 : decode cX6_speed 8 = .ok (.iload_n 2, 1) := by decide +kernel
theorem dX6_speed_9 : decode cX6_speed 9 = .ok (.iconst 1, 1) := by decide +kernel
theorem dX6_speed_10 : decode cX6_speed 10 = .ok (.sipush 1000, 3) := by decide +kernel
theorem dX6_speed_13 : decode cX6_speed 13 = .ok (.invokestatic 99, 3) := by decide +kernel
theorem dX6_speed_16 : decode cX6_speed 16 = .ok (.ifCond .ne 5, 3) := by decide +kernel
theorem dX6_speed_19 : decode cX6_speed 19 = .ok (.iconst (-1), 1) := by decide +kernel
theorem dX6_speed_20 : decode cX6_speed 20 = .ok (.ireturn, 1) := by decide +kernel
theorem dX6_speed_21 : decode cX6_speed 21 = .ok (.aload_n 0, 1) := by decide +kernel
theorem dX6_speed_22 : decode cX6_speed 22 = .ok (.getfield 29, 3) := by decide +kernel
theorem dX6_speed_25 : decode cX6_speed 25 = .ok (.iload_n 1, 1) := by decide +kernel
theorem dX6_speed_26 : decode cX6_speed 26 = .ok (.iaload, 1) := by decide +kernel
theorem dX6_speed_27 : decode cX6_speed 27 = .ok (.istore_n 3, 1) := by decide +kernel
theorem dX6_speed_28 : decode cX6_speed 28 = .ok (.aload_n 0, 1) := by decide +kernel
theorem dX6_speed_29 : decode cX6_speed 29 = .ok (.getfield 29, 3) := by decide +kernel
theorem dX6_speed_32 : decode cX6_speed 32 = .ok (.iload_n 1, 1) := by decide +kernel
theorem dX6_speed_33 : decode cX6_speed 33 = .ok (.iload_n 2, 1) := by decide +kernel
theorem dX6_speed_34 : decode cX6_speed 34 = .ok (.iastore, 1) := by decide +kernel
theorem dX6_speed_35 : decode cX6_speed 35 = .ok (.iload_n 3, 1) := by decide +kernel
theorem dX6_speed_36 : decode cX6_speed 36 = .ok (.ireturn, 1) := by decide +kernel
set_option maxRecDepth 20000 in
theorem ggX6_fall_X6_isMirror : GoodIn wsX6_fall wsX6_isMirror := goodIn_r _ [10, 11, 12, 13, 9, 14, 15, 16, 17, 18, 19, 20, 21, 22, 23, 24, 25, 26, 27, 28, 29, 30, 31, 32, 33, 34, 35, 36, 37, 38, 39, 40, 41, 42, 43, 44, 45, 46, 47, 48, 49, 50, 51, 52, 53, 54] (by decide +kernel) (by decide +kernel)
set_option maxRecDepth 20000 in
theorem gX6_fall_X6_isMirror : GoodIn wsX6_fall (wsV RX6 116 RX6 yX6_isMirror wsX6_isMirror) := goodIn_app (goodIn_of _ (by decide +kernel)) ggX6_fall_X6_isMirror
set_option maxRecDepth 20000 in
theorem ggX6_fall_X6_in : GoodIn wsX6_fall wsX6_in := goodIn_r _ [14] (by decide +kernel) (by decide +kernel)
set_option maxRecDepth 20000 in
theorem gX6_fall_X6_in : GoodIn wsX6_fall (va_wsS RX6 99 yX6_in wsX6_in) := goodIn_app (goodIn_of _ (by decide +kernel)) ggX6_fall_X6_in
theorem dX6_fall_0 : decode cX6_fall 0 = .ok (.aload_n 0, 1) := by decide +kernel
theorem dX6_fall_1 : decode cX6_fall 1 = .ok (.getfield 119, 3) := by decide +kernel
theorem dX6_fall_4 : decode cX6_fall 4 = .ok (.bipush 40, 2) := by decide +kernel
theorem dX6_fall_6 : decode cX6_fall 6 = .ok (.if_icmp .eq 34, 3) := by decide +kernel
theorem dX6_fall_9 : decode cX6_fall 9 = .ok (.aload_n 0, 1) := by decide +kernel
theorem dX6_fall_10 : decode cX6_fall 10 = .ok (.iload_n 1, 1) := by decide +kernel
theorem dX6_fall_11 : decode cX6_fall 11 = .ok (.invokevirtual 116, 3) := by decide +kernel
theorem dX6_fall_14 : decode cX6_fall 14 = .ok (.ifCond .eq 26, 3) := by decide +kernel
theorem dX6_fall_17 : decode cX6_fall 17 = .ok (.iload_n 2, 1) := by decide +kernel
theorem dX6_fall_18 : decode cX6_fall 18 = .ok (.aload_n 0, 1) := by decide +kernel
theorem dX6_fall_19 : decode cX6_fall 19 = .ok (.getfield 103, 3) := by decide +kernel
theorem dX6_fall_22 : decode cX6_fall 22 = .ok (.iload_n 3, 1) := by decide +kernel
theorem dX6_fall_23 : decode cX6_fall 23 = .ok (.invokestatic 99, 3) := by decide +kernel
theorem dX6_fall_26 : decode cX6_fall 26 = .ok (.ifCond .eq 14, 3) := by decide +kernel
theorem dX6_fall_29 : decode cX6_fall 29 = .ok (.iload_n 3, 1) := by decide +kernel
theorem dX6_fall_30 : decode cX6_fall 30 = .ok (.iconst 0, 1) := by decide +kernel
theorem dX6_fall_31 : decode cX6_fall 31 = .ok (.sipush 9999, 3) := by decide +kernel
theorem dX6_fall_34 : decode cX6_fall 34 = .ok (.invokestatic 99, 3) := by decide +kernel
theorem dX6_fall_37 : decode cX6_fall 37 = .ok (.ifCond .ne 5, 3) := by decide +kernel
theorem dX6_fall_40 : decode cX6_fall 40 = .ok (.iconst (-1), 1) := by decide +kernel
theorem dX6_fall_41 : decode cX6_fall 41 = .ok (.ireturn, 1) := by decide +kernel
theorem dX6_fall_42 : decode cX6_fall 42 = .ok (.aload_n 0, 1) := by decide +kernel
theorem dX6_fall_43 : decode cX6_fall 43 = .ok (.getfield 60, 3) := by decide +kernel
theorem dX6_fall_46 : decode cX6_fall 46 = .ok (.aload_n 0, 1) := by decide +kernel
theorem dX6_fall_47 : decode cX6_fall 47 = .ok (.getfield 119, 3) := by decide +kernel
theorem dX6_fall_50 : decode cX6_fall 50 = .ok (.iload_n 1, 1) := by decide +kernel
theorem dX6_fall_51 : decode cX6_fall 51 = .ok (.iastore, 1) := by decide +kernel
theorem dX6_fall_52 : decode cX6_fall 52 = .ok (.aload_n 0, 1) := by decide +kernel
theorem dX6_fall_53 : decode cX6_fall 53 = .ok (.getfield 63, 3) := by decide +kernel
theorem dX6_fall_56 : decode cX6_fall 56 = .ok (.aload_n 0, 1) := by decide +kernel
theorem dX6_fall_57 : decode cX6_fall 57 = .ok (.getfield 119, 3) := by decide +kernel
theorem dX6_fall_60 : decode cX6_fall 60 = .ok (.iload_n 2, 1) := by decide +kernel
theorem dX6_fall_61 : decode cX6_fall 61 = .ok (.iastore, 1) := by decide +kernel
theorem dX6_fall_62 : decode cX6_fall 62 = .ok (.aload_n 0, 1) := by decide +kernel
theorem dX6_fall_63 : decode cX6_fall 63 = .ok (.getfield 66, 3) := by decide +kernel
theorem dX6_fall_66 : decode cX6_fall 66 = .ok (.aload_n 0, 1) := by decide +kernel
theorem dX6_fall_67 : decode cX6_fall 67 = .ok (.getfield 119, 3) := by decide +kernel
theorem dX6_fall_70 : decode cX6_fall 70 = .ok (.iload_n 3, 1) := by decide +kernel
theorem dX6_fall_71 : decode cX6_fall 71 = .ok (.iastore, 1) := by decide +kernel
theorem dX6_fall_72 : decode cX6_fall 72 = .ok (.aload_n 0, 1) := by decide +kernel
theorem dX6_fall_73 : decode cX6_fall 73 = .ok (.dup, 1) := by decide +kernel
theorem dX6_fall_74 : decode cX6_fall 74 = .ok (.getfield 119, 3) := by decide +kernel
theorem dX6_fall_77 : decode cX6_fall 77 = .ok (.iconst 1, 1) := by decide +kernel
theorem dX6_fall_78 : decode cX6_fall 78 = .ok (.iadd, 1) := by decide +kernel
theorem dX6_fall_79 : decode cX6_fall 79 = .ok (.putfield 119, 3) := by decide +kernel
theorem dX6_fall_82 : decode cX6_fall 82 = .ok (.aload_n 0, 1) := by decide +kernel
theorem dX6_fall_83 : decode cX6_fall 83 = .ok (.getfield 119, 3) := by decide +kernel
theorem dX6_fall_86 : decode cX6_fall 86 = .ok (.ireturn, 1) := by decide +kernel
set_option maxRecDepth 20000 in
theorem ggX6_lies_X6_isMirror : GoodIn wsX6_lies wsX6_isMirror := goodIn_r _ [6, 7, 8, 9, 5, 10, 11, 12, 13, 14, 15, 16, 17, 18, 19, 20, 21, 22, 23, 24, 25, 26, 27, 28, 29, 30, 31, 32, 33, 34, 35, 36, 37, 38, 39, 40, 41, 42, 43, 44, 45, 46, 47, 48, 49, 50] (by decide +kernel) (by decide +kernel)
set_option maxRecDepth 20000 in
theorem gX6_lies_X6_isMirror : GoodIn wsX6_lies (wsV RX6 116 RX6 yX6_isMirror wsX6_isMirror) := goodIn_app (goodIn_of _ (by decide +kernel)) ggX6_lies_X6_isMirror
theorem dX6_lies_0 : decode cX6_lies 0 = .ok (.aload_n 0, 1) := by decide +kernel
theorem dX6_lies_1 : decode cX6_lies 1 = .ok (.iload_n 1, 1) := by decide +kernel
theorem dX6_lies_2 : decode cX6_lies 2 = .ok (.invokevirtual 116, 3) := by decide +kernel
theorem dX6_lies_5 : decode cX6_lies 5 = .ok (.ifCond .eq 13, 3) := by decide +kernel
theorem dX6_lies_8 : decode cX6_lies 8 = .ok (.aload_n 0, 1) := by decide +kernel
theorem dX6_lies_9 : decode cX6_lies 9 = .ok (.getfield 47, 3) := by decide +kernel
theorem dX6_lies_12 : decode cX6_lies 12 = .ok (.iload_n 1, 1) := by decide +kernel
theorem dX6_lies_13 : decode cX6_lies 13 = .ok (.baload, 1) := by decide +kernel
theorem dX6_lies_14 : decode cX6_lies 14 = .ok (.iload_n 2, 1) := by decide +kernel
theorem dX6_lies_15 : decode cX6_lies 15 = .ok (.if_icmp .ne 5, 3) := by decide +kernel
theorem dX6_lies_18 : decode cX6_lies 18 = .ok (.iconst 0, 1) := by decide +kernel
theorem dX6_lies_19 : decode cX6_lies 19 = .ok (.ireturn, 1) := by decide +kernel
theorem dX6_lies_20 : decode cX6_lies 20 = .ok (.aload_n 0, 1) := by decide +kernel
theorem dX6_lies_21 : decode cX6_lies 21 = .ok (.getfield 47, 3) := by decide +kernel
theorem dX6_lies_24 : decode cX6_lies 24 = .ok (.iload_n 1, 1) := by decide +kernel
theorem dX6_lies_25 : decode cX6_lies 25 = .ok (.iload_n 2, 1) := by decide +kernel
theorem dX6_lies_26 : decode cX6_lies 26 = .ok (.bastore, 1) := by decide +kernel
theorem dX6_lies_27 : decode cX6_lies 27 = .ok (.iconst 1, 1) := by decide +kernel
theorem dX6_lies_28 : decode cX6_lies 28 = .ok (.ireturn, 1) := by decide +kernel
theorem dX6_isFallen_0 : decode cX6_isFallen 0 = .ok (.iconst 0, 1) := by decide +kernel
theorem dX6_isFallen_1 : decode cX6_isFallen 1 = .ok (.istore_n 2, 1) := by decide +kernel
theorem dX6_isFallen_2 : decode cX6_isFallen 2 = .ok (.iload_n 2, 1) := by decide +kernel
theorem dX6_isFallen_3 : decode cX6_isFallen 3 = .ok (.aload_n 0, 1) := by decide +kernel
theorem dX6_isFallen_4 : decode cX6_isFallen 4 = .ok (.getfield 119, 3) := by decide +kernel
theorem dX6_isFallen_7 : decode cX6_isFallen 7 = .ok (.if_icmp .ge 47, 3) := by decide +kernel
theorem dX6_isFallen_10 : decode cX6_isFallen 10 = .ok (.aload_n 0, 1) := by decide +kernel
theorem dX6_isFallen_11 : decode cX6_isFallen 11 = .ok (.getfield 60, 3) := by decide +kernel
theorem dX6_isFallen_14 : decode cX6_isFallen 14 = .ok (.iload_n 2, 1) := by decide +kernel
theorem dX6_isFallen_15 : decode cX6_isFallen 15 = .ok (.iaload, 1) := by decide +kernel
theorem dX6_isFallen_16 : decode cX6_isFallen 16 = .ok (.iload_n 1, 1) := by decide +kernel
theorem dX6_isFallen_17 : decode cX6_isFallen 17 = .ok (.if_icmp .ne 31, 3) := by decide +kernel
theorem dX6_isFallen_20 : decode cX6_isFallen 20 = .ok (.aload_n 0, 1) := by decide +kernel
theorem dX6_isFallen_21 : decode cX6_isFallen 21 = .ok (.getfield 63, 3) := by decide +kernel
theorem dX6_isFallen_24 : decode cX6_isFallen 24 = .ok (.iload_n 2, 1) := by decide +kernel
theorem dX6_isFallen_25 : decode cX6_isFallen 25 = .ok (.iaload, 1) := by decide +kernel
theorem dX6_isFallen_26 : decode cX6_isFallen 26 = .ok (.aload_n 0, 1) := by decide +kernel
theorem dX6_isFallen_27 : decode cX6_isFallen 27 = .ok (.getfield 103, 3) := by decide +kernel
theorem dX6_isFallen_30 : decode cX6_isFallen 30 = .ok (.if_icmp .gt 18, 3) := by decide +kernel
theorem dX6_isFallen_33 : decode cX6_isFallen 33 = .ok (.aload_n 0, 1) := by decide +kernel
theorem dX6_isFallen_34 : decode cX6_isFallen 34 = .ok (.getfield 66, 3) := by decide +kernel
theorem dX6_isFallen_37 : decode cX6_isFallen 37 = .ok (.iload_n 2, 1) := by decide +kernel
theorem dX6_isFallen_38 : decode cX6_isFallen 38 = .ok (.iaload, 1) := by decide +kernel
theorem dX6_isFallen_39 : decode cX6_isFallen 39 = .ok (.aload_n 0, 1) := by decide +kernel
theorem dX6_isFallen_40 : decode cX6_isFallen 40 = .ok (.getfield 103, 3) := by decide +kernel
theorem dX6_isFallen_43 : decode cX6_isFallen 43 = .ok (.if_icmp .lt 5, 3) := by decide +kernel
theorem dX6_isFallen_46 : decode cX6_isFallen 46 = .ok (.iconst 1, 1) := by decide +kernel
theorem dX6_isFallen_47 : decode cX6_isFallen 47 = .ok (.ireturn, 1) := by decide +kernel
theorem dX6_isFallen_48 : decode cX6_isFallen 48 = .ok (.iinc 2 1, 3) := by decide +kernel
theorem dX6_isFallen_51 : decode cX6_isFallen 51 = .ok (.goto (-49), 3) := by decide +kernel
theorem dX6_isFallen_54 : decode cX6_isFallen 54 = .ok (.iconst 0, 1) := by decide +kernel
theorem dX6_isFallen_55 : decode cX6_isFallen 55 = .ok (.ireturn, 1) := by decide +kernel
theorem dX6_isNamed_0 : decode cX6_isNamed 0 = .ok (.iconst 0, 1) := by decide +kernel
theorem dX6_isNamed_1 : decode cX6_isNamed 1 = .ok (.istore_n 3, 1) := by decide +kernel
theorem dX6_isNamed_2 : decode cX6_isNamed 2 = .ok (.iload_n 3, 1) := by decide +kernel
theorem dX6_isNamed_3 : decode cX6_isNamed 3 = .ok (.bipush 12, 2) := by decide +kernel
theorem dX6_isNamed_5 : decode cX6_isNamed 5 = .ok (.if_icmp .ge 26, 3) := by decide +kernel
theorem dX6_isNamed_8 : decode cX6_isNamed 8 = .ok (.aload_n 0, 1) := by decide +kernel
theorem dX6_isNamed_9 : decode cX6_isNamed 9 = .ok (.getfield 23, 3) := by decide +kernel
theorem dX6_isNamed_12 : decode cX6_isNamed 12 = .ok (.bipush 12, 2) := by decide +kernel
theorem dX6_isNamed_14 : decode cX6_isNamed 14 = .ok (.iload_n 1, 1) := by decide +kernel
theorem dX6_isNamed_15 : decode cX6_isNamed 15 = .ok (.imul, 1) := by decide +kernel
theorem dX6_isNamed_16 : decode cX6_isNamed 16 = .ok (.iload_n 3, 1) := by decide +kernel
theorem dX6_isNamed_17 : decode cX6_isNamed 17 = .ok (.iadd, 1) := by decide +kernel
theorem dX6_isNamed_18 : decode cX6_isNamed 18 = .ok (.iaload, 1) := by decide +kernel
theorem dX6_isNamed_19 : decode cX6_isNamed 19 = .ok (.iload_n 2, 1) := by decide +kernel
theorem dX6_isNamed_20 : decode cX6_isNamed 20 = .ok (.if_icmp .ne 5, 3) := by decide +kernel
theorem dX6_isNamed_23 : decode cX6_isNamed 23 = .ok (.iconst 1, 1) := by decide +kernel
theorem dX6_isNamed_24 : decode cX6_isNamed 24 = .ok (.ireturn, 1) := by decide +kernel
theorem dX6_isNamed_25 : decode cX6_isNamed 25 = .ok (.iinc 3 1, 3) := by decide +kernel
theorem dX6_isNamed_28 : decode cX6_isNamed 28 = .ok (.goto (-26), 3) := by decide +kernel
theorem dX6_isNamed_31 : decode cX6_isNamed 31 = .ok (.iconst 0, 1) := by decide +kernel
theorem dX6_isNamed_32 : decode cX6_isNamed 32 = .ok (.ireturn, 1) := by decide +kernel
set_option maxRecDepth 20000 in
theorem ggX6_lacking_X6_isNamed : GoodIn wsX6_lacking wsX6_isNamed := goodIn_r _ [8, 9, 10, 11, 12, 13, 14, 15, 16, 17, 18, 19, 20, 21, 22, 23, 24, 25, 26, 27, 28, 29, 30, 31, 32, 33, 34, 35, 36, 37, 38, 39, 40, 41, 42, 43, 44, 45, 46, 47, 48, 49] (by decide +kernel) (by decide +kernel)
set_option maxRecDepth 20000 in
theorem gX6_lacking_X6_isNamed : GoodIn wsX6_lacking (wsV RX6 122 RX6 yX6_isNamed wsX6_isNamed) := goodIn_app (goodIn_of _ (by decide +kernel)) ggX6_lacking_X6_isNamed
theorem dX6_lacking_0 : decode cX6_lacking 0 = .ok (.iconst 0, 1) := by decide +kernel
theorem dX6_lacking_1 : decode cX6_lacking 1 = .ok (.istore_n 2, 1) := by decide +kernel
theorem dX6_lacking_2 : decode cX6_lacking 2 = .ok (.iload_n 2, 1) := by decide +kernel
theorem dX6_lacking_3 : decode cX6_lacking 3 = .ok (.aload_n 0, 1) := by decide +kernel
theorem dX6_lacking_4 : decode cX6_lacking 4 = .ok (.getfield 96, 3) := by decide +kernel
theorem dX6_lacking_7 : decode cX6_lacking 7 = .ok (.if_icmp .ge 39, 3) := by decide +kernel
theorem dX6_lacking_10 : decode cX6_lacking 10 = .ok (.aload_n 0, 1) := by decide +kernel
theorem dX6_lacking_11 : decode cX6_lacking 11 = .ok (.getfield 51, 3) := by decide +kernel
theorem dX6_lacking_14 : decode cX6_lacking 14 = .ok (.bipush 60, 2) := by decide +kernel
theorem dX6_lacking_16 : decode cX6_lacking 16 = .ok (.iload_n 1, 1) := by decide +kernel
theorem dX6_lacking_17 : decode cX6_lacking 17 = .ok (.imul, 1) := by decide +kernel
theorem dX6_lacking_18 : decode cX6_lacking 18 = .ok (.iload_n 2, 1) := by decide +kernel
theorem dX6_lacking_19 : decode cX6_lacking 19 = .ok (.iadd, 1) := by decide +kernel
theorem dX6_lacking_20 : decode cX6_lacking 20 = .ok (.baload, 1) := by decide +kernel
theorem dX6_lacking_21 : decode cX6_lacking 21 = .ok (.ifCond .ne 19, 3) := by decide +kernel
theorem dX6_lacking_24 : decode cX6_lacking 24 = .ok (.aload_n 0, 1) := by decide +kernel
theorem dX6_lacking_25 : decode cX6_lacking 25 = .ok (.aload_n 0, 1) := by decide +kernel
theorem dX6_lacking_26 : decode cX6_lacking 26 = .ok (.getfield 38, 3) := by decide +kernel
theorem dX6_lacking_29 : decode cX6_lacking 29 = .ok (.iload_n 1, 1) := by decide +kernel
theorem dX6_lacking_30 : decode cX6_lacking 30 = .ok (.iaload, 1) := by decide +kernel
theorem dX6_lacking_31 : decode cX6_lacking 31 = .ok (.iload_n 2, 1) := by decide +kernel
theorem dX6_lacking_32 : decode cX6_lacking 32 = .ok (.invokevirtual 122, 3) := by decide +kernel
theorem dX6_lacking_35 : decode cX6_lacking 35 = .ok (.ifCond .eq 5, 3) := by decide +kernel
theorem dX6_lacking_38 : decode cX6_lacking 38 = .ok (.iload_n 2, 1) := by decide +kernel
theorem dX6_lacking_39 : decode cX6_lacking 39 = .ok (.ireturn, 1) := by decide +kernel
theorem dX6_lacking_40 : decode cX6_lacking 40 = .ok (.iinc 2 1, 3) := by decide +kernel
theorem dX6_lacking_43 : decode cX6_lacking 43 = .ok (.goto (-41), 3) := by decide +kernel
theorem dX6_lacking_46 : decode cX6_lacking 46 = .ok (.iconst (-1), 1) := by decide +kernel
theorem dX6_lacking_47 : decode cX6_lacking 47 = .ok (.ireturn, 1) := by decide +kernel
set_option maxRecDepth 20000 in
theorem ggX6_copies_X6_lacking : GoodIn wsX6_copies wsX6_lacking := goodIn_r _ [12, 13, 3, 4, 14, 15, 16, 11, 17, 18, 19, 20, 21, 22, 23, 24, 25, 26, 27, 28, 29, 30, 31, 32, 33, 34, 35, 36, 37, 38, 39, 40, 41, 42, 43, 44, 45, 46, 47, 48, 49, 50, 51, 52, 53, 54, 55, 56, 57, 58] (by decide +kernel) (by decide +kernel)
set_option maxRecDepth 20000 in
theorem gX6_copies_X6_lacking : GoodIn wsX6_copies (wsV RX6 126 RX6 yX6_lacking wsX6_lacking) := goodIn_app (goodIn_of _ (by decide +kernel)) ggX6_copies_X6_lacking
theorem dX6_copies_0 : decode cX6_copies 0 = .ok (.aload_n 0, 1) := by decide +kernel
theorem dX6_copies_1 : decode cX6_copies 1 = .ok (.getfield 29, 3) := by decide +kernel
theorem dX6_copies_4 : decode cX6_copies 4 = .ok (.iload_n 1, 1) := by decide +kernel
theorem dX6_copies_5 : decode cX6_copies 5 = .ok (.iaload, 1) := by decide +kernel
theorem dX6_copies_6 : decode cX6_copies 6 = .ok (.istore_n 2, 1) := by decide +kernel
theorem dX6_copies_7 : decode cX6_copies 7 = .ok (.iload_n 2, 1) := by decide +kernel
theorem dX6_copies_8 : decode cX6_copies 8 = .ok (.ifCond .le 162, 3) := by decide +kernel
theorem dX6_copies_11 : decode cX6_copies 11 = .ok (.aload_n 0, 1) := by decide +kernel
theorem dX6_copies_12 : decode cX6_copies 12 = .ok (.iload_n 1, 1) := by decide +kernel
theorem dX6_copies_13 : decode cX6_copies 13 = .ok (.invokevirtual 126, 3) := by decide +kernel
theorem dX6_copies_16 : decode cX6_copies 16 = .ok (.istore_n 3, 1) := by decide +kernel
theorem dX6_copies_17 : decode cX6_copies 17 = .ok (.iload_n 3, 1) := by decide +kernel
theorem dX6_copies_18 : decode cX6_copies 18 = .ok (.ifCond .ge 5, 3) := by decide +kernel
theorem dX6_copies_21 : decode cX6_copies 21 = .ok (.iconst 1, 1) := by decide +kernel
theorem dX6_copies_22 : decode cX6_copies 22 = .ok (.ireturn, 1) := by decide +kernel
theorem dX6_copies_23 : decode cX6_copies 23 = .ok (.aload_n 0, 1) := by decide +kernel
theorem dX6_copies_24 : decode cX6_copies 24 = .ok (.getfield 26, 3) := by decide +kernel
theorem dX6_copies_27 : decode cX6_copies 27 = .ok (.iload_n 1, 1) := by decide +kernel
theorem dX6_copies_28 : decode cX6_copies 28 = .ok (.iaload, 1) := by decide +kernel
theorem dX6_copies_29 : decode cX6_copies 29 = .ok (.ifCond .lt 38, 3) := by decide +kernel
theorem dX6_copies_32 : decode cX6_copies 32 = .ok (.aload_n 0, 1) := by decide +kernel
theorem dX6_copies_33 : decode cX6_copies 33 = .ok (.getfield 51, 3) := by decide +kernel
theorem dX6_copies_36 : decode cX6_copies 36 = .ok (.bipush 60, 2) := by decide +kernel
theorem dX6_copies_38 : decode cX6_copies 38 = .ok (.aload_n 0, 1) := by decide +kernel
theorem dX6_copies_39 : decode cX6_copies 39 = .ok (.getfield 26, 3) := by decide +kernel
theorem dX6_copies_42 : decode cX6_copies 42 = .ok (.iload_n 1, 1) := by decide +kernel
theorem dX6_copies_43 : decode cX6_copies 43 = .ok (.iaload, 1) := by decide +kernel
theorem dX6_copies_44 : decode cX6_copies 44 = .ok (.imul, 1) := by decide +kernel
theorem dX6_copies_45 : decode cX6_copies 45 = .ok (.iload_n 3, 1) := by decide +kernel
theorem dX6_copies_46 : decode cX6_copies 46 = .ok (.iadd, 1) := by decide +kernel
theorem dX6_copies_47 : decode cX6_copies 47 = .ok (.baload, 1) := by decide +kernel
theorem dX6_copies_48 : decode cX6_copies 48 = .ok (.ifCond .ne 19, 3) := by decide +kernel
theorem dX6_copies_51 : decode cX6_copies 51 = .ok (.aload_n 0, 1) := by decide +kernel
theorem dX6_copies_52 : decode cX6_copies 52 = .ok (.getfield 38, 3) := by decide +kernel
theorem dX6_copies_55 : decode cX6_copies 55 = .ok (.iload_n 1, 1) := by decide +kernel
theorem dX6_copies_56 : decode cX6_copies 56 = .ok (.iconst (-1), 1) := by decide +kernel
theorem dX6_copies_57 : decode cX6_copies 57 = .ok (.iastore, 1) := by decide +kernel
theorem dX6_copies_58 : decode cX6_copies 58 = .ok (.aload_n 0, 1) := by decide +kernel
theorem dX6_copies_59 : decode cX6_copies 59 = .ok (.getfield 41, 3) := by decide +kernel
theorem dX6_copies_62 : decode cX6_copies 62 = .ok (.iload_n 1, 1) := by decide +kernel
theorem dX6_copies_63 : decode cX6_copies 63 = .ok (.iconst 0, 1) := by decide +kernel
theorem dX6_copies_64 : decode cX6_copies 64 = .ok (.iastore, 1) := by decide +kernel
theorem dX6_copies_65 : decode cX6_copies 65 = .ok (.iconst 0, 1) := by decide +kernel
theorem dX6_copies_66 : decode cX6_copies 66 = .ok (.ireturn, 1) := by decide +kernel
theorem dX6_copies_67 : decode cX6_copies 67 = .ok (.aload_n 0, 1) := by decide +kernel
theorem dX6_copies_68 : decode cX6_copies 68 = .ok (.getfield 7, 3) := by decide +kernel
theorem dX6_copies_71 : decode cX6_copies 71 = .ok (.iload_n 3, 1) := by decide +kernel
theorem dX6_copies_72 : decode cX6_copies 72 = .ok (.iaload, 1) := by decide +kernel
theorem dX6_copies_73 : decode cX6_copies 73 = .ok (.aload_n 0, 1) := by decide +kernel
theorem dX6_copies_74 : decode cX6_copies 74 = .ok (.getfield 41, 3) := by decide +kernel
theorem dX6_copies_77 : decode cX6_copies 77 = .ok (.iload_n 1, 1) := by decide +kernel
theorem dX6_copies_78 : decode cX6_copies 78 = .ok (.iaload, 1) := by decide +kernel
theorem dX6_copies_79 : decode cX6_copies 79 = .ok (.isub, 1) := by decide +kernel
theorem dX6_copies_80 : decode cX6_copies 80 = .ok (.iload_n 2, 1) := by decide +kernel
theorem dX6_copies_81 : decode cX6_copies 81 = .ok (.if_icmp .ge 19, 3) := by decide +kernel
theorem dX6_copies_84 : decode cX6_copies 84 = .ok (.aload_n 0, 1) := by decide +kernel
theorem dX6_copies_85 : decode cX6_copies 85 = .ok (.getfield 7, 3) := by decide +kernel
theorem dX6_copies_88 : decode cX6_copies 88 = .ok (.iload_n 3, 1) := by decide +kernel
theorem dX6_copies_89 : decode cX6_copies 89 = .ok (.iaload, 1) := by decide +kernel
theorem dX6_copies_90 : decode cX6_copies 90 = .ok (.aload_n 0, 1) := by decide +kernel
theorem dX6_copies_91 : decode cX6_copies 91 = .ok (.getfield 41, 3) := by decide +kernel
theorem dX6_copies_94 : decode cX6_copies 94 = .ok (.iload_n 1, 1) := by decide +kernel
theorem dX6_copies_95 : decode cX6_copies 95 = .ok (.iaload, 1) := by decide +kernel
theorem dX6_copies_96 : decode cX6_copies 96 = .ok (.isub, 1) := by decide +kernel
theorem dX6_copies_97 : decode cX6_copies 97 = .ok (.goto 4, 3) := by decide +kernel
theorem dX6_copies_100 : decode cX6_copies 100 = .ok (.iload_n 2, 1) := by decide +kernel
theorem dX6_copies_101 : decode cX6_copies 101 = .ok (.istore 4, 2) := by decide +kernel
theorem dX6_copies_103 : decode cX6_copies 103 = .ok (.aload_n 0, 1) := by decide +kernel
theorem dX6_copies_104 : decode cX6_copies 104 = .ok (.getfield 41, 3) := by decide +kernel
theorem dX6_copies_107 : decode cX6_copies 107 = .ok (.iload_n 1, 1) := by decide +kernel
theorem dX6_copies_108 : decode cX6_copies 108 = .ok (.dup2, 1) := by decide +kernel
theorem dX6_copies_109 : decode cX6_copies 109 = .ok (.iaload, 1) := by decide +kernel
theorem dX6_copies_110 : decode cX6_copies 110 = .ok (.iload 4, 2) := by decide +kernel
theorem dX6_copies_112 : decode cX6_copies 112 = .ok (.iadd, 1) := by decide +kernel
theorem dX6_copies_113 : decode cX6_copies 113 = .ok (.iastore, 1) := by decide +kernel
theorem dX6_copies_114 : decode cX6_copies 114 = .ok (.aload_n 0, 1) := by decide +kernel
theorem dX6_copies_115 : decode cX6_copies 115 = .ok (.getfield 44, 3) := by decide +kernel
theorem dX6_copies_118 : decode cX6_copies 118 = .ok (.iload_n 1, 1) := by decide +kernel
theorem dX6_copies_119 : decode cX6_copies 119 = .ok (.dup2, 1) := by decide +kernel
theorem dX6_copies_120 : decode cX6_copies 120 = .ok (.iaload, 1) := by decide +kernel
theorem dX6_copies_121 : decode cX6_copies 121 = .ok (.iload 4, 2) := by decide +kernel
theorem dX6_copies_123 : decode cX6_copies 123 = .ok (.iadd, 1) := by decide +kernel
theorem dX6_copies_124 : decode cX6_copies 124 = .ok (.iastore, 1) := by decide +kernel
theorem dX6_copies_125 : decode cX6_copies 125 = .ok (.iload_n 2, 1) := by decide +kernel
theorem dX6_copies_126 : decode cX6_copies 126 = .ok (.iload 4, 2) := by decide +kernel
theorem dX6_copies_128 : decode cX6_copies 128 = .ok (.isub, 1) := by decide +kernel
theorem dX6_copies_129 : decode cX6_copies 129 = .ok (.istore_n 2, 1) := by decide +kernel
theorem dX6_copies_130 : decode cX6_copies 130 = .ok (.aload_n 0, 1) := by decide +kernel
theorem dX6_copies_131 : decode cX6_copies 131 = .ok (.getfield 41, 3) := by decide +kernel
theorem dX6_copies_134 : decode cX6_copies 134 = .ok (.iload_n 1, 1) := by decide +kernel
theorem dX6_copies_135 : decode cX6_copies 135 = .ok (.iaload, 1) := by decide +kernel
theorem dX6_copies_136 : decode cX6_copies 136 = .ok (.aload_n 0, 1) := by decide +kernel
theorem dX6_copies_137 : decode cX6_copies 137 = .ok (.getfield 7, 3) := by decide +kernel
theorem dX6_copies_140 : decode cX6_copies 140 = .ok (.iload_n 3, 1) := by decide +kernel
theorem dX6_copies_141 : decode cX6_copies 141 = .ok (.iaload, 1) := by decide +kernel
theorem dX6_copies_142 : decode cX6_copies 142 = .ok (.if_icmp .ge 6, 3) := by decide +kernel
theorem dX6_copies_145 : decode cX6_copies 145 = .ok (.goto (-138), 3) := by decide +kernel
theorem dX6_copies_148 : decode cX6_copies 148 = .ok (.aload_n 0, 1) := by decide +kernel
theorem dX6_copies_149 : decode cX6_copies 149 = .ok (.getfield 51, 3) := by decide +kernel
theorem dX6_copies_152 : decode cX6_copies 152 = .ok (.bipush 60, 2) := by decide +kernel
theorem dX6_copies_154 : decode cX6_copies 154 = .ok (.iload_n 1, 1) := by decide +kernel
theorem dX6_copies_155 : decode cX6_copies 155 = .ok (.imul, 1) := by decide +kernel
theorem dX6_copies_156 : decode cX6_copies 156 = .ok (.iload_n 3, 1) := by decide +kernel
theorem dX6_copies_157 : decode cX6_copies 157 = .ok (.iadd, 1) := by decide +kernel
theorem dX6_copies_158 : decode cX6_copies 158 = .ok (.iconst 1, 1) := by decide +kernel
theorem dX6_copies_159 : decode cX6_copies 159 = .ok (.bastore, 1) := by decide +kernel
theorem dX6_copies_160 : decode cX6_copies 160 = .ok (.aload_n 0, 1) := by decide +kernel
theorem dX6_copies_161 : decode cX6_copies 161 = .ok (.getfield 41, 3) := by decide +kernel
theorem dX6_copies_164 : decode cX6_copies 164 = .ok (.iload_n 1, 1) := by decide +kernel
theorem dX6_copies_165 : decode cX6_copies 165 = .ok (.iconst 0, 1) := by decide +kernel
theorem dX6_copies_166 : decode cX6_copies 166 = .ok (.iastore, 1) := by decide +kernel
theorem dX6_copies_167 : decode cX6_copies 167 = .ok (.goto (-160), 3) := by decide +kernel
theorem dX6_copies_170 : decode cX6_copies 170 = .ok (.iconst 1, 1) := by decide +kernel
theorem dX6_copies_171 : decode cX6_copies 171 = .ok (.ireturn, 1) := by decide +kernel
set_option maxRecDepth 20000 in
theorem ggX6_turns_X6_isNamed : GoodIn wsX6_turns wsX6_isNamed := goodIn_r _ [13, 14, 15, 16, 17, 18, 19, 20, 21, 22, 23, 24, 25, 26, 27, 28, 29, 30, 31, 32, 33, 34, 35, 36, 37, 38, 39, 40, 41, 42, 43, 44, 45, 46, 47, 48, 49, 50, 51, 52, 53, 54] (by decide +kernel) (by decide +kernel)
set_option maxRecDepth 20000 in
theorem gX6_turns_X6_isNamed : GoodIn wsX6_turns (wsV RX6 122 RX6 yX6_isNamed wsX6_isNamed) := goodIn_app (goodIn_of _ (by decide +kernel)) ggX6_turns_X6_isNamed
theorem dX6_turns_0 : decode cX6_turns 0 = .ok (.iconst 2, 1) := by decide +kernel
theorem dX6_turns_1 : decode cX6_turns 1 = .ok (.istore_n 2, 1) := by decide +kernel
theorem dX6_turns_2 : decode cX6_turns 2 = .ok (.iload_n 2, 1) := by decide +kernel
theorem dX6_turns_3 : decode cX6_turns 3 = .ok (.ifCond .le 31, 3) := by decide +kernel
theorem dX6_turns_6 : decode cX6_turns 6 = .ok (.aload_n 0, 1) := by decide +kernel
theorem dX6_turns_7 : decode cX6_turns 7 = .ok (.getfield 54, 3) := by decide +kernel
theorem dX6_turns_10 : decode cX6_turns 10 = .ok (.iconst 3, 1) := by decide +kernel
theorem dX6_turns_11 : decode cX6_turns 11 = .ok (.iload_n 1, 1) := by decide +kernel
theorem dX6_turns_12 : decode cX6_turns 12 = .ok (.imul, 1) := by decide +kernel
theorem dX6_turns_13 : decode cX6_turns 13 = .ok (.iload_n 2, 1) := by decide +kernel
theorem dX6_turns_14 : decode cX6_turns 14 = .ok (.iadd, 1) := by decide +kernel
theorem dX6_turns_15 : decode cX6_turns 15 = .ok (.aload_n 0, 1) := by decide +kernel
theorem dX6_turns_16 : decode cX6_turns 16 = .ok (.getfield 54, 3) := by decide +kernel
theorem dX6_turns_19 : decode cX6_turns 19 = .ok (.iconst 3, 1) := by decide +kernel
theorem dX6_turns_20 : decode cX6_turns 20 = .ok (.iload_n 1, 1) := by decide +kernel
theorem dX6_turns_21 : decode cX6_turns 21 = .ok (.imul, 1) := by decide +kernel
theorem dX6_turns_22 : decode cX6_turns 22 = .ok (.iload_n 2, 1) := by decide +kernel
theorem dX6_turns_23 : decode cX6_turns 23 = .ok (.iadd, 1) := by decide +kernel
theorem dX6_turns_24 : decode cX6_turns 24 = .ok (.iconst 1, 1) := by decide +kernel
theorem dX6_turns_25 : decode cX6_turns 25 = .ok (.isub, 1) := by decide +kernel
theorem dX6_turns_26 : decode cX6_turns 26 = .ok (.iaload, 1) := by decide +kernel
theorem dX6_turns_27 : decode cX6_turns 27 = .ok (.iastore, 1) := by decide +kernel
theorem dX6_turns_28 : decode cX6_turns 28 = .ok (.iinc 2 (-1), 3) := by decide +kernel
theorem dX6_turns_31 : decode cX6_turns 31 = .ok (.goto (-29), 3) := by decide +kernel
theorem dX6_turns_34 : decode cX6_turns 34 = .ok (.aload_n 0, 1) := by decide +kernel
theorem dX6_turns_35 : decode cX6_turns 35 = .ok (.getfield 54, 3) := by decide +kernel
theorem dX6_turns_38 : decode cX6_turns 38 = .ok (.iconst 3, 1) := by decide +kernel
theorem dX6_turns_39 : decode cX6_turns 39 = .ok (.iload_n 1, 1) := by decide +kernel
theorem dX6_turns_40 : decode cX6_turns 40 = .ok (.imul, 1) := by decide +kernel
theorem dX6_turns_41 : decode cX6_turns 41 = .ok (.aload_n 0, 1) := by decide +kernel
theorem dX6_turns_42 : decode cX6_turns 42 = .ok (.getfield 35, 3) := by decide +kernel
theorem dX6_turns_45 : decode cX6_turns 45 = .ok (.iload_n 1, 1) := by decide +kernel
theorem dX6_turns_46 : decode cX6_turns 46 = .ok (.iaload, 1) := by decide +kernel
theorem dX6_turns_47 : decode cX6_turns 47 = .ok (.iastore, 1) := by decide +kernel
theorem dX6_turns_48 : decode cX6_turns 48 = .ok (.aload_n 0, 1) := by decide +kernel
theorem dX6_turns_49 : decode cX6_turns 49 = .ok (.getfield 57, 3) := by decide +kernel
theorem dX6_turns_52 : decode cX6_turns 52 = .ok (.iload_n 1, 1) := by decide +kernel
theorem dX6_turns_53 : decode cX6_turns 53 = .ok (.aload_n 0, 1) := by decide +kernel
theorem dX6_turns_54 : decode cX6_turns 54 = .ok (.getfield 57, 3) := by decide +kernel
theorem dX6_turns_57 : decode cX6_turns 57 = .ok (.iload_n 1, 1) := by decide +kernel
theorem dX6_turns_58 : decode cX6_turns 58 = .ok (.iaload, 1) := by decide +kernel
theorem dX6_turns_59 : decode cX6_turns 59 = .ok (.iconst 3, 1) := by decide +kernel
theorem dX6_turns_60 : decode cX6_turns 60 = .ok (.if_icmp .ge 14, 3) := by decide +kernel
theorem dX6_turns_63 : decode cX6_turns 63 = .ok (.aload_n 0, 1) := by decide +kernel
theorem dX6_turns_64 : decode cX6_turns 64 = .ok (.getfield 57, 3) := by decide +kernel
theorem dX6_turns_67 : decode cX6_turns 67 = .ok (.iload_n 1, 1) := by decide +kernel
theorem dX6_turns_68 : decode cX6_turns 68 = .ok (.iaload, 1) := by decide +kernel
theorem dX6_turns_69 : decode cX6_turns 69 = .ok (.iconst 1, 1) := by decide +kernel
theorem dX6_turns_70 : decode cX6_turns 70 = .ok (.iadd, 1) := by decide +kernel
theorem dX6_turns_71 : decode cX6_turns 71 = .ok (.goto 4, 3) := by decide +kernel
theorem dX6_turns_74 : decode cX6_turns 74 = .ok (.iconst 3, 1) := by decide +kernel
theorem dX6_turns_75 : decode cX6_turns 75 = .ok (.iastore, 1) := by decide +kernel
theorem dX6_turns_76 : decode cX6_turns 76 = .ok (.aload_n 0, 1) := by decide +kernel
theorem dX6_turns_77 : decode cX6_turns 77 = .ok (.getfield 35, 3) := by decide +kernel
theorem dX6_turns_80 : decode cX6_turns 80 = .ok (.iload_n 1, 1) := by decide +kernel
theorem dX6_turns_81 : decode cX6_turns 81 = .ok (.aload_n 0, 1) := by decide +kernel
theorem dX6_turns_82 : decode cX6_turns 82 = .ok (.getfield 38, 3) := by decide +kernel
theorem dX6_turns_85 : decode cX6_turns 85 = .ok (.iload_n 1, 1) := by decide +kernel
theorem dX6_turns_86 : decode cX6_turns 86 = .ok (.iaload, 1) := by decide +kernel
theorem dX6_turns_87 : decode cX6_turns 87 = .ok (.iastore, 1) := by decide +kernel
theorem dX6_turns_88 : decode cX6_turns 88 = .ok (.aload_n 0, 1) := by decide +kernel
theorem dX6_turns_89 : decode cX6_turns 89 = .ok (.getfield 38, 3) := by decide +kernel
theorem dX6_turns_92 : decode cX6_turns 92 = .ok (.iload_n 1, 1) := by decide +kernel
theorem dX6_turns_93 : decode cX6_turns 93 = .ok (.iconst (-1), 1) := by decide +kernel
theorem dX6_turns_94 : decode cX6_turns 94 = .ok (.iastore, 1) := by decide +kernel
theorem dX6_turns_95 : decode cX6_turns 95 = .ok (.aload_n 0, 1) := by decide +kernel
theorem dX6_turns_96 : decode cX6_turns 96 = .ok (.getfield 41, 3) := by decide +kernel
theorem dX6_turns_99 : decode cX6_turns 99 = .ok (.iload_n 1, 1) := by decide +kernel
theorem dX6_turns_100 : decode cX6_turns 100 = .ok (.iconst 0, 1) := by decide +kernel
theorem dX6_turns_101 : decode cX6_turns 101 = .ok (.iastore, 1) := by decide +kernel
theorem dX6_turns_102 : decode cX6_turns 102 = .ok (.iconst 0, 1) := by decide +kernel
theorem dX6_turns_103 : decode cX6_turns 103 = .ok (.istore_n 2, 1) := by decide +kernel
theorem dX6_turns_104 : decode cX6_turns 104 = .ok (.iload_n 2, 1) := by decide +kernel
theorem dX6_turns_105 : decode cX6_turns 105 = .ok (.aload_n 0, 1) := by decide +kernel
theorem dX6_turns_106 : decode cX6_turns 106 = .ok (.getfield 96, 3) := by decide +kernel
theorem dX6_turns_109 : decode cX6_turns 109 = .ok (.if_icmp .ge 115, 3) := by decide +kernel
theorem dX6_turns_112 : decode cX6_turns 112 = .ok (.aload_n 0, 1) := by decide +kernel
theorem dX6_turns_113 : decode cX6_turns 113 = .ok (.aload_n 0, 1) := by decide +kernel
theorem dX6_turns_114 : decode cX6_turns 114 = .ok (.getfield 35, 3) := by decide +kernel
theorem dX6_turns_117 : decode cX6_turns 117 = .ok (.iload_n 1, 1) := by decide +kernel
theorem dX6_turns_118 : decode cX6_turns 118 = .ok (.iaload, 1) := by decide +kernel
theorem dX6_turns_119 : decode cX6_turns 119 = .ok (.iload_n 2, 1) := by decide +kernel
theorem dX6_turns_120 : decode cX6_turns 120 = .ok (.invokevirtual 122, 3) := by decide +kernel
theorem dX6_turns_123 : decode cX6_turns 123 = .ok (.istore_n 3, 1) := by decide +kernel
theorem dX6_turns_124 : decode cX6_turns 124 = .ok (.iconst 0, 1) := by decide +kernel
theorem dX6_turns_125 : decode cX6_turns 125 = .ok (.istore 4, 2) := by decide +kernel
theorem dX6_turns_127 : decode cX6_turns 127 = .ok (.iload 4, 2) := by decide +kernel
theorem dX6_turns_129 : decode cX6_turns 129 = .ok (.aload_n 0, 1) := by decide +kernel
theorem dX6_turns_130 : decode cX6_turns 130 = .ok (.getfield 32, 3) := by decide +kernel
theorem dX6_turns_133 : decode cX6_turns 133 = .ok (.iload_n 1, 1) := by decide +kernel
theorem dX6_turns_134 : decode cX6_turns 134 = .ok (.iaload, 1) := by decide +kernel
theorem dX6_turns_135 : decode cX6_turns 135 = .ok (.if_icmp .ge 49, 3) := by decide +kernel
theorem dX6_turns_138 : decode cX6_turns 138 = .ok (.iload 4, 2) := by decide +kernel
theorem dX6_turns_140 : decode cX6_turns 140 = .ok (.aload_n 0, 1) := by decide +kernel
theorem dX6_turns_141 : decode cX6_turns 141 = .ok (.getfield 57, 3) := by decide +kernel
theorem dX6_turns_144 : decode cX6_turns 144 = .ok (.iload_n 1, 1) := by decide +kernel
theorem dX6_turns_145 : decode cX6_turns 145 = .ok (.iaload, 1) := by decide +kernel
theorem dX6_turns_146 : decode cX6_turns 146 = .ok (.if_icmp .ge 38, 3) := by decide +kernel
theorem dX6_turns_149 : decode cX6_turns 149 = .ok (.iload_n 3, 1) := by decide +kernel
theorem dX6_turns_150 : decode cX6_turns 150 = .ok (.ifCond .ne 22, 3) := by decide +kernel
theorem dX6_turns_153 : decode cX6_turns 153 = .ok (.aload_n 0, 1) := by decide +kernel
theorem dX6_turns_154 : decode cX6_turns 154 = .ok (.aload_n 0, 1) := by decide +kernel
theorem dX6_turns_155 : decode cX6_turns 155 = .ok (.getfield 54, 3) := by decide +kernel
theorem dX6_turns_158 : decode cX6_turns 158 = .ok (.iconst 3, 1) := by decide +kernel
theorem dX6_turns_159 : decode cX6_turns 159 = .ok (.iload_n 1, 1) := by decide +kernel
theorem dX6_turns_160 : decode cX6_turns 160 = .ok (.imul, 1) := by decide +kernel
theorem dX6_turns_161 : decode cX6_turns 161 = .ok (.iload 4, 2) := by decide +kernel
theorem dX6_turns_163 : decode cX6_turns 163 = .ok (.iadd, 1) := by decide +kernel
theorem dX6_turns_164 : decode cX6_turns 164 = .ok (.iaload, 1) := by decide +kernel
theorem dX6_turns_165 : decode cX6_turns 165 = .ok (.iload_n 2, 1) := by decide +kernel
theorem dX6_turns_166 : decode cX6_turns 166 = .ok (.invokevirtual 122, 3) := by decide +kernel
theorem dX6_turns_169 : decode cX6_turns 169 = .ok (.ifCond .eq 7, 3) := by decide +kernel
theorem dX6_turns_172 : decode cX6_turns 172 = .ok (.iconst 1, 1) := by decide +kernel
theorem dX6_turns_173 : decode cX6_turns 173 = .ok (.goto 4, 3) := by decide +kernel
theorem dX6_turns_176 : decode cX6_turns 176 = .ok (.iconst 0, 1) := by decide +kernel
theorem dX6_turns_177 : decode cX6_turns 177 = .ok (.istore_n 3, 1) := by decide +kernel
theorem dX6_turns_178 : decode cX6_turns 178 = .ok (.iinc 4 1, 3) := by decide +kernel
theorem dX6_turns_181 : decode cX6_turns 181 = .ok (.goto (-54), 3) := by decide +kernel
theorem dX6_turns_184 : decode cX6_turns 184 = .ok (.aload_n 0, 1) := by decide +kernel
theorem dX6_turns_185 : decode cX6_turns 185 = .ok (.getfield 51, 3) := by decide +kernel
theorem dX6_turns_188 : decode cX6_turns 188 = .ok (.bipush 60, 2) := by decide +kernel
theorem dX6_turns_190 : decode cX6_turns 190 = .ok (.iload_n 1, 1) := by decide +kernel
theorem dX6_turns_191 : decode cX6_turns 191 = .ok (.imul, 1) := by decide +kernel
theorem dX6_turns_192 : decode cX6_turns 192 = .ok (.iload_n 2, 1) := by decide +kernel
theorem dX6_turns_193 : decode cX6_turns 193 = .ok (.iadd, 1) := by decide +kernel
theorem dX6_turns_194 : decode cX6_turns 194 = .ok (.aload_n 0, 1) := by decide +kernel
theorem dX6_turns_195 : decode cX6_turns 195 = .ok (.getfield 51, 3) := by decide +kernel
theorem dX6_turns_198 : decode cX6_turns 198 = .ok (.bipush 60, 2) := by decide +kernel
theorem dX6_turns_200 : decode cX6_turns 200 = .ok (.iload_n 1, 1) := by decide +kernel
theorem dX6_turns_201 : decode cX6_turns 201 = .ok (.imul, 1) := by decide +kernel
theorem dX6_turns_202 : decode cX6_turns 202 = .ok (.iload_n 2, 1) := by decide +kernel
theorem dX6_turns_203 : decode cX6_turns 203 = .ok (.iadd, 1) := by decide +kernel
theorem dX6_turns_204 : decode cX6_turns 204 = .ok (.baload, 1) := by decide +kernel
theorem dX6_turns_205 : decode cX6_turns 205 = .ok (.ifCond .eq 11, 3) := by decide +kernel
theorem dX6_turns_208 : decode cX6_turns 208 = .ok (.iload_n 3, 1) := by decide +kernel
theorem dX6_turns_209 : decode cX6_turns 209 = .ok (.ifCond .eq 7, 3) := by decide +kernel
theorem dX6_turns_212 : decode cX6_turns 212 = .ok (.iconst 1, 1) := by decide +kernel
theorem dX6_turns_213 : decode cX6_turns 213 = .ok (.goto 4, 3) := by decide +kernel
theorem dX6_turns_216 : decode cX6_turns 216 = .ok (.iconst 0, 1) := by decide +kernel
theorem dX6_turns_217 : decode cX6_turns 217 = .ok (.bastore, 1) := by decide +kernel
theorem dX6_turns_218 : decode cX6_turns 218 = .ok (.iinc 2 1, 3) := by decide +kernel
theorem dX6_turns_221 : decode cX6_turns 221 = .ok (.goto (-117), 3) := by decide +kernel
theorem dX6_turns_224 : decode cX6_turns 224 = .ok (.return_, 1) := by decide +kernel
set_option maxRecDepth 20000 in
theorem ggX6_goes_X6_isFallen : GoodIn wsX6_goes wsX6_isFallen := goodIn_r _ [10, 11, 12, 13, 14, 15, 41, 42, 43, 44, 45, 46, 47, 48, 49, 50, 51, 52, 53, 54, 55, 56, 57, 58, 59, 60, 61, 62, 63, 64, 65, 66, 67, 68, 69, 70, 71, 72, 73, 74, 75, 76, 77, 78, 79, 80] (by decide +kernel) (by decide +kernel)
set_option maxRecDepth 20000 in
theorem gX6_goes_X6_isFallen : GoodIn wsX6_goes (wsV RX6 130 RX6 yX6_isFallen wsX6_isFallen) := goodIn_app (goodIn_of _ (by decide +kernel)) ggX6_goes_X6_isFallen
set_option maxRecDepth 20000 in
theorem ggX6_goes_X6_copies : GoodIn wsX6_goes wsX6_copies := goodIn_r _ [19, 20, 2, 21, 3, 1, 22, 23, 24, 25, 26, 9, 27, 28, 29, 30, 31, 32, 33, 41, 42, 43, 44, 45, 46, 47, 48, 49, 50, 51, 52, 53, 54, 55, 56, 57, 58, 59, 60, 61, 62, 63, 64, 65, 66, 67, 68, 69, 70, 71, 72, 73, 74, 75, 76, 77, 78, 79, 80] (by decide +kernel) (by decide +kernel)
set_option maxRecDepth 20000 in
theorem gX6_goes_X6_copies : GoodIn wsX6_goes (wsV RX6 133 RX6 yX6_copies wsX6_copies) := goodIn_app (goodIn_of _ (by decide +kernel)) ggX6_goes_X6_copies
set_option maxRecDepth 20000 in
theorem ggX6_goes_X6_lacking : GoodIn wsX6_goes wsX6_lacking := goodIn_r _ [27, 28, 21, 3, 29, 30, 31, 9, 32, 33, 41, 42, 43, 44, 45, 46, 47, 48, 49, 50, 51, 52, 53, 54, 55, 56, 57, 58, 59, 60, 61, 62, 63, 64, 65, 66, 67, 68, 69, 70, 71, 72, 73, 74, 75, 76, 77, 78, 79, 80] (by decide +kernel) (by decide +kernel)
set_option maxRecDepth 20000 in
theorem gX6_goes_X6_lacking : GoodIn wsX6_goes (wsV RX6 126 RX6 yX6_lacking wsX6_lacking) := goodIn_app (goodIn_of _ (by decide +kernel)) ggX6_goes_X6_lacking
set_option maxRecDepth 20000 in
theorem ggX6_goes_X6_turns : GoodIn wsX6_goes wsX6_turns := goodIn_r _ [37, 38, 5, 39, 3, 1, 28, 40, 21, 29, 30, 31, 9, 32, 33, 41, 42, 43, 44, 45, 46, 47, 48, 49, 50, 51, 52, 53, 54, 55, 56, 57, 58, 59, 60, 61, 62, 63, 64, 65, 66, 67, 68, 69, 70, 71, 72, 73, 74, 75, 76, 77, 78, 79, 80] (by decide +kernel) (by decide +kernel)
set_option maxRecDepth 20000 in
theorem gX6_goes_X6_turns : GoodIn wsX6_goes (wsV RX6 136 RX6 yX6_turns wsX6_turns) := goodIn_app (goodIn_of _ (by decide +kernel)) ggX6_goes_X6_turns
theorem dX6_goes_0 : decode cX6_goes 0 = .ok (.aload_n 0, 1) := by decide +kernel
theorem dX6_goes_1 : decode cX6_goes 1 = .ok (.iload_n 1, 1) := by decide +kernel
theorem dX6_goes_2 : decode cX6_goes 2 = .ok (.invokevirtual 130, 3) := by decide +kernel
theorem dX6_goes_5 : decode cX6_goes 5 = .ok (.ifCond .eq 11, 3) := by decide +kernel
theorem dX6_goes_8 : decode cX6_goes 8 = .ok (.aload_n 0, 1) := by decide +kernel
theorem dX6_goes_9 : decode cX6_goes 9 = .ok (.getfield 41, 3) := by decide +kernel
theorem dX6_goes_12 : decode cX6_goes 12 = .ok (.iload_n 1, 1) := by decide +kernel
theorem dX6_goes_13 : decode cX6_goes 13 = .ok (.iconst 0, 1) := by decide +kernel
theorem dX6_goes_14 : decode cX6_goes 14 = .ok (.iastore, 1) := by decide +kernel
theorem dX6_goes_15 : decode cX6_goes 15 = .ok (.return_, 1) := by decide +kernel
theorem dX6_goes_16 : decode cX6_goes 16 = .ok (.aload_n 0, 1) := by decide +kernel
theorem dX6_goes_17 : decode cX6_goes 17 = .ok (.getfield 26, 3) := by decide +kernel
theorem dX6_goes_20 : decode cX6_goes 20 = .ok (.iload_n 1, 1) := by decide +kernel
theorem dX6_goes_21 : decode cX6_goes 21 = .ok (.iaload, 1) := by decide +kernel
theorem dX6_goes_22 : decode cX6_goes 22 = .ok (.ifCond .lt 17, 3) := by decide +kernel
theorem dX6_goes_25 : decode cX6_goes 25 = .ok (.aload_n 0, 1) := by decide +kernel
theorem dX6_goes_26 : decode cX6_goes 26 = .ok (.aload_n 0, 1) := by decide +kernel
theorem dX6_goes_27 : decode cX6_goes 27 = .ok (.getfield 26, 3) := by decide +kernel
theorem dX6_goes_30 : decode cX6_goes 30 = .ok (.iload_n 1, 1) := by decide +kernel
theorem dX6_goes_31 : decode cX6_goes 31 = .ok (.iaload, 1) := by decide +kernel
theorem dX6_goes_32 : decode cX6_goes 32 = .ok (.invokevirtual 130, 3) := by decide +kernel
theorem dX6_goes_35 : decode cX6_goes 35 = .ok (.ifCond .eq 4, 3) := by decide +kernel
theorem dX6_goes_38 : decode cX6_goes 38 = .ok (.return_, 1) := by decide +kernel
theorem dX6_goes_39 : decode cX6_goes 39 = .ok (.aload_n 0, 1) := by decide +kernel
theorem dX6_goes_40 : decode cX6_goes 40 = .ok (.getfield 38, 3) := by decide +kernel
theorem dX6_goes_43 : decode cX6_goes 43 = .ok (.iload_n 1, 1) := by decide +kernel
theorem dX6_goes_44 : decode cX6_goes 44 = .ok (.iaload, 1) := by decide +kernel
theorem dX6_goes_45 : decode cX6_goes 45 = .ok (.iconst (-1), 1) := by decide +kernel
theorem dX6_goes_46 : decode cX6_goes 46 = .ok (.if_icmp .ne 50, 3) := by decide +kernel
theorem dX6_goes_49 : decode cX6_goes 49 = .ok (.aload_n 0, 1) := by decide +kernel
theorem dX6_goes_50 : decode cX6_goes 50 = .ok (.getfield 26, 3) := by decide +kernel
theorem dX6_goes_53 : decode cX6_goes 53 = .ok (.iload_n 1, 1) := by decide +kernel
theorem dX6_goes_54 : decode cX6_goes 54 = .ok (.iaload, 1) := by decide +kernel
theorem dX6_goes_55 : decode cX6_goes 55 = .ok (.ifCond .ge 12, 3) := by decide +kernel
theorem dX6_goes_58 : decode cX6_goes 58 = .ok (.aload_n 0, 1) := by decide +kernel
theorem dX6_goes_59 : decode cX6_goes 59 = .ok (.getfield 16, 3) := by decide +kernel
theorem dX6_goes_62 : decode cX6_goes 62 = .ok (.iconst 1, 1) := by decide +kernel
theorem dX6_goes_63 : decode cX6_goes 63 = .ok (.isub, 1) := by decide +kernel
theorem dX6_goes_64 : decode cX6_goes 64 = .ok (.goto 14, 3) := by decide +kernel
theorem dX6_goes_67 : decode cX6_goes 67 = .ok (.aload_n 0, 1) := by decide +kernel
theorem dX6_goes_68 : decode cX6_goes 68 = .ok (.getfield 35, 3) := by decide +kernel
theorem dX6_goes_71 : decode cX6_goes 71 = .ok (.aload_n 0, 1) := by decide +kernel
theorem dX6_goes_72 : decode cX6_goes 72 = .ok (.getfield 26, 3) := by decide +kernel
theorem dX6_goes_75 : decode cX6_goes 75 = .ok (.iload_n 1, 1) := by decide +kernel
theorem dX6_goes_76 : decode cX6_goes 76 = .ok (.iaload, 1) := by decide +kernel
theorem dX6_goes_77 : decode cX6_goes 77 = .ok (.iaload, 1) := by decide +kernel
theorem dX6_goes_78 : decode cX6_goes 78 = .ok (.istore_n 2, 1) := by decide +kernel
theorem dX6_goes_79 : decode cX6_goes 79 = .ok (.iload_n 2, 1) := by decide +kernel
theorem dX6_goes_80 : decode cX6_goes 80 = .ok (.aload_n 0, 1) := by decide +kernel
theorem dX6_goes_81 : decode cX6_goes 81 = .ok (.getfield 35, 3) := by decide +kernel
theorem dX6_goes_84 : decode cX6_goes 84 = .ok (.iload_n 1, 1) := by decide +kernel
theorem dX6_goes_85 : decode cX6_goes 85 = .ok (.iaload, 1) := by decide +kernel
theorem dX6_goes_86 : decode cX6_goes 86 = .ok (.if_icmp .le 10, 3) := by decide +kernel
theorem dX6_goes_89 : decode cX6_goes 89 = .ok (.aload_n 0, 1) := by decide +kernel
theorem dX6_goes_90 : decode cX6_goes 90 = .ok (.getfield 38, 3) := by decide +kernel
theorem dX6_goes_93 : decode cX6_goes 93 = .ok (.iload_n 1, 1) := by decide +kernel
theorem dX6_goes_94 : decode cX6_goes 94 = .ok (.iload_n 2, 1) := by decide +kernel
theorem dX6_goes_95 : decode cX6_goes 95 = .ok (.iastore, 1) := by decide +kernel
theorem dX6_goes_96 : decode cX6_goes 96 = .ok (.aload_n 0, 1) := by decide +kernel
theorem dX6_goes_97 : decode cX6_goes 97 = .ok (.getfield 38, 3) := by decide +kernel
theorem dX6_goes_100 : decode cX6_goes 100 = .ok (.iload_n 1, 1) := by decide +kernel
theorem dX6_goes_101 : decode cX6_goes 101 = .ok (.iaload, 1) := by decide +kernel
theorem dX6_goes_102 : decode cX6_goes 102 = .ok (.iconst (-1), 1) := by decide +kernel
theorem dX6_goes_103 : decode cX6_goes 103 = .ok (.if_icmp .eq 11, 3) := by decide +kernel
theorem dX6_goes_106 : decode cX6_goes 106 = .ok (.aload_n 0, 1) := by decide +kernel
theorem dX6_goes_107 : decode cX6_goes 107 = .ok (.iload_n 1, 1) := by decide +kernel
theorem dX6_goes_108 : decode cX6_goes 108 = .ok (.invokevirtual 133, 3) := by decide +kernel
theorem dX6_goes_111 : decode cX6_goes 111 = .ok (.ifCond .ne 4, 3) := by decide +kernel
theorem dX6_goes_114 : decode cX6_goes 114 = .ok (.return_, 1) := by decide +kernel
theorem dX6_goes_115 : decode cX6_goes 115 = .ok (.aload_n 0, 1) := by decide +kernel
theorem dX6_goes_116 : decode cX6_goes 116 = .ok (.iload_n 1, 1) := by decide +kernel
theorem dX6_goes_117 : decode cX6_goes 117 = .ok (.invokevirtual 126, 3) := by decide +kernel
theorem dX6_goes_120 : decode cX6_goes 120 = .ok (.ifCond .ge 8, 3) := by decide +kernel
theorem dX6_goes_123 : decode cX6_goes 123 = .ok (.aload_n 0, 1) := by decide +kernel
theorem dX6_goes_124 : decode cX6_goes 124 = .ok (.iload_n 1, 1) := by decide +kernel
theorem dX6_goes_125 : decode cX6_goes 125 = .ok (.invokevirtual 136, 3) := by decide +kernel
theorem dX6_goes_128 : decode cX6_goes 128 = .ok (.return_, 1) := by decide +kernel
set_option maxRecDepth 20000 in
theorem ggX6_pass_X6_in : GoodIn wsX6_pass wsX6_in := goodIn_r _ [6] (by decide +kernel) (by decide +kernel)
set_option maxRecDepth 20000 in
theorem gX6_pass_X6_in : GoodIn wsX6_pass (va_wsS RX6 99 yX6_in wsX6_in) := goodIn_app (goodIn_of _ (by decide +kernel)) ggX6_pass_X6_in
set_option maxRecDepth 20000 in
theorem ggX6_pass_X6_goes : GoodIn wsX6_pass wsX6_goes := goodIn_r _ [10, 11, 12, 13, 14, 15, 16, 17, 18, 5, 19, 20, 21, 22, 1, 23, 24, 25, 26, 27, 28, 29, 30, 31, 32, 33, 34, 35, 36, 37, 38, 39, 40, 41, 42, 43, 44, 45, 46, 47, 48, 49, 50, 51, 52, 53, 54, 55, 56, 57, 58, 59, 60, 61, 62, 63, 64, 65, 66, 67, 68, 69, 70, 71, 72, 73, 74, 75, 76, 77, 78, 79, 80, 81, 82, 83, 84, 85, 86, 87, 88] (by decide +kernel) (by decide +kernel)
set_option maxRecDepth 20000 in
theorem gX6_pass_X6_goes : GoodIn wsX6_pass (wsV RX6 140 RX6 yX6_goes wsX6_goes) := goodIn_app (goodIn_of _ (by decide +kernel)) ggX6_pass_X6_goes
theorem dX6_pass_0 : decode cX6_pass 0 = .ok (.iload_n 1, 1) := by decide +kernel
theorem dX6_pass_1 : decode cX6_pass 1 = .ok (.iconst 1, 1) := by decide +kernel
theorem dX6_pass_2 : decode cX6_pass 2 = .ok (.sipush 500, 3) := by decide +kernel
theorem dX6_pass_5 : decode cX6_pass 5 = .ok (.invokestatic 99, 3) := by decide +kernel
theorem dX6_pass_8 : decode cX6_pass 8 = .ok (.ifCond .eq 15, 3) := by decide +kernel
theorem dX6_pass_11 : decode cX6_pass 11 = .ok (.aload_n 0, 1) := by decide +kernel
theorem dX6_pass_12 : decode cX6_pass 12 = .ok (.getfield 103, 3) := by decide +kernel
theorem dX6_pass_15 : decode cX6_pass 15 = .ok (.iload_n 1, 1) := by decide +kernel
theorem dX6_pass_16 : decode cX6_pass 16 = .ok (.iadd, 1) := by decide +kernel
theorem dX6_pass_17 : decode cX6_pass 17 = .ok (.sipush 9999, 3) := by decide +kernel
theorem dX6_pass_20 : decode cX6_pass 20 = .ok (.if_icmp .le 5, 3) := by decide +kernel
theorem dX6_pass_23 : decode cX6_pass 23 = .ok (.iconst (-1), 1) := by decide +kernel
theorem dX6_pass_24 : decode cX6_pass 24 = .ok (.ireturn, 1) := by decide +kernel
theorem dX6_pass_25 : decode cX6_pass 25 = .ok (.iconst 0, 1) := by decide +kernel
theorem dX6_pass_26 : decode cX6_pass 26 = .ok (.istore_n 2, 1) := by decide +kernel
theorem dX6_pass_27 : decode cX6_pass 27 = .ok (.iload_n 2, 1) := by decide +kernel
theorem dX6_pass_28 : decode cX6_pass 28 = .ok (.iload_n 1, 1) := by decide +kernel
theorem dX6_pass_29 : decode cX6_pass 29 = .ok (.if_icmp .ge 40, 3) := by decide +kernel
theorem dX6_pass_32 : decode cX6_pass 32 = .ok (.iconst 0, 1) := by decide +kernel
theorem dX6_pass_33 : decode cX6_pass 33 = .ok (.istore_n 3, 1) := by decide +kernel
theorem dX6_pass_34 : decode cX6_pass 34 = .ok (.iload_n 3, 1) := by decide +kernel
theorem dX6_pass_35 : decode cX6_pass 35 = .ok (.aload_n 0, 1) := by decide +kernel
theorem dX6_pass_36 : decode cX6_pass 36 = .ok (.getfield 113, 3) := by decide +kernel
theorem dX6_pass_39 : decode cX6_pass 39 = .ok (.if_icmp .ge 14, 3) := by decide +kernel
theorem dX6_pass_42 : decode cX6_pass 42 = .ok (.aload_n 0, 1) := by decide +kernel
theorem dX6_pass_43 : decode cX6_pass 43 = .ok (.iload_n 3, 1) := by decide +kernel
theorem dX6_pass_44 : decode cX6_pass 44 = .ok (.invokevirtual 140, 3) := by decide +kernel
theorem dX6_pass_47 : decode cX6_pass 47 = .ok (.iinc 3 1, 3) := by decide +kernel
theorem dX6_pass_50 : decode cX6_pass 50 = .ok (.goto (-16), 3) := by decide +kernel
theorem dX6_pass_53 : decode cX6_pass 53 = .ok (.aload_n 0, 1) := by decide +kernel
theorem dX6_pass_54 : decode cX6_pass 54 = .ok (.dup, 1) := by decide +kernel
theorem dX6_pass_55 : decode cX6_pass 55 = .ok (.getfield 103, 3) := by decide +kernel
theorem dX6_pass_58 : decode cX6_pass 58 = .ok (.iconst 1, 1) := by decide +kernel
theorem dX6_pass_59 : decode cX6_pass 59 = .ok (.iadd, 1) := by decide +kernel
theorem dX6_pass_60 : decode cX6_pass 60 = .ok (.putfield 103, 3) := by decide +kernel
theorem dX6_pass_63 : decode cX6_pass 63 = .ok (.iinc 2 1, 3) := by decide +kernel
theorem dX6_pass_66 : decode cX6_pass 66 = .ok (.goto (-39), 3) := by decide +kernel
theorem dX6_pass_69 : decode cX6_pass 69 = .ok (.aload_n 0, 1) := by decide +kernel
theorem dX6_pass_70 : decode cX6_pass 70 = .ok (.getfield 103, 3) := by decide +kernel
theorem dX6_pass_73 : decode cX6_pass 73 = .ok (.ireturn, 1) := by decide +kernel
set_option maxRecDepth 20000 in
theorem ggX6_isAsker_X6_in : GoodIn wsX6_isAsker wsX6_in := goodIn_r _ [4] (by decide +kernel) (by decide +kernel)
set_option maxRecDepth 20000 in
theorem gX6_isAsker_X6_in : GoodIn wsX6_isAsker (va_wsS RX6 99 yX6_in wsX6_in) := goodIn_app (goodIn_of _ (by decide +kernel)) ggX6_isAsker_X6_in
theorem dX6_isAsker_0 : decode cX6_isAsker 0 = .ok (.iload_n 0, 1) := by decide +kernel
theorem dX6_isAsker_1 : decode cX6_isAsker 1 = .ok (.iconst 0, 1) := by decide +kernel
theorem dX6_isAsker_2 : decode cX6_isAsker 2 = .ok (.iconst 5, 1) := by decide +kernel
theorem dX6_isAsker_3 : decode cX6_isAsker 3 = .ok (.invokestatic 99, 3) := by decide +kernel
theorem dX6_isAsker_6 : decode cX6_isAsker 6 = .ok (.ireturn, 1) := by decide +kernel
set_option maxRecDepth 20000 in
theorem ggX6_cost_X6_isAsker : GoodIn wsX6_cost wsX6_isAsker := goodIn_r _ [5, 6, 7, 4, 8] (by decide +kernel) (by decide +kernel)
set_option maxRecDepth 20000 in
theorem gX6_cost_X6_isAsker : GoodIn wsX6_cost (va_wsS RX6 143 yX6_isAsker wsX6_isAsker) := goodIn_app (goodIn_of _ (by decide +kernel)) ggX6_cost_X6_isAsker
set_option maxRecDepth 20000 in
theorem ggX6_cost_X6_isMirror : GoodIn wsX6_cost wsX6_isMirror := goodIn_r _ [12, 13, 6, 7, 4, 8, 14, 15, 16, 17, 18, 19, 20, 21, 22, 23, 24, 25, 26, 27, 28, 29, 30, 31, 32, 33, 34, 35, 36, 37, 38, 39, 40, 41, 42, 43, 44, 45, 46, 47, 48, 49, 50, 51, 52, 53] (by decide +kernel) (by decide +kernel)
set_option maxRecDepth 20000 in
theorem gX6_cost_X6_isMirror : GoodIn wsX6_cost (wsV RX6 116 RX6 yX6_isMirror wsX6_isMirror) := goodIn_app (goodIn_of _ (by decide +kernel)) ggX6_cost_X6_isMirror
set_option maxRecDepth 20000 in
theorem ggX6_cost_X6_in : GoodIn wsX6_cost wsX6_in := goodIn_r _ [8] (by decide +kernel) (by decide +kernel)
set_option maxRecDepth 20000 in
theorem gX6_cost_X6_in : GoodIn wsX6_cost (va_wsS RX6 99 yX6_in wsX6_in) := goodIn_app (goodIn_of _ (by decide +kernel)) ggX6_cost_X6_in
theorem dX6_cost_0 : decode cX6_cost 0 = .ok (.iload_n 1, 1) := by decide +kernel
theorem dX6_cost_1 : decode cX6_cost 1 = .ok (.invokestatic 143, 3) := by decide +kernel
theorem dX6_cost_4 : decode cX6_cost 4 = .ok (.ifCond .eq 21, 3) := by decide +kernel
theorem dX6_cost_7 : decode cX6_cost 7 = .ok (.aload_n 0, 1) := by decide +kernel
theorem dX6_cost_8 : decode cX6_cost 8 = .ok (.iload_n 2, 1) := by decide +kernel
theorem dX6_cost_9 : decode cX6_cost 9 = .ok (.invokevirtual 116, 3) := by decide +kernel
theorem dX6_cost_12 : decode cX6_cost 12 = .ok (.ifCond .eq 13, 3) := by decide +kernel
theorem dX6_cost_15 : decode cX6_cost 15 = .ok (.iload_n 3, 1) := by decide +kernel
theorem dX6_cost_16 : decode cX6_cost 16 = .ok (.iconst (-1), 1) := by decide +kernel
theorem dX6_cost_17 : decode cX6_cost 17 = .ok (.bipush 100, 2) := by decide +kernel
theorem dX6_cost_19 : decode cX6_cost 19 = .ok (.invokestatic 99, 3) := by decide +kernel
theorem dX6_cost_22 : decode cX6_cost 22 = .ok (.ifCond .ne 6, 3) := by decide +kernel
theorem dX6_cost_25 : decode cX6_cost 25 = .ok (.bipush (-2), 2) := by decide +kernel
theorem dX6_cost_27 : decode cX6_cost 27 = .ok (.ireturn, 1) := by decide +kernel
theorem dX6_cost_28 : decode cX6_cost 28 = .ok (.aload_n 0, 1) := by decide +kernel
theorem dX6_cost_29 : decode cX6_cost 29 = .ok (.getfield 72, 3) := by decide +kernel
theorem dX6_cost_32 : decode cX6_cost 32 = .ok (.bipush 8, 2) := by decide +kernel
theorem dX6_cost_34 : decode cX6_cost 34 = .ok (.iload_n 1, 1) := by decide +kernel
theorem dX6_cost_35 : decode cX6_cost 35 = .ok (.imul, 1) := by decide +kernel
theorem dX6_cost_36 : decode cX6_cost 36 = .ok (.iload_n 2, 1) := by decide +kernel
theorem dX6_cost_37 : decode cX6_cost 37 = .ok (.iadd, 1) := by decide +kernel
theorem dX6_cost_38 : decode cX6_cost 38 = .ok (.iaload, 1) := by decide +kernel
theorem dX6_cost_39 : decode cX6_cost 39 = .ok (.istore 4, 2) := by decide +kernel
theorem dX6_cost_41 : decode cX6_cost 41 = .ok (.aload_n 0, 1) := by decide +kernel
theorem dX6_cost_42 : decode cX6_cost 42 = .ok (.getfield 72, 3) := by decide +kernel
theorem dX6_cost_45 : decode cX6_cost 45 = .ok (.bipush 8, 2) := by decide +kernel
theorem dX6_cost_47 : decode cX6_cost 47 = .ok (.iload_n 1, 1) := by decide +kernel
theorem dX6_cost_48 : decode cX6_cost 48 = .ok (.imul, 1) := by decide +kernel
theorem dX6_cost_49 : decode cX6_cost 49 = .ok (.iload_n 2, 1) := by decide +kernel
theorem dX6_cost_50 : decode cX6_cost 50 = .ok (.iadd, 1) := by decide +kernel
theorem dX6_cost_51 : decode cX6_cost 51 = .ok (.iload_n 3, 1) := by decide +kernel
theorem dX6_cost_52 : decode cX6_cost 52 = .ok (.iastore, 1) := by decide +kernel
theorem dX6_cost_53 : decode cX6_cost 53 = .ok (.iload 4, 2) := by decide +kernel
theorem dX6_cost_55 : decode cX6_cost 55 = .ok (.ireturn, 1) := by decide +kernel
set_option maxRecDepth 20000 in
theorem ggX6_bears_X6_isAsker : GoodIn wsX6_bears wsX6_isAsker := goodIn_r _ [5, 6, 7, 4, 8] (by decide +kernel) (by decide +kernel)
set_option maxRecDepth 20000 in
theorem gX6_bears_X6_isAsker : GoodIn wsX6_bears (va_wsS RX6 143 yX6_isAsker wsX6_isAsker) := goodIn_app (goodIn_of _ (by decide +kernel)) ggX6_bears_X6_isAsker
set_option maxRecDepth 20000 in
theorem ggX6_bears_X6_in : GoodIn wsX6_bears wsX6_in := goodIn_r _ [8] (by decide +kernel) (by decide +kernel)
set_option maxRecDepth 20000 in
theorem gX6_bears_X6_in : GoodIn wsX6_bears (va_wsS RX6 99 yX6_in wsX6_in) := goodIn_app (goodIn_of _ (by decide +kernel)) ggX6_bears_X6_in
theorem dX6_bears_0 : decode cX6_bears 0 = .ok (.iload_n 1, 1) := by decide +kernel
theorem dX6_bears_1 : decode cX6_bears 1 = .ok (.invokestatic 143, 3) := by decide +kernel
theorem dX6_bears_4 : decode cX6_bears 4 = .ok (.ifCond .eq 14, 3) := by decide +kernel
theorem dX6_bears_7 : decode cX6_bears 7 = .ok (.iload_n 2, 1) := by decide +kernel
theorem dX6_bears_8 : decode cX6_bears 8 = .ok (.iconst 0, 1) := by decide +kernel
theorem dX6_bears_9 : decode cX6_bears 9 = .ok (.sipush 9999, 3) := by decide +kernel
theorem dX6_bears_12 : decode cX6_bears 12 = .ok (.invokestatic 99, 3) := by decide +kernel
theorem dX6_bears_15 : decode cX6_bears 15 = .ok (.ifCond .ne 5, 3) := by decide +kernel
theorem dX6_bears_18 : decode cX6_bears 18 = .ok (.iconst (-1), 1) := by decide +kernel
theorem dX6_bears_19 : decode cX6_bears 19 = .ok (.ireturn, 1) := by decide +kernel
theorem dX6_bears_20 : decode cX6_bears 20 = .ok (.aload_n 0, 1) := by decide +kernel
theorem dX6_bears_21 : decode cX6_bears 21 = .ok (.getfield 75, 3) := by decide +kernel
theorem dX6_bears_24 : decode cX6_bears 24 = .ok (.iload_n 1, 1) := by decide +kernel
theorem dX6_bears_25 : decode cX6_bears 25 = .ok (.iaload, 1) := by decide +kernel
theorem dX6_bears_26 : decode cX6_bears 26 = .ok (.istore_n 3, 1) := by decide +kernel
theorem dX6_bears_27 : decode cX6_bears 27 = .ok (.aload_n 0, 1) := by decide +kernel
theorem dX6_bears_28 : decode cX6_bears 28 = .ok (.getfield 75, 3) := by decide +kernel
theorem dX6_bears_31 : decode cX6_bears 31 = .ok (.iload_n 1, 1) := by decide +kernel
theorem dX6_bears_32 : decode cX6_bears 32 = .ok (.iload_n 2, 1) := by decide +kernel
theorem dX6_bears_33 : decode cX6_bears 33 = .ok (.iastore, 1) := by decide +kernel
theorem dX6_bears_34 : decode cX6_bears 34 = .ok (.iload_n 3, 1) := by decide +kernel
theorem dX6_bears_35 : decode cX6_bears 35 = .ok (.ireturn, 1) := by decide +kernel
set_option maxRecDepth 20000 in
theorem ggX6_grace_X6_in : GoodIn wsX6_grace wsX6_in := goodIn_r _ [5] (by decide +kernel) (by decide +kernel)
set_option maxRecDepth 20000 in
theorem gX6_grace_X6_in : GoodIn wsX6_grace (va_wsS RX6 99 yX6_in wsX6_in) := goodIn_app (goodIn_of _ (by decide +kernel)) ggX6_grace_X6_in
theorem dX6_grace_0 : decode cX6_grace 0 = .ok (.iload_n 1, 1) := by decide +kernel
theorem dX6_grace_1 : decode cX6_grace 1 = .ok (.iconst 0, 1) := by decide +kernel
theorem dX6_grace_2 : decode cX6_grace 2 = .ok (.sipush 9999, 3) := by decide +kernel
theorem dX6_grace_5 : decode cX6_grace 5 = .ok (.invokestatic 99, 3) := by decide +kernel
theorem dX6_grace_8 : decode cX6_grace 8 = .ok (.ifCond .ne 5, 3) := by decide +kernel
theorem dX6_grace_11 : decode cX6_grace 11 = .ok (.iconst (-1), 1) := by decide +kernel
theorem dX6_grace_12 : decode cX6_grace 12 = .ok (.ireturn, 1) := by decide +kernel
theorem dX6_grace_13 : decode cX6_grace 13 = .ok (.aload_n 0, 1) := by decide +kernel
theorem dX6_grace_14 : decode cX6_grace 14 = .ok (.getfield 69, 3) := by decide +kernel
theorem dX6_grace_17 : decode cX6_grace 17 = .ok (.istore_n 2, 1) := by decide +kernel
theorem dX6_grace_18 : decode cX6_grace 18 = .ok (.aload_n 0, 1) := by decide +kernel
theorem dX6_grace_19 : decode cX6_grace 19 = .ok (.iload_n 1, 1) := by decide +kernel
theorem dX6_grace_20 : decode cX6_grace 20 = .ok (.putfield 69, 3) := by decide +kernel
theorem dX6_grace_23 : decode cX6_grace 23 = .ok (.iload_n 2, 1) := by decide +kernel
theorem dX6_grace_24 : decode cX6_grace 24 = .ok (.ireturn, 1) := by decide +kernel
set_option maxRecDepth 20000 in
theorem ggX6_forgives_X6_isAsker : GoodIn wsX6_forgives wsX6_isAsker := goodIn_r _ [5, 6, 7, 4, 8] (by decide +kernel) (by decide +kernel)
set_option maxRecDepth 20000 in
theorem gX6_forgives_X6_isAsker : GoodIn wsX6_forgives (va_wsS RX6 143 yX6_isAsker wsX6_isAsker) := goodIn_app (goodIn_of _ (by decide +kernel)) ggX6_forgives_X6_isAsker
theorem dX6_forgives_0 : decode cX6_forgives 0 = .ok (.iload_n 1, 1) := by decide +kernel
theorem dX6_forgives_1 : decode cX6_forgives 1 = .ok (.invokestatic 143, 3) := by decide +kernel
theorem dX6_forgives_4 : decode cX6_forgives 4 = .ok (.ifCond .ne 5, 3) := by decide +kernel
theorem dX6_forgives_7 : decode cX6_forgives 7 = .ok (.iconst (-1), 1) := by decide +kernel
theorem dX6_forgives_8 : decode cX6_forgives 8 = .ok (.ireturn, 1) := by decide +kernel
theorem dX6_forgives_9 : decode cX6_forgives 9 = .ok (.iconst 0, 1) := by decide +kernel
theorem dX6_forgives_10 : decode cX6_forgives 10 = .ok (.istore_n 2, 1) := by decide +kernel
theorem dX6_forgives_11 : decode cX6_forgives 11 = .ok (.iconst 0, 1) := by decide +kernel
theorem dX6_forgives_12 : decode cX6_forgives 12 = .ok (.istore_n 3, 1) := by decide +kernel
theorem dX6_forgives_13 : decode cX6_forgives 13 = .ok (.iload_n 3, 1) := by decide +kernel
theorem dX6_forgives_14 : decode cX6_forgives 14 = .ok (.bipush 8, 2) := by decide +kernel
theorem dX6_forgives_16 : decode cX6_forgives 16 = .ok (.if_icmp .ge 22, 3) := by decide +kernel
theorem dX6_forgives_19 : decode cX6_forgives 19 = .ok (.iload_n 2, 1) := by decide +kernel
theorem dX6_forgives_20 : decode cX6_forgives 20 = .ok (.aload_n 0, 1) := by decide +kernel
theorem dX6_forgives_21 : decode cX6_forgives 21 = .ok (.getfield 81, 3) := by decide +kernel
theorem dX6_forgives_24 : decode cX6_forgives 24 = .ok (.iload_n 1, 1) := by decide +kernel
theorem dX6_forgives_25 : decode cX6_forgives 25 = .ok (.iaload, 1) := by decide +kernel
theorem dX6_forgives_26 : decode cX6_forgives 26 = .ok (.iload_n 3, 1) := by decide +kernel
theorem dX6_forgives_27 : decode cX6_forgives 27 = .ok (.ishr, 1) := by decide +kernel
theorem dX6_forgives_28 : decode cX6_forgives 28 = .ok (.iconst 1, 1) := by decide +kernel
theorem dX6_forgives_29 : decode cX6_forgives 29 = .ok (.iand, 1) := by decide +kernel
theorem dX6_forgives_30 : decode cX6_forgives 30 = .ok (.iadd, 1) := by decide +kernel
theorem dX6_forgives_31 : decode cX6_forgives 31 = .ok (.istore_n 2, 1) := by decide +kernel
theorem dX6_forgives_32 : decode cX6_forgives 32 = .ok (.iinc 3 1, 3) := by decide +kernel
theorem dX6_forgives_35 : decode cX6_forgives 35 = .ok (.goto (-22), 3) := by decide +kernel
theorem dX6_forgives_38 : decode cX6_forgives 38 = .ok (.aload_n 0, 1) := by decide +kernel
theorem dX6_forgives_39 : decode cX6_forgives 39 = .ok (.getfield 81, 3) := by decide +kernel
theorem dX6_forgives_42 : decode cX6_forgives 42 = .ok (.iload_n 1, 1) := by decide +kernel
theorem dX6_forgives_43 : decode cX6_forgives 43 = .ok (.iconst 0, 1) := by decide +kernel
theorem dX6_forgives_44 : decode cX6_forgives 44 = .ok (.iastore, 1) := by decide +kernel
theorem dX6_forgives_45 : decode cX6_forgives 45 = .ok (.iload_n 2, 1) := by decide +kernel
theorem dX6_forgives_46 : decode cX6_forgives 46 = .ok (.ireturn, 1) := by decide +kernel
theorem dX6_ageOf_0 : decode cX6_ageOf 0 = .ok (.iload_n 1, 1) := by decide +kernel
theorem dX6_ageOf_1 : decode cX6_ageOf 1 = .ok (.aload_n 0, 1) := by decide +kernel
theorem dX6_ageOf_2 : decode cX6_ageOf 2 = .ok (.getfield 16, 3) := by decide +kernel
theorem dX6_ageOf_5 : decode cX6_ageOf 5 = .ok (.iconst 1, 1) := by decide +kernel
theorem dX6_ageOf_6 : decode cX6_ageOf 6 = .ok (.isub, 1) := by decide +kernel
theorem dX6_ageOf_7 : decode cX6_ageOf 7 = .ok (.if_icmp .ne 7, 3) := by decide +kernel
theorem dX6_ageOf_10 : decode cX6_ageOf 10 = .ok (.iconst 0, 1) := by decide +kernel
theorem dX6_ageOf_11 : decode cX6_ageOf 11 = .ok (.goto 16, 3) := by decide +kernel
theorem dX6_ageOf_14 : decode cX6_ageOf 14 = .ok (.aload_n 0, 1) := by decide +kernel
theorem dX6_ageOf_15 : decode cX6_ageOf 15 = .ok (.getfield 103, 3) := by decide +kernel
theorem dX6_ageOf_18 : decode cX6_ageOf 18 = .ok (.aload_n 0, 1) := by decide +kernel
theorem dX6_ageOf_19 : decode cX6_ageOf 19 = .ok (.getfield 20, 3) := by decide +kernel
theorem dX6_ageOf_22 : decode cX6_ageOf 22 = .ok (.iload_n 1, 1) := by decide +kernel
theorem dX6_ageOf_23 : decode cX6_ageOf 23 = .ok (.iconst 1, 1) := by decide +kernel
theorem dX6_ageOf_24 : decode cX6_ageOf 24 = .ok (.iadd, 1) := by decide +kernel
theorem dX6_ageOf_25 : decode cX6_ageOf 25 = .ok (.iaload, 1) := by decide +kernel
theorem dX6_ageOf_26 : decode cX6_ageOf 26 = .ok (.isub, 1) := by decide +kernel
theorem dX6_ageOf_27 : decode cX6_ageOf 27 = .ok (.ireturn, 1) := by decide +kernel
set_option maxRecDepth 20000 in
theorem ggX6_isGood_X6_ageOf : GoodIn wsX6_isGood wsX6_ageOf := goodIn_r _ [10, 11, 4, 12, 13, 14, 15, 16, 17, 18, 19, 20, 21, 22, 23, 24, 25, 26, 27, 28, 29, 30, 31, 32, 33, 34, 35, 36, 37, 38, 39, 40, 41, 42, 43, 44, 45, 46, 47, 48, 49, 50, 51, 52] (by decide +kernel) (by decide +kernel)
set_option maxRecDepth 20000 in
theorem gX6_isGood_X6_ageOf : GoodIn wsX6_isGood (wsV RX6 146 RX6 yX6_ageOf wsX6_ageOf) := goodIn_app (goodIn_of _ (by decide +kernel)) ggX6_isGood_X6_ageOf
theorem dX6_isGood_0 : decode cX6_isGood 0 = .ok (.iload_n 2, 1) := by decide +kernel
theorem dX6_isGood_1 : decode cX6_isGood 1 = .ok (.iload_n 3, 1) := by decide +kernel
theorem dX6_isGood_2 : decode cX6_isGood 2 = .ok (.if_icmp .lt 17, 3) := by decide +kernel
theorem dX6_isGood_5 : decode cX6_isGood 5 = .ok (.aload_n 0, 1) := by decide +kernel
theorem dX6_isGood_6 : decode cX6_isGood 6 = .ok (.iload_n 2, 1) := by decide +kernel
theorem dX6_isGood_7 : decode cX6_isGood 7 = .ok (.invokevirtual 146, 3) := by decide +kernel
theorem dX6_isGood_10 : decode cX6_isGood 10 = .ok (.aload_n 0, 1) := by decide +kernel
theorem dX6_isGood_11 : decode cX6_isGood 11 = .ok (.getfield 75, 3) := by decide +kernel
theorem dX6_isGood_14 : decode cX6_isGood 14 = .ok (.iload_n 1, 1) := by decide +kernel
theorem dX6_isGood_15 : decode cX6_isGood 15 = .ok (.iaload, 1) := by decide +kernel
theorem dX6_isGood_16 : decode cX6_isGood 16 = .ok (.if_icmp .le 5, 3) := by decide +kernel
theorem dX6_isGood_19 : decode cX6_isGood 19 = .ok (.iconst 0, 1) := by decide +kernel
theorem dX6_isGood_20 : decode cX6_isGood 20 = .ok (.ireturn, 1) := by decide +kernel
theorem dX6_isGood_21 : decode cX6_isGood 21 = .ok (.iconst 0, 1) := by decide +kernel
theorem dX6_isGood_22 : decode cX6_isGood 22 = .ok (.istore 4, 2) := by decide +kernel
theorem dX6_isGood_24 : decode cX6_isGood 24 = .ok (.iload 4, 2) := by decide +kernel
theorem dX6_isGood_26 : decode cX6_isGood 26 = .ok (.bipush 12, 2) := by decide +kernel
theorem dX6_isGood_28 : decode cX6_isGood 28 = .ok (.if_icmp .ge 60, 3) := by decide +kernel
theorem dX6_isGood_31 : decode cX6_isGood 31 = .ok (.aload_n 0, 1) := by decide +kernel
theorem dX6_isGood_32 : decode cX6_isGood 32 = .ok (.getfield 23, 3) := by decide +kernel
theorem dX6_isGood_35 : decode cX6_isGood 35 = .ok (.bipush 12, 2) := by decide +kernel
theorem dX6_isGood_37 : decode cX6_isGood 37 = .ok (.iload_n 2, 1) := by decide +kernel
theorem dX6_isGood_38 : decode cX6_isGood 38 = .ok (.imul, 1) := by decide +kernel
theorem dX6_isGood_39 : decode cX6_isGood 39 = .ok (.iload 4, 2) := by decide +kernel
theorem dX6_isGood_41 : decode cX6_isGood 41 = .ok (.iadd, 1) := by decide +kernel
theorem dX6_isGood_42 : decode cX6_isGood 42 = .ok (.iaload, 1) := by decide +kernel
theorem dX6_isGood_43 : decode cX6_isGood 43 = .ok (.istore 5, 2) := by decide +kernel
theorem dX6_isGood_45 : decode cX6_isGood 45 = .ok (.iload 5, 2) := by decide +kernel
theorem dX6_isGood_47 : decode cX6_isGood 47 = .ok (.ifCond .lt 35, 3) := by decide +kernel
theorem dX6_isGood_50 : decode cX6_isGood 50 = .ok (.aload_n 0, 1) := by decide +kernel
theorem dX6_isGood_51 : decode cX6_isGood 51 = .ok (.getfield 13, 3) := by decide +kernel
theorem dX6_isGood_54 : decode cX6_isGood 54 = .ok (.iload 5, 2) := by decide +kernel
theorem dX6_isGood_56 : decode cX6_isGood 56 = .ok (.iaload, 1) := by decide +kernel
theorem dX6_isGood_57 : decode cX6_isGood 57 = .ok (.iconst (-1), 1) := by decide +kernel
theorem dX6_isGood_58 : decode cX6_isGood 58 = .ok (.if_icmp .eq 24, 3) := by decide +kernel
theorem dX6_isGood_61 : decode cX6_isGood 61 = .ok (.aload_n 0, 1) := by decide +kernel
theorem dX6_isGood_62 : decode cX6_isGood 62 = .ok (.getfield 103, 3) := by decide +kernel
theorem dX6_isGood_65 : decode cX6_isGood 65 = .ok (.aload_n 0, 1) := by decide +kernel
theorem dX6_isGood_66 : decode cX6_isGood 66 = .ok (.getfield 13, 3) := by decide +kernel
theorem dX6_isGood_69 : decode cX6_isGood 69 = .ok (.iload 5, 2) := by decide +kernel
theorem dX6_isGood_71 : decode cX6_isGood 71 = .ok (.iaload, 1) := by decide +kernel
theorem dX6_isGood_72 : decode cX6_isGood 72 = .ok (.isub, 1) := by decide +kernel
theorem dX6_isGood_73 : decode cX6_isGood 73 = .ok (.aload_n 0, 1) := by decide +kernel
theorem dX6_isGood_74 : decode cX6_isGood 74 = .ok (.getfield 69, 3) := by decide +kernel
theorem dX6_isGood_77 : decode cX6_isGood 77 = .ok (.if_icmp .le 5, 3) := by decide +kernel
theorem dX6_isGood_80 : decode cX6_isGood 80 = .ok (.iconst 0, 1) := by decide +kernel
theorem dX6_isGood_81 : decode cX6_isGood 81 = .ok (.ireturn, 1) := by decide +kernel
theorem dX6_isGood_82 : decode cX6_isGood 82 = .ok (.iinc 4 1, 3) := by decide +kernel
theorem dX6_isGood_85 : decode cX6_isGood 85 = .ok (.goto (-61), 3) := by decide +kernel
theorem dX6_isGood_88 : decode cX6_isGood 88 = .ok (.iconst 1, 1) := by decide +kernel
theorem dX6_isGood_89 : decode cX6_isGood 89 = .ok (.ireturn, 1) := by decide +kernel
theorem dX6_orders_0 : decode cX6_orders 0 = .ok (.aload_n 0, 1) := by decide +kernel
theorem dX6_orders_1 : decode cX6_orders 1 = .ok (.iconst 0, 1) := by decide +kernel
theorem dX6_orders_2 : decode cX6_orders 2 = .ok (.putfield 149, 3) := by decide +kernel
theorem dX6_orders_5 : decode cX6_orders 5 = .ok (.iconst 0, 1) := by decide +kernel
theorem dX6_orders_6 : decode cX6_orders 6 = .ok (.istore_n 2, 1) := by decide +kernel
theorem dX6_orders_7 : decode cX6_orders 7 = .ok (.iload_n 2, 1) := by decide +kernel
theorem dX6_orders_8 : decode cX6_orders 8 = .ok (.aload_n 0, 1) := by decide +kernel
theorem dX6_orders_9 : decode cX6_orders 9 = .ok (.getfield 113, 3) := by decide +kernel
theorem dX6_orders_12 : decode cX6_orders 12 = .ok (.if_icmp .ge 118, 3) := by decide +kernel
theorem dX6_orders_15 : decode cX6_orders 15 = .ok (.aload_n 0, 1) := by decide +kernel
theorem dX6_orders_16 : decode cX6_orders 16 = .ok (.getfield 72, 3) := by decide +kernel
theorem dX6_orders_19 : decode cX6_orders 19 = .ok (.bipush 8, 2) := by decide +kernel
theorem dX6_orders_21 : decode cX6_orders 21 = .ok (.iload_n 1, 1) := by decide +kernel
theorem dX6_orders_22 : decode cX6_orders 22 = .ok (.imul, 1) := by decide +kernel
theorem dX6_orders_23 : decode cX6_orders 23 = .ok (.iload_n 2, 1) := by decide +kernel
theorem dX6_orders_24 : decode cX6_orders 24 = .ok (.iadd, 1) := by decide +kernel
theorem dX6_orders_25 : decode cX6_orders 25 = .ok (.iaload, 1) := by decide +kernel
theorem dX6_orders_26 : decode cX6_orders 26 = .ok (.ifCond .lt 98, 3) := by decide +kernel
theorem dX6_orders_29 : decode cX6_orders 29 = .ok (.aload_n 0, 1) := by decide +kernel
theorem dX6_orders_30 : decode cX6_orders 30 = .ok (.getfield 81, 3) := by decide +kernel
theorem dX6_orders_33 : decode cX6_orders 33 = .ok (.iload_n 1, 1) := by decide +kernel
theorem dX6_orders_34 : decode cX6_orders 34 = .ok (.iaload, 1) := by decide +kernel
theorem dX6_orders_35 : decode cX6_orders 35 = .ok (.iload_n 2, 1) := by decide +kernel
theorem dX6_orders_36 : decode cX6_orders 36 = .ok (.ishr, 1) := by decide +kernel
theorem dX6_orders_37 : decode cX6_orders 37 = .ok (.iconst 1, 1) := by decide +kernel
theorem dX6_orders_38 : decode cX6_orders 38 = .ok (.iand, 1) := by decide +kernel
theorem dX6_orders_39 : decode cX6_orders 39 = .ok (.iconst 1, 1) := by decide +kernel
theorem dX6_orders_40 : decode cX6_orders 40 = .ok (.if_icmp .ne 6, 3) := by decide +kernel
theorem dX6_orders_43 : decode cX6_orders 43 = .ok (.goto 81, 3) := by decide +kernel
theorem dX6_orders_46 : decode cX6_orders 46 = .ok (.aload_n 0, 1) := by decide +kernel
theorem dX6_orders_47 : decode cX6_orders 47 = .ok (.getfield 149, 3) := by decide +kernel
theorem dX6_orders_50 : decode cX6_orders 50 = .ok (.istore_n 3, 1) := by decide +kernel
theorem dX6_orders_51 : decode cX6_orders 51 = .ok (.iload_n 3, 1) := by decide +kernel
theorem dX6_orders_52 : decode cX6_orders 52 = .ok (.ifCond .le 55, 3) := by decide +kernel
theorem dX6_orders_55 : decode cX6_orders 55 = .ok (.aload_n 0, 1) := by decide +kernel
theorem dX6_orders_56 : decode cX6_orders 56 = .ok (.getfield 72, 3) := by decide +kernel
theorem dX6_orders_59 : decode cX6_orders 59 = .ok (.bipush 8, 2) := by decide +kernel
theorem dX6_orders_61 : decode cX6_orders 61 = .ok (.iload_n 1, 1) := by decide +kernel
theorem dX6_orders_62 : decode cX6_orders 62 = .ok (.imul, 1) := by decide +kernel
theorem dX6_orders_63 : decode cX6_orders 63 = .ok (.aload_n 0, 1) := by decide +kernel
theorem dX6_orders_64 : decode cX6_orders 64 = .ok (.getfield 84, 3) := by decide +kernel
theorem dX6_orders_67 : decode cX6_orders 67 = .ok (.iload_n 3, 1) := by decide +kernel
theorem dX6_orders_68 : decode cX6_orders 68 = .ok (.iconst 1, 1) := by decide +kernel
theorem dX6_orders_69 : decode cX6_orders 69 = .ok (.isub, 1) := by decide +kernel
theorem dX6_orders_70 : decode cX6_orders 70 = .ok (.iaload, 1) := by decide +kernel
theorem dX6_orders_71 : decode cX6_orders 71 = .ok (.iadd, 1) := by decide +kernel
theorem dX6_orders_72 : decode cX6_orders 72 = .ok (.iaload, 1) := by decide +kernel
theorem dX6_orders_73 : decode cX6_orders 73 = .ok (.aload_n 0, 1) := by decide +kernel
theorem dX6_orders_74 : decode cX6_orders 74 = .ok (.getfield 72, 3) := by decide +kernel
theorem dX6_orders_77 : decode cX6_orders 77 = .ok (.bipush 8, 2) := by decide +kernel
theorem dX6_orders_79 : decode cX6_orders 79 = .ok (.iload_n 1, 1) := by decide +kernel
theorem dX6_orders_80 : decode cX6_orders 80 = .ok (.imul, 1) := by decide +kernel
theorem dX6_orders_81 : decode cX6_orders 81 = .ok (.iload_n 2, 1) := by decide +kernel
theorem dX6_orders_82 : decode cX6_orders 82 = .ok (.iadd, 1) := by decide +kernel
theorem dX6_orders_83 : decode cX6_orders 83 = .ok (.iaload, 1) := by decide +kernel
theorem dX6_orders_84 : decode cX6_orders 84 = .ok (.if_icmp .le 23, 3) := by decide +kernel
theorem dX6_orders_87 : decode cX6_orders 87 = .ok (.aload_n 0, 1) := by decide +kernel
theorem dX6_orders_88 : decode cX6_orders 88 = .ok (.getfield 84, 3) := by decide +kernel
theorem dX6_orders_91 : decode cX6_orders 91 = .ok (.iload_n 3, 1) := by decide +kernel
theorem dX6_orders_92 : decode cX6_orders 92 = .ok (.aload_n 0, 1) := by decide +kernel
theorem dX6_orders_93 : decode cX6_orders 93 = .ok (.getfield 84, 3) := by decide +kernel
theorem dX6_orders_96 : decode cX6_orders 96 = .ok (.iload_n 3, 1) := by decide +kernel
theorem dX6_orders_97 : decode cX6_orders 97 = .ok (.iconst 1, 1) := by decide +kernel
theorem dX6_orders_98 : decode cX6_orders 98 = .ok (.isub, 1) := by decide +kernel
theorem dX6_orders_99 : decode cX6_orders 99 = .ok (.iaload, 1) := by decide +kernel
theorem dX6_orders_100 : decode cX6_orders 100 = .ok (.iastore, 1) := by decide +kernel
theorem dX6_orders_101 : decode cX6_orders 101 = .ok (.iinc 3 (-1), 3) := by decide +kernel
theorem dX6_orders_104 : decode cX6_orders 104 = .ok (.goto (-53), 3) := by decide +kernel
theorem dX6_orders_107 : decode cX6_orders 107 = .ok (.aload_n 0, 1) := by decide +kernel
theorem dX6_orders_108 : decode cX6_orders 108 = .ok (.getfield 84, 3) := by decide +kernel
theorem dX6_orders_111 : decode cX6_orders 111 = .ok (.iload_n 3, 1) := by decide +kernel
theorem dX6_orders_112 : decode cX6_orders 112 = .ok (.iload_n 2, 1) := by decide +kernel
theorem dX6_orders_113 : decode cX6_orders 113 = .ok (.iastore, 1) := by decide +kernel
theorem dX6_orders_114 : decode cX6_orders 114 = .ok (.aload_n 0, 1) := by decide +kernel
theorem dX6_orders_115 : decode cX6_orders 115 = .ok (.dup, 1) := by decide +kernel
theorem dX6_orders_116 : decode cX6_orders 116 = .ok (.getfield 149, 3) := by decide +kernel
theorem dX6_orders_119 : decode cX6_orders 119 = .ok (.iconst 1, 1) := by decide +kernel
theorem dX6_orders_120 : decode cX6_orders 120 = .ok (.iadd, 1) := by decide +kernel
theorem dX6_orders_121 : decode cX6_orders 121 = .ok (.putfield 149, 3) := by decide +kernel
theorem dX6_orders_124 : decode cX6_orders 124 = .ok (.iinc 2 1, 3) := by decide +kernel
theorem dX6_orders_127 : decode cX6_orders 127 = .ok (.goto (-120), 3) := by decide +kernel
theorem dX6_orders_130 : decode cX6_orders 130 = .ok (.return_, 1) := by decide +kernel
set_option maxRecDepth 20000 in
theorem ggX6_tells_X6_isFallen : GoodIn wsX6_tells wsX6_isFallen := goodIn_r _ [8, 9, 10, 11, 12, 13, 14, 15, 16, 17, 18, 19, 20, 21, 22, 23, 24, 25, 26, 27, 28, 29, 30, 31, 32, 33, 34, 35, 36, 37, 38, 39, 40, 41, 42, 43, 44, 45, 46, 47, 48, 49, 50, 51, 52, 53] (by decide +kernel) (by decide +kernel)
set_option maxRecDepth 20000 in
theorem gX6_tells_X6_isFallen : GoodIn wsX6_tells (wsV RX6 130 RX6 yX6_isFallen wsX6_isFallen) := goodIn_app (goodIn_of _ (by decide +kernel)) ggX6_tells_X6_isFallen
theorem dX6_tells_0 : decode cX6_tells 0 = .ok (.aload_n 0, 1) := by decide +kernel
theorem dX6_tells_1 : decode cX6_tells 1 = .ok (.dup, 1) := by decide +kernel
theorem dX6_tells_2 : decode cX6_tells 2 = .ok (.getfield 152, 3) := by decide +kernel
theorem dX6_tells_5 : decode cX6_tells 5 = .ok (.aload_n 0, 1) := by decide +kernel
theorem dX6_tells_6 : decode cX6_tells 6 = .ok (.getfield 72, 3) := by decide +kernel
theorem dX6_tells_9 : decode cX6_tells 9 = .ok (.bipush 8, 2) := by decide +kernel
theorem dX6_tells_11 : decode cX6_tells 11 = .ok (.iload_n 1, 1) := by decide +kernel
theorem dX6_tells_12 : decode cX6_tells 12 = .ok (.imul, 1) := by decide +kernel
theorem dX6_tells_13 : decode cX6_tells 13 = .ok (.iload_n 2, 1) := by decide +kernel
theorem dX6_tells_14 : decode cX6_tells 14 = .ok (.iadd, 1) := by decide +kernel
theorem dX6_tells_15 : decode cX6_tells 15 = .ok (.iaload, 1) := by decide +kernel
theorem dX6_tells_16 : decode cX6_tells 16 = .ok (.iadd, 1) := by decide +kernel
theorem dX6_tells_17 : decode cX6_tells 17 = .ok (.putfield 152, 3) := by decide +kernel
theorem dX6_tells_20 : decode cX6_tells 20 = .ok (.aload_n 0, 1) := by decide +kernel
theorem dX6_tells_21 : decode cX6_tells 21 = .ok (.dup, 1) := by decide +kernel
theorem dX6_tells_22 : decode cX6_tells 22 = .ok (.getfield 155, 3) := by decide +kernel
theorem dX6_tells_25 : decode cX6_tells 25 = .ok (.iconst 1, 1) := by decide +kernel
theorem dX6_tells_26 : decode cX6_tells 26 = .ok (.iadd, 1) := by decide +kernel
theorem dX6_tells_27 : decode cX6_tells 27 = .ok (.putfield 155, 3) := by decide +kernel
theorem dX6_tells_30 : decode cX6_tells 30 = .ok (.aload_n 0, 1) := by decide +kernel
theorem dX6_tells_31 : decode cX6_tells 31 = .ok (.iload_n 2, 1) := by decide +kernel
theorem dX6_tells_32 : decode cX6_tells 32 = .ok (.invokevirtual 130, 3) := by decide +kernel
theorem dX6_tells_35 : decode cX6_tells 35 = .ok (.ifCond .ne 7, 3) := by decide +kernel
theorem dX6_tells_38 : decode cX6_tells 38 = .ok (.iconst 1, 1) := by decide +kernel
theorem dX6_tells_39 : decode cX6_tells 39 = .ok (.goto 4, 3) := by decide +kernel
theorem dX6_tells_42 : decode cX6_tells 42 = .ok (.iconst 0, 1) := by decide +kernel
theorem dX6_tells_43 : decode cX6_tells 43 = .ok (.ireturn, 1) := by decide +kernel
set_option maxRecDepth 20000 in
theorem ggX6_indexFor_X6_tells : GoodIn wsX6_indexFor wsX6_tells := goodIn_r _ [11, 12, 13, 14, 15, 16, 17, 10, 18, 19, 20, 21, 22, 23, 38, 39, 40, 41, 42, 43, 44, 45, 46, 47, 48, 49, 50, 51, 52, 53, 54, 55, 56, 57, 58, 59, 60, 61, 62, 63, 64, 65, 66, 67, 68, 69, 70, 71, 72, 73, 74, 75, 76, 77] (by decide +kernel) (by decide +kernel)
set_option maxRecDepth 20000 in
theorem gX6_indexFor_X6_tells : GoodIn wsX6_indexFor (wsV RX6 158 RX6 yX6_tells wsX6_tells) := goodIn_app (goodIn_of _ (by decide +kernel)) ggX6_indexFor_X6_tells
set_option maxRecDepth 20000 in
theorem ggX6_indexFor_X6_isGood : GoodIn wsX6_indexFor wsX6_isGood := goodIn_r _ [27, 28, 29, 30, 22, 31, 32, 33, 34, 10, 35, 36, 37, 38, 39, 40, 41, 42, 43, 44, 45, 46, 47, 48, 49, 50, 51, 52, 53, 54, 55, 56, 57, 58, 59, 60, 61, 62, 63, 64, 65, 66, 67, 68, 69, 70, 71, 72, 73, 74, 75, 76, 77] (by decide +kernel) (by decide +kernel)
set_option maxRecDepth 20000 in
theorem gX6_indexFor_X6_isGood : GoodIn wsX6_indexFor (wsV RX6 161 RX6 yX6_isGood wsX6_isGood) := goodIn_app (goodIn_of _ (by decide +kernel)) ggX6_indexFor_X6_isGood
theorem dX6_indexFor_0 : decode cX6_indexFor 0 = .ok (.iconst 0, 1) := by decide +kernel
theorem dX6_indexFor_1 : decode cX6_indexFor 1 = .ok (.istore_n 2, 1) := by decide +kernel
theorem dX6_indexFor_2 : decode cX6_indexFor 2 = .ok (.iload_n 2, 1) := by decide +kernel
theorem dX6_indexFor_3 : decode cX6_indexFor 3 = .ok (.aload_n 0, 1) := by decide +kernel
theorem dX6_indexFor_4 : decode cX6_indexFor 4 = .ok (.getfield 149, 3) := by decide +kernel
theorem dX6_indexFor_7 : decode cX6_indexFor 7 = .ok (.if_icmp .ge 79, 3) := by decide +kernel
theorem dX6_indexFor_10 : decode cX6_indexFor 10 = .ok (.aload_n 0, 1) := by decide +kernel
theorem dX6_indexFor_11 : decode cX6_indexFor 11 = .ok (.getfield 84, 3) := by decide +kernel
theorem dX6_indexFor_14 : decode cX6_indexFor 14 = .ok (.iload_n 2, 1) := by decide +kernel
theorem dX6_indexFor_15 : decode cX6_indexFor 15 = .ok (.iaload, 1) := by decide +kernel
theorem dX6_indexFor_16 : decode cX6_indexFor 16 = .ok (.istore_n 3, 1) := by decide +kernel
theorem dX6_indexFor_17 : decode cX6_indexFor 17 = .ok (.aload_n 0, 1) := by decide +kernel
theorem dX6_indexFor_18 : decode cX6_indexFor 18 = .ok (.iload_n 1, 1) := by decide +kernel
theorem dX6_indexFor_19 : decode cX6_indexFor 19 = .ok (.iload_n 3, 1) := by decide +kernel
theorem dX6_indexFor_20 : decode cX6_indexFor 20 = .ok (.invokevirtual 158, 3) := by decide +kernel
theorem dX6_indexFor_23 : decode cX6_indexFor 23 = .ok (.ifCond .ne 6, 3) := by decide +kernel
theorem dX6_indexFor_26 : decode cX6_indexFor 26 = .ok (.goto 54, 3) := by decide +kernel
theorem dX6_indexFor_29 : decode cX6_indexFor 29 = .ok (.aload_n 0, 1) := by decide +kernel
theorem dX6_indexFor_30 : decode cX6_indexFor 30 = .ok (.getfield 47, 3) := by decide +kernel
theorem dX6_indexFor_33 : decode cX6_indexFor 33 = .ok (.iload_n 3, 1) := by decide +kernel
theorem dX6_indexFor_34 : decode cX6_indexFor 34 = .ok (.baload, 1) := by decide +kernel
theorem dX6_indexFor_35 : decode cX6_indexFor 35 = .ok (.ifCond .eq 18, 3) := by decide +kernel
theorem dX6_indexFor_38 : decode cX6_indexFor 38 = .ok (.aload_n 0, 1) := by decide +kernel
theorem dX6_indexFor_39 : decode cX6_indexFor 39 = .ok (.getfield 81, 3) := by decide +kernel
theorem dX6_indexFor_42 : decode cX6_indexFor 42 = .ok (.iload_n 1, 1) := by decide +kernel
theorem dX6_indexFor_43 : decode cX6_indexFor 43 = .ok (.dup2, 1) := by decide +kernel
theorem dX6_indexFor_44 : decode cX6_indexFor 44 = .ok (.iaload, 1) := by decide +kernel
theorem dX6_indexFor_45 : decode cX6_indexFor 45 = .ok (.iconst 1, 1) := by decide +kernel
theorem dX6_indexFor_46 : decode cX6_indexFor 46 = .ok (.iload_n 3, 1) := by decide +kernel
theorem dX6_indexFor_47 : decode cX6_indexFor 47 = .ok (.ishl, 1) := by decide +kernel
theorem dX6_indexFor_48 : decode cX6_indexFor 48 = .ok (.ior, 1) := by decide +kernel
theorem dX6_indexFor_49 : decode cX6_indexFor 49 = .ok (.iastore, 1) := by decide +kernel
theorem dX6_indexFor_50 : decode cX6_indexFor 50 = .ok (.goto 30, 3) := by decide +kernel
theorem dX6_indexFor_53 : decode cX6_indexFor 53 = .ok (.aload_n 0, 1) := by decide +kernel
theorem dX6_indexFor_54 : decode cX6_indexFor 54 = .ok (.iload_n 1, 1) := by decide +kernel
theorem dX6_indexFor_55 : decode cX6_indexFor 55 = .ok (.aload_n 0, 1) := by decide +kernel
theorem dX6_indexFor_56 : decode cX6_indexFor 56 = .ok (.getfield 35, 3) := by decide +kernel
theorem dX6_indexFor_59 : decode cX6_indexFor 59 = .ok (.iload_n 3, 1) := by decide +kernel
theorem dX6_indexFor_60 : decode cX6_indexFor 60 = .ok (.iaload, 1) := by decide +kernel
theorem dX6_indexFor_61 : decode cX6_indexFor 61 = .ok (.aload_n 0, 1) := by decide +kernel
theorem dX6_indexFor_62 : decode cX6_indexFor 62 = .ok (.getfield 78, 3) := by decide +kernel
theorem dX6_indexFor_65 : decode cX6_indexFor 65 = .ok (.iload_n 1, 1) := by decide +kernel
theorem dX6_indexFor_66 : decode cX6_indexFor 66 = .ok (.iaload, 1) := by decide +kernel
theorem dX6_indexFor_67 : decode cX6_indexFor 67 = .ok (.invokevirtual 161, 3) := by decide +kernel
theorem dX6_indexFor_70 : decode cX6_indexFor 70 = .ok (.ifCond .eq 10, 3) := by decide +kernel
theorem dX6_indexFor_73 : decode cX6_indexFor 73 = .ok (.aload_n 0, 1) := by decide +kernel
theorem dX6_indexFor_74 : decode cX6_indexFor 74 = .ok (.getfield 35, 3) := by decide +kernel
theorem dX6_indexFor_77 : decode cX6_indexFor 77 = .ok (.iload_n 3, 1) := by decide +kernel
theorem dX6_indexFor_78 : decode cX6_indexFor 78 = .ok (.iaload, 1) := by decide +kernel
theorem dX6_indexFor_79 : decode cX6_indexFor 79 = .ok (.ireturn, 1) := by decide +kernel
theorem dX6_indexFor_80 : decode cX6_indexFor 80 = .ok (.iinc 2 1, 3) := by decide +kernel
theorem dX6_indexFor_83 : decode cX6_indexFor 83 = .ok (.goto (-81), 3) := by decide +kernel
theorem dX6_indexFor_86 : decode cX6_indexFor 86 = .ok (.iconst (-1), 1) := by decide +kernel
theorem dX6_indexFor_87 : decode cX6_indexFor 87 = .ok (.ireturn, 1) := by decide +kernel
set_option maxRecDepth 20000 in
theorem ggX6_giver_X6_tells : GoodIn wsX6_giver wsX6_tells := goodIn_r _ [10, 11, 12, 13, 14, 15, 16, 9, 17, 18, 19, 20, 21, 22, 23, 24, 25, 26, 27, 28, 29, 30, 31, 32, 33, 34, 35, 36, 37, 38, 39, 40, 41, 42, 43, 44, 45, 46, 47, 48, 49, 50, 51, 52, 53, 54, 55, 56, 57, 58, 59, 60, 61, 62] (by decide +kernel) (by decide +kernel)
set_option maxRecDepth 20000 in
theorem gX6_giver_X6_tells : GoodIn wsX6_giver (wsV RX6 158 RX6 yX6_tells wsX6_tells) := goodIn_app (goodIn_of _ (by decide +kernel)) ggX6_giver_X6_tells
theorem dX6_giver_0 : decode cX6_giver 0 = .ok (.iconst 0, 1) := by decide +kernel
theorem dX6_giver_1 : decode cX6_giver 1 = .ok (.istore_n 3, 1) := by decide +kernel
theorem dX6_giver_2 : decode cX6_giver 2 = .ok (.iload_n 3, 1) := by decide +kernel
theorem dX6_giver_3 : decode cX6_giver 3 = .ok (.aload_n 0, 1) := by decide +kernel
theorem dX6_giver_4 : decode cX6_giver 4 = .ok (.getfield 149, 3) := by decide +kernel
theorem dX6_giver_7 : decode cX6_giver 7 = .ok (.if_icmp .ge 86, 3) := by decide +kernel
theorem dX6_giver_10 : decode cX6_giver 10 = .ok (.aload_n 0, 1) := by decide +kernel
theorem dX6_giver_11 : decode cX6_giver 11 = .ok (.getfield 84, 3) := by decide +kernel
theorem dX6_giver_14 : decode cX6_giver 14 = .ok (.iload_n 3, 1) := by decide +kernel
theorem dX6_giver_15 : decode cX6_giver 15 = .ok (.iaload, 1) := by decide +kernel
theorem dX6_giver_16 : decode cX6_giver 16 = .ok (.istore 4, 2) := by decide +kernel
theorem dX6_giver_18 : decode cX6_giver 18 = .ok (.aload_n 0, 1) := by decide +kernel
theorem dX6_giver_19 : decode cX6_giver 19 = .ok (.getfield 81, 3) := by decide +kernel
theorem dX6_giver_22 : decode cX6_giver 22 = .ok (.iload_n 1, 1) := by decide +kernel
theorem dX6_giver_23 : decode cX6_giver 23 = .ok (.iaload, 1) := by decide +kernel
theorem dX6_giver_24 : decode cX6_giver 24 = .ok (.iload 4, 2) := by decide +kernel
theorem dX6_giver_26 : decode cX6_giver 26 = .ok (.ishr, 1) := by decide +kernel
theorem dX6_giver_27 : decode cX6_giver 27 = .ok (.iconst 1, 1) := by decide +kernel
theorem dX6_giver_28 : decode cX6_giver 28 = .ok (.iand, 1) := by decide +kernel
theorem dX6_giver_29 : decode cX6_giver 29 = .ok (.iconst 1, 1) := by decide +kernel
theorem dX6_giver_30 : decode cX6_giver 30 = .ok (.if_icmp .eq 57, 3) := by decide +kernel
theorem dX6_giver_33 : decode cX6_giver 33 = .ok (.aload_n 0, 1) := by decide +kernel
theorem dX6_giver_34 : decode cX6_giver 34 = .ok (.iload_n 1, 1) := by decide +kernel
theorem dX6_giver_35 : decode cX6_giver 35 = .ok (.iload 4, 2) := by decide +kernel
theorem dX6_giver_37 : decode cX6_giver 37 = .ok (.invokevirtual 158, 3) := by decide +kernel
theorem dX6_giver_40 : decode cX6_giver 40 = .ok (.ifCond .eq 47, 3) := by decide +kernel
theorem dX6_giver_43 : decode cX6_giver 43 = .ok (.aload_n 0, 1) := by decide +kernel
theorem dX6_giver_44 : decode cX6_giver 44 = .ok (.getfield 51, 3) := by decide +kernel
theorem dX6_giver_47 : decode cX6_giver 47 = .ok (.bipush 60, 2) := by decide +kernel
theorem dX6_giver_49 : decode cX6_giver 49 = .ok (.iload 4, 2) := by decide +kernel
theorem dX6_giver_51 : decode cX6_giver 51 = .ok (.imul, 1) := by decide +kernel
theorem dX6_giver_52 : decode cX6_giver 52 = .ok (.iload_n 2, 1) := by decide +kernel
theorem dX6_giver_53 : decode cX6_giver 53 = .ok (.iadd, 1) := by decide +kernel
theorem dX6_giver_54 : decode cX6_giver 54 = .ok (.baload, 1) := by decide +kernel
theorem dX6_giver_55 : decode cX6_giver 55 = .ok (.ifCond .ne 6, 3) := by decide +kernel
theorem dX6_giver_58 : decode cX6_giver 58 = .ok (.goto 29, 3) := by decide +kernel
theorem dX6_giver_61 : decode cX6_giver 61 = .ok (.aload_n 0, 1) := by decide +kernel
theorem dX6_giver_62 : decode cX6_giver 62 = .ok (.getfield 47, 3) := by decide +kernel
theorem dX6_giver_65 : decode cX6_giver 65 = .ok (.iload 4, 2) := by decide +kernel
theorem dX6_giver_67 : decode cX6_giver 67 = .ok (.baload, 1) := by decide +kernel
theorem dX6_giver_68 : decode cX6_giver 68 = .ok (.ifCond .ne 6, 3) := by decide +kernel
theorem dX6_giver_71 : decode cX6_giver 71 = .ok (.iload 4, 2) := by decide +kernel
theorem dX6_giver_73 : decode cX6_giver 73 = .ok (.ireturn, 1) := by decide +kernel
theorem dX6_giver_74 : decode cX6_giver 74 = .ok (.aload_n 0, 1) := by decide +kernel
theorem dX6_giver_75 : decode cX6_giver 75 = .ok (.getfield 81, 3) := by decide +kernel
theorem dX6_giver_78 : decode cX6_giver 78 = .ok (.iload_n 1, 1) := by decide +kernel
theorem dX6_giver_79 : decode cX6_giver 79 = .ok (.dup2, 1) := by decide +kernel
theorem dX6_giver_80 : decode cX6_giver 80 = .ok (.iaload, 1) := by decide +kernel
theorem dX6_giver_81 : decode cX6_giver 81 = .ok (.iconst 1, 1) := by decide +kernel
theorem dX6_giver_82 : decode cX6_giver 82 = .ok (.iload 4, 2) := by decide +kernel
theorem dX6_giver_84 : decode cX6_giver 84 = .ok (.ishl, 1) := by decide +kernel
theorem dX6_giver_85 : decode cX6_giver 85 = .ok (.ior, 1) := by decide +kernel
theorem dX6_giver_86 : decode cX6_giver 86 = .ok (.iastore, 1) := by decide +kernel
theorem dX6_giver_87 : decode cX6_giver 87 = .ok (.iinc 3 1, 3) := by decide +kernel
theorem dX6_giver_90 : decode cX6_giver 90 = .ok (.goto (-88), 3) := by decide +kernel
theorem dX6_giver_93 : decode cX6_giver 93 = .ok (.iconst (-1), 1) := by decide +kernel
theorem dX6_giver_94 : decode cX6_giver 94 = .ok (.ireturn, 1) := by decide +kernel
set_option maxRecDepth 20000 in
theorem ggX6_least_X6_isFallen : GoodIn wsX6_least wsX6_isFallen := goodIn_r _ [14, 15, 16, 17, 18, 19, 33, 34, 35, 36, 37, 38, 39, 40, 41, 42, 43, 44, 45, 46, 47, 48, 49, 50, 51, 52, 53, 54, 55, 56, 57, 58, 59, 60, 61, 62, 63, 64, 65, 66, 67, 68, 69, 70, 71, 72] (by decide +kernel) (by decide +kernel)
set_option maxRecDepth 20000 in
theorem gX6_least_X6_isFallen : GoodIn wsX6_least (wsV RX6 130 RX6 yX6_isFallen wsX6_isFallen) := goodIn_app (goodIn_of _ (by decide +kernel)) ggX6_least_X6_isFallen
set_option maxRecDepth 20000 in
theorem ggX6_least_X6_isGood : GoodIn wsX6_least wsX6_isGood := goodIn_r _ [23, 24, 5, 25, 18, 26, 27, 28, 29, 13, 30, 31, 32, 33, 34, 35, 36, 37, 38, 39, 40, 41, 42, 43, 44, 45, 46, 47, 48, 49, 50, 51, 52, 53, 54, 55, 56, 57, 58, 59, 60, 61, 62, 63, 64, 65, 66, 67, 68, 69, 70, 71, 72] (by decide +kernel) (by decide +kernel)
set_option maxRecDepth 20000 in
theorem gX6_least_X6_isGood : GoodIn wsX6_least (wsV RX6 161 RX6 yX6_isGood wsX6_isGood) := goodIn_app (goodIn_of _ (by decide +kernel)) ggX6_least_X6_isGood
theorem dX6_least_0 : decode cX6_least 0 = .ok (.iconst (-1), 1) := by decide +kernel
theorem dX6_least_1 : decode cX6_least 1 = .ok (.istore 4, 2) := by decide +kernel
theorem dX6_least_3 : decode cX6_least 3 = .ok (.iconst 0, 1) := by decide +kernel
theorem dX6_least_4 : decode cX6_least 4 = .ok (.istore 5, 2) := by decide +kernel
theorem dX6_least_6 : decode cX6_least 6 = .ok (.iload 5, 2) := by decide +kernel
theorem dX6_least_8 : decode cX6_least 8 = .ok (.aload_n 0, 1) := by decide +kernel
theorem dX6_least_9 : decode cX6_least 9 = .ok (.getfield 113, 3) := by decide +kernel
theorem dX6_least_12 : decode cX6_least 12 = .ok (.if_icmp .ge 163, 3) := by decide +kernel
theorem dX6_least_15 : decode cX6_least 15 = .ok (.aload_n 0, 1) := by decide +kernel
theorem dX6_least_16 : decode cX6_least 16 = .ok (.getfield 72, 3) := by decide +kernel
theorem dX6_least_19 : decode cX6_least 19 = .ok (.bipush 8, 2) := by decide +kernel
theorem dX6_least_21 : decode cX6_least 21 = .ok (.iload_n 1, 1) := by decide +kernel
theorem dX6_least_22 : decode cX6_least 22 = .ok (.imul, 1) := by decide +kernel
theorem dX6_least_23 : decode cX6_least 23 = .ok (.iload 5, 2) := by decide +kernel
theorem dX6_least_25 : decode cX6_least 25 = .ok (.iadd, 1) := by decide +kernel
theorem dX6_least_26 : decode cX6_least 26 = .ok (.iaload, 1) := by decide +kernel
theorem dX6_least_27 : decode cX6_least 27 = .ok (.istore 6, 2) := by decide +kernel
theorem dX6_least_29 : decode cX6_least 29 = .ok (.iload 6, 2) := by decide +kernel
theorem dX6_least_31 : decode cX6_least 31 = .ok (.ifCond .lt 138, 3) := by decide +kernel
theorem dX6_least_34 : decode cX6_least 34 = .ok (.aload_n 0, 1) := by decide +kernel
theorem dX6_least_35 : decode cX6_least 35 = .ok (.iload 5, 2) := by decide +kernel
theorem dX6_least_37 : decode cX6_least 37 = .ok (.invokevirtual 130, 3) := by decide +kernel
theorem dX6_least_40 : decode cX6_least 40 = .ok (.ifCond .ne 129, 3) := by decide +kernel
theorem dX6_least_43 : decode cX6_least 43 = .ok (.aload_n 0, 1) := by decide +kernel
theorem dX6_least_44 : decode cX6_least 44 = .ok (.getfield 47, 3) := by decide +kernel
theorem dX6_least_47 : decode cX6_least 47 = .ok (.iload 5, 2) := by decide +kernel
theorem dX6_least_49 : decode cX6_least 49 = .ok (.baload, 1) := by decide +kernel
theorem dX6_least_50 : decode cX6_least 50 = .ok (.ifCond .ne 119, 3) := by decide +kernel
theorem dX6_least_53 : decode cX6_least 53 = .ok (.aload_n 0, 1) := by decide +kernel
theorem dX6_least_54 : decode cX6_least 54 = .ok (.iload_n 1, 1) := by decide +kernel
theorem dX6_least_55 : decode cX6_least 55 = .ok (.aload_n 0, 1) := by decide +kernel
theorem dX6_least_56 : decode cX6_least 56 = .ok (.getfield 35, 3) := by decide +kernel
theorem dX6_least_59 : decode cX6_least 59 = .ok (.iload 5, 2) := by decide +kernel
theorem dX6_least_61 : decode cX6_least 61 = .ok (.iaload, 1) := by decide +kernel
theorem dX6_least_62 : decode cX6_least 62 = .ok (.iload_n 3, 1) := by decide +kernel
theorem dX6_least_63 : decode cX6_least 63 = .ok (.invokevirtual 161, 3) := by decide +kernel
theorem dX6_least_66 : decode cX6_least 66 = .ok (.ifCond .eq 103, 3) := by decide +kernel
theorem dX6_least_69 : decode cX6_least 69 = .ok (.iload 4, 2) := by decide +kernel
theorem dX6_least_71 : decode cX6_least 71 = .ok (.ifCond .lt 13, 3) := by decide +kernel
theorem dX6_least_74 : decode cX6_least 74 = .ok (.iload 6, 2) := by decide +kernel
theorem dX6_least_76 : decode cX6_least 76 = .ok (.iload 4, 2) := by decide +kernel
theorem dX6_least_78 : decode cX6_least 78 = .ok (.if_icmp .lt 6, 3) := by decide +kernel
theorem dX6_least_81 : decode cX6_least 81 = .ok (.goto 88, 3) := by decide +kernel
theorem dX6_least_84 : decode cX6_least 84 = .ok (.iconst 1, 1) := by decide +kernel
theorem dX6_least_85 : decode cX6_least 85 = .ok (.istore 7, 2) := by decide +kernel
theorem dX6_least_87 : decode cX6_least 87 = .ok (.iconst 0, 1) := by decide +kernel
theorem dX6_least_88 : decode cX6_least 88 = .ok (.istore 8, 2) := by decide +kernel
theorem dX6_least_90 : decode cX6_least 90 = .ok (.iload 8, 2) := by decide +kernel
theorem dX6_least_92 : decode cX6_least 92 = .ok (.bipush 12, 2) := by decide +kernel
theorem dX6_least_94 : decode cX6_least 94 = .ok (.if_icmp .ge 66, 3) := by decide +kernel
theorem dX6_least_97 : decode cX6_least 97 = .ok (.iload 7, 2) := by decide +kernel
theorem dX6_least_99 : decode cX6_least 99 = .ok (.ifCond .eq 52, 3) := by decide +kernel
theorem dX6_least_102 : decode cX6_least 102 = .ok (.iload_n 2, 1) := by decide +kernel
theorem dX6_least_103 : decode cX6_least 103 = .ok (.iload 8, 2) := by decide +kernel
theorem dX6_least_105 : decode cX6_least 105 = .ok (.ishr, 1) := by decide +kernel
theorem dX6_least_106 : decode cX6_least 106 = .ok (.iconst 1, 1) := by decide +kernel
theorem dX6_least_107 : decode cX6_least 107 = .ok (.iand, 1) := by decide +kernel
theorem dX6_least_108 : decode cX6_least 108 = .ok (.ifCond .eq 39, 3) := by decide +kernel
theorem dX6_least_111 : decode cX6_least 111 = .ok (.aload_n 0, 1) := by decide +kernel
theorem dX6_least_112 : decode cX6_least 112 = .ok (.getfield 23, 3) := by decide +kernel
theorem dX6_least_115 : decode cX6_least 115 = .ok (.bipush 12, 2) := by decide +kernel
theorem dX6_least_117 : decode cX6_least 117 = .ok (.aload_n 0, 1) := by decide +kernel
theorem dX6_least_118 : decode cX6_least 118 = .ok (.getfield 35, 3) := by decide +kernel
theorem dX6_least_121 : decode cX6_least 121 = .ok (.iload 5, 2) := by decide +kernel
theorem dX6_least_123 : decode cX6_least 123 = .ok (.iaload, 1) := by decide +kernel
theorem dX6_least_124 : decode cX6_least 124 = .ok (.imul, 1) := by decide +kernel
theorem dX6_least_125 : decode cX6_least 125 = .ok (.iload 8, 2) := by decide +kernel
theorem dX6_least_127 : decode cX6_least 127 = .ok (.iadd, 1) := by decide +kernel
theorem dX6_least_128 : decode cX6_least 128 = .ok (.iaload, 1) := by decide +kernel
theorem dX6_least_129 : decode cX6_least 129 = .ok (.aload_n 0, 1) := by decide +kernel
theorem dX6_least_130 : decode cX6_least 130 = .ok (.getfield 23, 3) := by decide +kernel
theorem dX6_least_133 : decode cX6_least 133 = .ok (.bipush 12, 2) := by decide +kernel
theorem dX6_least_135 : decode cX6_least 135 = .ok (.aload_n 0, 1) := by decide +kernel
theorem dX6_least_136 : decode cX6_least 136 = .ok (.getfield 164, 3) := by decide +kernel
theorem dX6_least_139 : decode cX6_least 139 = .ok (.imul, 1) := by decide +kernel
theorem dX6_least_140 : decode cX6_least 140 = .ok (.iload 8, 2) := by decide +kernel
theorem dX6_least_142 : decode cX6_least 142 = .ok (.iadd, 1) := by decide +kernel
theorem dX6_least_143 : decode cX6_least 143 = .ok (.iaload, 1) := by decide +kernel
theorem dX6_least_144 : decode cX6_least 144 = .ok (.if_icmp .ne 7, 3) := by decide +kernel
theorem dX6_least_147 : decode cX6_least 147 = .ok (.iconst 1, 1) := by decide +kernel
theorem dX6_least_148 : decode cX6_least 148 = .ok (.goto 4, 3) := by decide +kernel
theorem dX6_least_151 : decode cX6_least 151 = .ok (.iconst 0, 1) := by decide +kernel
theorem dX6_least_152 : decode cX6_least 152 = .ok (.istore 7, 2) := by decide +kernel
theorem dX6_least_154 : decode cX6_least 154 = .ok (.iinc 8 1, 3) := by decide +kernel
theorem dX6_least_157 : decode cX6_least 157 = .ok (.goto (-67), 3) := by decide +kernel
theorem dX6_least_160 : decode cX6_least 160 = .ok (.iload 7, 2) := by decide +kernel
theorem dX6_least_162 : decode cX6_least 162 = .ok (.ifCond .eq 7, 3) := by decide +kernel
theorem dX6_least_165 : decode cX6_least 165 = .ok (.iload 6, 2) := by decide +kernel
theorem dX6_least_167 : decode cX6_least 167 = .ok (.istore 4, 2) := by decide +kernel
theorem dX6_least_169 : decode cX6_least 169 = .ok (.iinc 5 1, 3) := by decide +kernel
theorem dX6_least_172 : decode cX6_least 172 = .ok (.goto (-166), 3) := by decide +kernel
theorem dX6_least_175 : decode cX6_least 175 = .ok (.iload 4, 2) := by decide +kernel
theorem dX6_least_177 : decode cX6_least 177 = .ok (.istore 5, 2) := by decide +kernel
theorem dX6_least_179 : decode cX6_least 179 = .ok (.iconst 0, 1) := by decide +kernel
theorem dX6_least_180 : decode cX6_least 180 = .ok (.istore 6, 2) := by decide +kernel
theorem dX6_least_182 : decode cX6_least 182 = .ok (.iload 6, 2) := by decide +kernel
theorem dX6_least_184 : decode cX6_least 184 = .ok (.aload_n 0, 1) := by decide +kernel
theorem dX6_least_185 : decode cX6_least 185 = .ok (.getfield 167, 3) := by decide +kernel
theorem dX6_least_188 : decode cX6_least 188 = .ok (.if_icmp .ge 115, 3) := by decide +kernel
theorem dX6_least_191 : decode cX6_least 191 = .ok (.iconst (-1), 1) := by decide +kernel
theorem dX6_least_192 : decode cX6_least 192 = .ok (.istore 4, 2) := by decide +kernel
theorem dX6_least_194 : decode cX6_least 194 = .ok (.iconst 0, 1) := by decide +kernel
theorem dX6_least_195 : decode cX6_least 195 = .ok (.istore 7, 2) := by decide +kernel
theorem dX6_least_197 : decode cX6_least 197 = .ok (.iload 7, 2) := by decide +kernel
theorem dX6_least_199 : decode cX6_least 199 = .ok (.aload_n 0, 1) := by decide +kernel
theorem dX6_least_200 : decode cX6_least 200 = .ok (.getfield 113, 3) := by decide +kernel
theorem dX6_least_203 : decode cX6_least 203 = .ok (.if_icmp .ge 87, 3) := by decide +kernel
theorem dX6_least_206 : decode cX6_least 206 = .ok (.aload_n 0, 1) := by decide +kernel
theorem dX6_least_207 : decode cX6_least 207 = .ok (.getfield 72, 3) := by decide +kernel
theorem dX6_least_210 : decode cX6_least 210 = .ok (.bipush 8, 2) := by decide +kernel
theorem dX6_least_212 : decode cX6_least 212 = .ok (.iload_n 1, 1) := by decide +kernel
theorem dX6_least_213 : decode cX6_least 213 = .ok (.imul, 1) := by decide +kernel
theorem dX6_least_214 : decode cX6_least 214 = .ok (.iload 7, 2) := by decide +kernel
theorem dX6_least_216 : decode cX6_least 216 = .ok (.iadd, 1) := by decide +kernel
theorem dX6_least_217 : decode cX6_least 217 = .ok (.iaload, 1) := by decide +kernel
theorem dX6_least_218 : decode cX6_least 218 = .ok (.istore 8, 2) := by decide +kernel
theorem dX6_least_220 : decode cX6_least 220 = .ok (.iload 8, 2) := by decide +kernel
theorem dX6_least_222 : decode cX6_least 222 = .ok (.ifCond .lt 62, 3) := by decide +kernel
theorem dX6_least_225 : decode cX6_least 225 = .ok (.aload_n 0, 1) := by decide +kernel
theorem dX6_least_226 : decode cX6_least 226 = .ok (.iload 7, 2) := by decide +kernel
theorem dX6_least_228 : decode cX6_least 228 = .ok (.invokevirtual 130, 3) := by decide +kernel
theorem dX6_least_231 : decode cX6_least 231 = .ok (.ifCond .ne 53, 3) := by decide +kernel
theorem dX6_least_234 : decode cX6_least 234 = .ok (.aload_n 0, 1) := by decide +kernel
theorem dX6_least_235 : decode cX6_least 235 = .ok (.getfield 47, 3) := by decide +kernel
theorem dX6_least_238 : decode cX6_least 238 = .ok (.iload 7, 2) := by decide +kernel
theorem dX6_least_240 : decode cX6_least 240 = .ok (.baload, 1) := by decide +kernel
theorem dX6_least_241 : decode cX6_least 241 = .ok (.ifCond .ne 43, 3) := by decide +kernel
theorem dX6_least_244 : decode cX6_least 244 = .ok (.aload_n 0, 1) := by decide +kernel
theorem dX6_least_245 : decode cX6_least 245 = .ok (.getfield 51, 3) := by decide +kernel
theorem dX6_least_248 : decode cX6_least 248 = .ok (.bipush 60, 2) := by decide +kernel
theorem dX6_least_250 : decode cX6_least 250 = .ok (.iload 7, 2) := by decide +kernel
theorem dX6_least_252 : decode cX6_least 252 = .ok (.imul, 1) := by decide +kernel
theorem dX6_least_253 : decode cX6_least 253 = .ok (.aload_n 0, 1) := by decide +kernel
theorem dX6_least_254 : decode cX6_least 254 = .ok (.getfield 87, 3) := by decide +kernel
theorem dX6_least_257 : decode cX6_least 257 = .ok (.iload 6, 2) := by decide +kernel
theorem dX6_least_259 : decode cX6_least 259 = .ok (.iaload, 1) := by decide +kernel
theorem dX6_least_260 : decode cX6_least 260 = .ok (.iadd, 1) := by decide +kernel
theorem dX6_least_261 : decode cX6_least 261 = .ok (.baload, 1) := by decide +kernel
theorem dX6_least_262 : decode cX6_least 262 = .ok (.ifCond .eq 22, 3) := by decide +kernel
theorem dX6_least_265 : decode cX6_least 265 = .ok (.iload 4, 2) := by decide +kernel
theorem dX6_least_267 : decode cX6_least 267 = .ok (.ifCond .lt 13, 3) := by decide +kernel
theorem dX6_least_270 : decode cX6_least 270 = .ok (.iload 8, 2) := by decide +kernel
theorem dX6_least_272 : decode cX6_least 272 = .ok (.iload 4, 2) := by decide +kernel
theorem dX6_least_274 : decode cX6_least 274 = .ok (.if_icmp .lt 6, 3) := by decide +kernel
theorem dX6_least_277 : decode cX6_least 277 = .ok (.goto 7, 3) := by decide +kernel
theorem dX6_least_280 : decode cX6_least 280 = .ok (.iload 8, 2) := by decide +kernel
theorem dX6_least_282 : decode cX6_least 282 = .ok (.istore 4, 2) := by decide +kernel
theorem dX6_least_284 : decode cX6_least 284 = .ok (.iinc 7 1, 3) := by decide +kernel
theorem dX6_least_287 : decode cX6_least 287 = .ok (.goto (-90), 3) := by decide +kernel
theorem dX6_least_290 : decode cX6_least 290 = .ok (.iload 5, 2) := by decide +kernel
theorem dX6_least_292 : decode cX6_least 292 = .ok (.iload 4, 2) := by decide +kernel
theorem dX6_least_294 : decode cX6_least 294 = .ok (.iadd, 1) := by decide +kernel
theorem dX6_least_295 : decode cX6_least 295 = .ok (.istore 5, 2) := by decide +kernel
theorem dX6_least_297 : decode cX6_least 297 = .ok (.iinc 6 1, 3) := by decide +kernel
theorem dX6_least_300 : decode cX6_least 300 = .ok (.goto (-118), 3) := by decide +kernel
theorem dX6_least_303 : decode cX6_least 303 = .ok (.iload 5, 2) := by decide +kernel
theorem dX6_least_305 : decode cX6_least 305 = .ok (.ireturn, 1) := by decide +kernel
set_option maxRecDepth 20000 in
theorem ggX6_ask_X6_isAsker : GoodIn wsX6_ask wsX6_isAsker := goodIn_r _ [16, 17, 18, 15, 19] (by decide +kernel) (by decide +kernel)
set_option maxRecDepth 20000 in
theorem gX6_ask_X6_isAsker : GoodIn wsX6_ask (va_wsS RX6 143 yX6_isAsker wsX6_isAsker) := goodIn_app (goodIn_of _ (by decide +kernel)) ggX6_ask_X6_isAsker
set_option maxRecDepth 20000 in
theorem ggX6_ask_X6_in : GoodIn wsX6_ask wsX6_in := goodIn_r _ [19] (by decide +kernel) (by decide +kernel)
set_option maxRecDepth 20000 in
theorem gX6_ask_X6_in : GoodIn wsX6_ask (va_wsS RX6 99 yX6_in wsX6_in) := goodIn_app (goodIn_of _ (by decide +kernel)) ggX6_ask_X6_in
set_option maxRecDepth 20000 in
theorem ggX6_ask_X6_orders : GoodIn wsX6_ask wsX6_orders := goodIn_r _ [23, 24, 25, 26, 27, 28, 70, 71, 72, 73, 74, 75, 76, 77, 78, 79, 80, 81, 82, 83, 84, 85, 86, 87, 88, 89, 90, 91, 92, 93, 94, 95, 96, 97, 98, 99, 100, 101, 102, 103, 104, 105, 106, 107, 108, 109] (by decide +kernel) (by decide +kernel)
set_option maxRecDepth 20000 in
theorem gX6_ask_X6_orders : GoodIn wsX6_ask (wsV RX6 180 RX6 yX6_orders wsX6_orders) := goodIn_app (goodIn_of _ (by decide +kernel)) ggX6_ask_X6_orders
set_option maxRecDepth 20000 in
theorem ggX6_ask_X6_indexFor : GoodIn wsX6_ask wsX6_indexFor := goodIn_r _ [32, 24, 28, 33, 27, 34, 7, 35, 36, 37, 15, 38, 2, 26, 3, 39, 40, 41, 42, 43, 44, 45, 46, 47, 48, 49, 50, 51, 52, 9, 53, 54, 55, 56, 57, 58, 59, 60, 70, 71, 72, 73, 74, 75, 76, 77, 78, 79, 80, 81, 82, 83, 84, 85, 86, 87, 88, 89, 90, 91, 92, 93, 94, 95, 96, 97, 98, 99, 100, 101, 102, 103, 104, 105, 106, 107, 108, 109] (by decide +kernel) (by decide +kernel)
set_option maxRecDepth 20000 in
theorem gX6_ask_X6_indexFor : GoodIn wsX6_ask (wsV RX6 183 RX6 yX6_indexFor wsX6_indexFor) := goodIn_app (goodIn_of _ (by decide +kernel)) ggX6_ask_X6_indexFor
set_option maxRecDepth 20000 in
theorem ggX6_ask_X6_giver : GoodIn wsX6_ask wsX6_giver := goodIn_r _ [64, 24, 28, 27, 65, 33, 35, 36, 37, 15, 38, 2, 26, 3, 39, 40, 41, 42, 43, 44, 45, 46, 47, 70, 71, 72, 73, 74, 75, 76, 77, 78, 79, 80, 81, 82, 83, 84, 85, 86, 87, 88, 89, 90, 91, 92, 93, 94, 95, 96, 97, 98, 99, 100, 101, 102, 103, 104, 105, 106, 107, 108, 109] (by decide +kernel) (by decide +kernel)
set_option maxRecDepth 20000 in
theorem gX6_ask_X6_giver : GoodIn wsX6_ask (wsV RX6 186 RX6 yX6_giver wsX6_giver) := goodIn_app (goodIn_of _ (by decide +kernel)) ggX6_ask_X6_giver
set_option maxRecDepth 20000 in
theorem ggX6_ask_X6_least : GoodIn wsX6_ask wsX6_least := goodIn_r _ [69, 25, 26, 33, 34, 9, 8, 4, 65, 10, 39, 40, 41, 15, 42, 43, 44, 45, 46, 47, 48, 49, 50, 51, 52, 53, 54, 55, 56, 57, 58, 59, 60, 70, 71, 72, 73, 74, 75, 76, 77, 78, 79, 80, 81, 82, 83, 84, 85, 86, 87, 88, 89, 90, 91, 92, 93, 94, 95, 96, 97, 98, 99, 100, 101, 102, 103, 104, 105, 106, 107, 108, 109] (by decide +kernel) (by decide +kernel)
set_option maxRecDepth 20000 in
theorem gX6_ask_X6_least : GoodIn wsX6_ask (wsV RX6 190 RX6 yX6_least wsX6_least) := goodIn_app (goodIn_of _ (by decide +kernel)) ggX6_ask_X6_least
theorem dX6_ask_0 : decode cX6_ask 0 = .ok (.iload_n 1, 1) := by decide +kernel
theorem dX6_ask_1 : decode cX6_ask 1 = .ok (.invokestatic 143, 3) := by decide +kernel
theorem dX6_ask_4 : decode cX6_ask 4 = .ok (.ifCond .eq 14, 3) := by decide +kernel
theorem dX6_ask_7 : decode cX6_ask 7 = .ok (.iload_n 2, 1) := by decide +kernel
theorem dX6_ask_8 : decode cX6_ask 8 = .ok (.iconst 1, 1) := by decide +kernel
theorem dX6_ask_9 : decode cX6_ask 9 = .ok (.sipush 4095, 3) := by decide +kernel
theorem dX6_ask_12 : decode cX6_ask 12 = .ok (.invokestatic 99, 3) := by decide +kernel
theorem dX6_ask_15 : decode cX6_ask 15 = .ok (.ifCond .ne 5, 3) := by decide +kernel
theorem dX6_ask_18 : decode cX6_ask 18 = .ok (.iconst (-1), 1) := by decide +kernel
theorem dX6_ask_19 : decode cX6_ask 19 = .ok (.ireturn, 1) := by decide +kernel
theorem dX6_ask_20 : decode cX6_ask 20 = .ok (.aload_n 0, 1) := by decide +kernel
theorem dX6_ask_21 : decode cX6_ask 21 = .ok (.iconst 1, 1) := by decide +kernel
theorem dX6_ask_22 : decode cX6_ask 22 = .ok (.putfield 170, 3) := by decide +kernel
theorem dX6_ask_25 : decode cX6_ask 25 = .ok (.aload_n 0, 1) := by decide +kernel
theorem dX6_ask_26 : decode cX6_ask 26 = .ok (.iconst 0, 1) := by decide +kernel
theorem dX6_ask_27 : decode cX6_ask 27 = .ok (.putfield 152, 3) := by decide +kernel
theorem dX6_ask_30 : decode cX6_ask 30 = .ok (.aload_n 0, 1) := by decide +kernel
theorem dX6_ask_31 : decode cX6_ask 31 = .ok (.iconst 0, 1) := by decide +kernel
theorem dX6_ask_32 : decode cX6_ask 32 = .ok (.putfield 155, 3) := by decide +kernel
theorem dX6_ask_35 : decode cX6_ask 35 = .ok (.aload_n 0, 1) := by decide +kernel
theorem dX6_ask_36 : decode cX6_ask 36 = .ok (.iconst 0, 1) := by decide +kernel
theorem dX6_ask_37 : decode cX6_ask 37 = .ok (.putfield 167, 3) := by decide +kernel
theorem dX6_ask_40 : decode cX6_ask 40 = .ok (.aload_n 0, 1) := by decide +kernel
theorem dX6_ask_41 : decode cX6_ask 41 = .ok (.iconst (-1), 1) := by decide +kernel
theorem dX6_ask_42 : decode cX6_ask 42 = .ok (.putfield 174, 3) := by decide +kernel
theorem dX6_ask_45 : decode cX6_ask 45 = .ok (.aload_n 0, 1) := by decide +kernel
theorem dX6_ask_46 : decode cX6_ask 46 = .ok (.iconst (-1), 1) := by decide +kernel
theorem dX6_ask_47 : decode cX6_ask 47 = .ok (.putfield 177, 3) := by decide +kernel
theorem dX6_ask_50 : decode cX6_ask 50 = .ok (.aload_n 0, 1) := by decide +kernel
theorem dX6_ask_51 : decode cX6_ask 51 = .ok (.getfield 78, 3) := by decide +kernel
theorem dX6_ask_54 : decode cX6_ask 54 = .ok (.iload_n 1, 1) := by decide +kernel
theorem dX6_ask_55 : decode cX6_ask 55 = .ok (.iaload, 1) := by decide +kernel
theorem dX6_ask_56 : decode cX6_ask 56 = .ok (.istore_n 3, 1) := by decide +kernel
theorem dX6_ask_57 : decode cX6_ask 57 = .ok (.aload_n 0, 1) := by decide +kernel
theorem dX6_ask_58 : decode cX6_ask 58 = .ok (.iload_n 1, 1) := by decide +kernel
theorem dX6_ask_59 : decode cX6_ask 59 = .ok (.invokevirtual 180, 3) := by decide +kernel
theorem dX6_ask_62 : decode cX6_ask 62 = .ok (.aload_n 0, 1) := by decide +kernel
theorem dX6_ask_63 : decode cX6_ask 63 = .ok (.aload_n 0, 1) := by decide +kernel
theorem dX6_ask_64 : decode cX6_ask 64 = .ok (.iload_n 1, 1) := by decide +kernel
theorem dX6_ask_65 : decode cX6_ask 65 = .ok (.invokevirtual 183, 3) := by decide +kernel
theorem dX6_ask_68 : decode cX6_ask 68 = .ok (.putfield 164, 3) := by decide +kernel
theorem dX6_ask_71 : decode cX6_ask 71 = .ok (.aload_n 0, 1) := by decide +kernel
theorem dX6_ask_72 : decode cX6_ask 72 = .ok (.getfield 164, 3) := by decide +kernel
theorem dX6_ask_75 : decode cX6_ask 75 = .ok (.ifCond .ge 5, 3) := by decide +kernel
theorem dX6_ask_78 : decode cX6_ask 78 = .ok (.iconst 1, 1) := by decide +kernel
theorem dX6_ask_79 : decode cX6_ask 79 = .ok (.ireturn, 1) := by decide +kernel
theorem dX6_ask_80 : decode cX6_ask 80 = .ok (.aload_n 0, 1) := by decide +kernel
theorem dX6_ask_81 : decode cX6_ask 81 = .ok (.getfield 78, 3) := by decide +kernel
theorem dX6_ask_84 : decode cX6_ask 84 = .ok (.iload_n 1, 1) := by decide +kernel
theorem dX6_ask_85 : decode cX6_ask 85 = .ok (.aload_n 0, 1) := by decide +kernel
theorem dX6_ask_86 : decode cX6_ask 86 = .ok (.getfield 164, 3) := by decide +kernel
theorem dX6_ask_89 : decode cX6_ask 89 = .ok (.iastore, 1) := by decide +kernel
theorem dX6_ask_90 : decode cX6_ask 90 = .ok (.bipush 11, 2) := by decide +kernel
theorem dX6_ask_92 : decode cX6_ask 92 = .ok (.istore 4, 2) := by decide +kernel
theorem dX6_ask_94 : decode cX6_ask 94 = .ok (.iload 4, 2) := by decide +kernel
theorem dX6_ask_96 : decode cX6_ask 96 = .ok (.ifCond .lt 43, 3) := by decide +kernel
theorem dX6_ask_99 : decode cX6_ask 99 = .ok (.iload_n 2, 1) := by decide +kernel
theorem dX6_ask_100 : decode cX6_ask 100 = .ok (.iload 4, 2) := by decide +kernel
theorem dX6_ask_102 : decode cX6_ask 102 = .ok (.ishr, 1) := by decide +kernel
theorem dX6_ask_103 : decode cX6_ask 103 = .ok (.iconst 1, 1) := by decide +kernel
theorem dX6_ask_104 : decode cX6_ask 104 = .ok (.iand, 1) := by decide +kernel
theorem dX6_ask_105 : decode cX6_ask 105 = .ok (.iconst 1, 1) := by decide +kernel
theorem dX6_ask_106 : decode cX6_ask 106 = .ok (.if_icmp .ne 27, 3) := by decide +kernel
theorem dX6_ask_109 : decode cX6_ask 109 = .ok (.aload_n 0, 1) := by decide +kernel
theorem dX6_ask_110 : decode cX6_ask 110 = .ok (.getfield 23, 3) := by decide +kernel
theorem dX6_ask_113 : decode cX6_ask 113 = .ok (.bipush 12, 2) := by decide +kernel
theorem dX6_ask_115 : decode cX6_ask 115 = .ok (.aload_n 0, 1) := by decide +kernel
theorem dX6_ask_116 : decode cX6_ask 116 = .ok (.getfield 164, 3) := by decide +kernel
theorem dX6_ask_119 : decode cX6_ask 119 = .ok (.imul, 1) := by decide +kernel
theorem dX6_ask_120 : decode cX6_ask 120 = .ok (.iload 4, 2) := by decide +kernel
theorem dX6_ask_122 : decode cX6_ask 122 = .ok (.iadd, 1) := by decide +kernel
theorem dX6_ask_123 : decode cX6_ask 123 = .ok (.iaload, 1) := by decide +kernel
theorem dX6_ask_124 : decode cX6_ask 124 = .ok (.ifCond .ge 9, 3) := by decide +kernel
theorem dX6_ask_127 : decode cX6_ask 127 = .ok (.aload_n 0, 1) := by decide +kernel
theorem dX6_ask_128 : decode cX6_ask 128 = .ok (.iload 4, 2) := by decide +kernel
theorem dX6_ask_130 : decode cX6_ask 130 = .ok (.putfield 174, 3) := by decide +kernel
theorem dX6_ask_133 : decode cX6_ask 133 = .ok (.iinc 4 (-1), 3) := by decide +kernel
theorem dX6_ask_136 : decode cX6_ask 136 = .ok (.goto (-42), 3) := by decide +kernel
theorem dX6_ask_139 : decode cX6_ask 139 = .ok (.aload_n 0, 1) := by decide +kernel
theorem dX6_ask_140 : decode cX6_ask 140 = .ok (.getfield 174, 3) := by decide +kernel
theorem dX6_ask_143 : decode cX6_ask 143 = .ok (.ifCond .lt 5, 3) := by decide +kernel
theorem dX6_ask_146 : decode cX6_ask 146 = .ok (.iconst 2, 1) := by decide +kernel
theorem dX6_ask_147 : decode cX6_ask 147 = .ok (.ireturn, 1) := by decide +kernel
theorem dX6_ask_148 : decode cX6_ask 148 = .ok (.iconst 0, 1) := by decide +kernel
theorem dX6_ask_149 : decode cX6_ask 149 = .ok (.istore 4, 2) := by decide +kernel
theorem dX6_ask_151 : decode cX6_ask 151 = .ok (.iload 4, 2) := by decide +kernel
theorem dX6_ask_153 : decode cX6_ask 153 = .ok (.bipush 12, 2) := by decide +kernel
theorem dX6_ask_155 : decode cX6_ask 155 = .ok (.if_icmp .ge 103, 3) := by decide +kernel
theorem dX6_ask_158 : decode cX6_ask 158 = .ok (.iload_n 2, 1) := by decide +kernel
theorem dX6_ask_159 : decode cX6_ask 159 = .ok (.iload 4, 2) := by decide +kernel
theorem dX6_ask_161 : decode cX6_ask 161 = .ok (.ishr, 1) := by decide +kernel
theorem dX6_ask_162 : decode cX6_ask 162 = .ok (.iconst 1, 1) := by decide +kernel
theorem dX6_ask_163 : decode cX6_ask 163 = .ok (.iand, 1) := by decide +kernel
theorem dX6_ask_164 : decode cX6_ask 164 = .ok (.ifCond .ne 6, 3) := by decide +kernel
theorem dX6_ask_167 : decode cX6_ask 167 = .ok (.goto 85, 3) := by decide +kernel
theorem dX6_ask_170 : decode cX6_ask 170 = .ok (.aload_n 0, 1) := by decide +kernel
theorem dX6_ask_171 : decode cX6_ask 171 = .ok (.getfield 23, 3) := by decide +kernel
theorem dX6_ask_174 : decode cX6_ask 174 = .ok (.bipush 12, 2) := by decide +kernel
theorem dX6_ask_176 : decode cX6_ask 176 = .ok (.aload_n 0, 1) := by decide +kernel
theorem dX6_ask_177 : decode cX6_ask 177 = .ok (.getfield 164, 3) := by decide +kernel
theorem dX6_ask_180 : decode cX6_ask 180 = .ok (.imul, 1) := by decide +kernel
theorem dX6_ask_181 : decode cX6_ask 181 = .ok (.iload 4, 2) := by decide +kernel
theorem dX6_ask_183 : decode cX6_ask 183 = .ok (.iadd, 1) := by decide +kernel
theorem dX6_ask_184 : decode cX6_ask 184 = .ok (.iaload, 1) := by decide +kernel
theorem dX6_ask_185 : decode cX6_ask 185 = .ok (.istore 5, 2) := by decide +kernel
theorem dX6_ask_187 : decode cX6_ask 187 = .ok (.aload_n 0, 1) := by decide +kernel
theorem dX6_ask_188 : decode cX6_ask 188 = .ok (.iload_n 1, 1) := by decide +kernel
theorem dX6_ask_189 : decode cX6_ask 189 = .ok (.iload 5, 2) := by decide +kernel
theorem dX6_ask_191 : decode cX6_ask 191 = .ok (.invokevirtual 186, 3) := by decide +kernel
theorem dX6_ask_194 : decode cX6_ask 194 = .ok (.istore 6, 2) := by decide +kernel
theorem dX6_ask_196 : decode cX6_ask 196 = .ok (.iload 6, 2) := by decide +kernel
theorem dX6_ask_198 : decode cX6_ask 198 = .ok (.ifCond .ge 11, 3) := by decide +kernel
theorem dX6_ask_201 : decode cX6_ask 201 = .ok (.aload_n 0, 1) := by decide +kernel
theorem dX6_ask_202 : decode cX6_ask 202 = .ok (.iload 4, 2) := by decide +kernel
theorem dX6_ask_204 : decode cX6_ask 204 = .ok (.putfield 174, 3) := by decide +kernel
theorem dX6_ask_207 : decode cX6_ask 207 = .ok (.iconst 3, 1) := by decide +kernel
theorem dX6_ask_208 : decode cX6_ask 208 = .ok (.ireturn, 1) := by decide +kernel
theorem dX6_ask_209 : decode cX6_ask 209 = .ok (.aload_n 0, 1) := by decide +kernel
theorem dX6_ask_210 : decode cX6_ask 210 = .ok (.getfield 87, 3) := by decide +kernel
theorem dX6_ask_213 : decode cX6_ask 213 = .ok (.aload_n 0, 1) := by decide +kernel
theorem dX6_ask_214 : decode cX6_ask 214 = .ok (.getfield 167, 3) := by decide +kernel
theorem dX6_ask_217 : decode cX6_ask 217 = .ok (.iload 5, 2) := by decide +kernel
theorem dX6_ask_219 : decode cX6_ask 219 = .ok (.iastore, 1) := by decide +kernel
theorem dX6_ask_220 : decode cX6_ask 220 = .ok (.aload_n 0, 1) := by decide +kernel
theorem dX6_ask_221 : decode cX6_ask 221 = .ok (.getfield 90, 3) := by decide +kernel
theorem dX6_ask_224 : decode cX6_ask 224 = .ok (.aload_n 0, 1) := by decide +kernel
theorem dX6_ask_225 : decode cX6_ask 225 = .ok (.getfield 167, 3) := by decide +kernel
theorem dX6_ask_228 : decode cX6_ask 228 = .ok (.iload 4, 2) := by decide +kernel
theorem dX6_ask_230 : decode cX6_ask 230 = .ok (.iastore, 1) := by decide +kernel
theorem dX6_ask_231 : decode cX6_ask 231 = .ok (.aload_n 0, 1) := by decide +kernel
theorem dX6_ask_232 : decode cX6_ask 232 = .ok (.getfield 93, 3) := by decide +kernel
theorem dX6_ask_235 : decode cX6_ask 235 = .ok (.aload_n 0, 1) := by decide +kernel
theorem dX6_ask_236 : decode cX6_ask 236 = .ok (.getfield 167, 3) := by decide +kernel
theorem dX6_ask_239 : decode cX6_ask 239 = .ok (.iload 6, 2) := by decide +kernel
theorem dX6_ask_241 : decode cX6_ask 241 = .ok (.iastore, 1) := by decide +kernel
theorem dX6_ask_242 : decode cX6_ask 242 = .ok (.aload_n 0, 1) := by decide +kernel
theorem dX6_ask_243 : decode cX6_ask 243 = .ok (.dup, 1) := by decide +kernel
theorem dX6_ask_244 : decode cX6_ask 244 = .ok (.getfield 167, 3) := by decide +kernel
theorem dX6_ask_247 : decode cX6_ask 247 = .ok (.iconst 1, 1) := by decide +kernel
theorem dX6_ask_248 : decode cX6_ask 248 = .ok (.iadd, 1) := by decide +kernel
theorem dX6_ask_249 : decode cX6_ask 249 = .ok (.putfield 167, 3) := by decide +kernel
theorem dX6_ask_252 : decode cX6_ask 252 = .ok (.iinc 4 1, 3) := by decide +kernel
theorem dX6_ask_255 : decode cX6_ask 255 = .ok (.goto (-104), 3) := by decide +kernel
theorem dX6_ask_258 : decode cX6_ask 258 = .ok (.aload_n 0, 1) := by decide +kernel
theorem dX6_ask_259 : decode cX6_ask 259 = .ok (.aload_n 0, 1) := by decide +kernel
theorem dX6_ask_260 : decode cX6_ask 260 = .ok (.iload_n 1, 1) := by decide +kernel
theorem dX6_ask_261 : decode cX6_ask 261 = .ok (.iload_n 2, 1) := by decide +kernel
theorem dX6_ask_262 : decode cX6_ask 262 = .ok (.iload_n 3, 1) := by decide +kernel
theorem dX6_ask_263 : decode cX6_ask 263 = .ok (.invokevirtual 190, 3) := by decide +kernel
theorem dX6_ask_266 : decode cX6_ask 266 = .ok (.putfield 177, 3) := by decide +kernel
theorem dX6_ask_269 : decode cX6_ask 269 = .ok (.iconst 0, 1) := by decide +kernel
theorem dX6_ask_270 : decode cX6_ask 270 = .ok (.ireturn, 1) := by decide +kernel
theorem dX6_asked_0 : decode cX6_asked 0 = .ok (.aload_n 0, 1) := by decide +kernel
theorem dX6_asked_1 : decode cX6_asked 1 = .ok (.getfield 170, 3) := by decide +kernel
theorem dX6_asked_4 : decode cX6_asked 4 = .ok (.ifCond .ne 5, 3) := by decide +kernel
theorem dX6_asked_7 : decode cX6_asked 7 = .ok (.iconst (-1), 1) := by decide +kernel
theorem dX6_asked_8 : decode cX6_asked 8 = .ok (.ireturn, 1) := by decide +kernel
theorem dX6_asked_9 : decode cX6_asked 9 = .ok (.iload_n 1, 1) := by decide +kernel
theorem dX6_asked_10 : decode cX6_asked 10 = .ok (.tableswitch 68 0 5 #[38, 43, 48, 53, 58, 63], 38) := by decide +kernel
theorem dX6_asked_48 : decode cX6_asked 48 = .ok (.aload_n 0, 1) := by decide +kernel
theorem dX6_asked_49 : decode cX6_asked 49 = .ok (.getfield 164, 3) := by decide +kernel
theorem dX6_asked_52 : decode cX6_asked 52 = .ok (.ireturn, 1) := by decide +kernel
theorem dX6_asked_53 : decode cX6_asked 53 = .ok (.aload_n 0, 1) := by decide +kernel
theorem dX6_asked_54 : decode cX6_asked 54 = .ok (.getfield 152, 3) := by decide +kernel
theorem dX6_asked_57 : decode cX6_asked 57 = .ok (.ireturn, 1) := by decide +kernel
theorem dX6_asked_58 : decode cX6_asked 58 = .ok (.aload_n 0, 1) := by decide +kernel
theorem dX6_asked_59 : decode cX6_asked 59 = .ok (.getfield 155, 3) := by decide +kernel
theorem dX6_asked_62 : decode cX6_asked 62 = .ok (.ireturn, 1) := by decide +kernel
theorem dX6_asked_63 : decode cX6_asked 63 = .ok (.aload_n 0, 1) := by decide +kernel
theorem dX6_asked_64 : decode cX6_asked 64 = .ok (.getfield 167, 3) := by decide +kernel
theorem dX6_asked_67 : decode cX6_asked 67 = .ok (.ireturn, 1) := by decide +kernel
theorem dX6_asked_68 : decode cX6_asked 68 = .ok (.aload_n 0, 1) := by decide +kernel
theorem dX6_asked_69 : decode cX6_asked 69 = .ok (.getfield 174, 3) := by decide +kernel
theorem dX6_asked_72 : decode cX6_asked 72 = .ok (.ireturn, 1) := by decide +kernel
theorem dX6_asked_73 : decode cX6_asked 73 = .ok (.aload_n 0, 1) := by decide +kernel
theorem dX6_asked_74 : decode cX6_asked 74 = .ok (.getfield 177, 3) := by decide +kernel
theorem dX6_asked_77 : decode cX6_asked 77 = .ok (.ireturn, 1) := by decide +kernel
theorem dX6_asked_78 : decode cX6_asked 78 = .ok (.iconst (-1), 1) := by decide +kernel
theorem dX6_asked_79 : decode cX6_asked 79 = .ok (.ireturn, 1) := by decide +kernel
set_option maxRecDepth 20000 in
theorem ggX6_got_X6_in : GoodIn wsX6_got wsX6_in := goodIn_r _ [9] (by decide +kernel) (by decide +kernel)
set_option maxRecDepth 20000 in
theorem gX6_got_X6_in : GoodIn wsX6_got (va_wsS RX6 99 yX6_in wsX6_in) := goodIn_app (goodIn_of _ (by decide +kernel)) ggX6_got_X6_in
theorem dX6_got_0 : decode cX6_got 0 = .ok (.aload_n 0, 1) := by decide +kernel
theorem dX6_got_1 : decode cX6_got 1 = .ok (.getfield 170, 3) := by decide +kernel
theorem dX6_got_4 : decode cX6_got 4 = .ok (.ifCond .eq 17, 3) := by decide +kernel
theorem dX6_got_7 : decode cX6_got 7 = .ok (.iload_n 1, 1) := by decide +kernel
theorem dX6_got_8 : decode cX6_got 8 = .ok (.iconst 0, 1) := by decide +kernel
theorem dX6_got_9 : decode cX6_got 9 = .ok (.aload_n 0, 1) := by decide +kernel
theorem dX6_got_10 : decode cX6_got 10 = .ok (.getfield 167, 3) := by decide +kernel
theorem dX6_got_13 : decode cX6_got 13 = .ok (.iconst 1, 1) := by decide +kernel
theorem dX6_got_14 : decode cX6_got 14 = .ok (.isub, 1) := by decide +kernel
theorem dX6_got_15 : decode cX6_got 15 = .ok (.invokestatic 99, 3) := by decide +kernel
theorem dX6_got_18 : decode cX6_got 18 = .ok (.ifCond .ne 5, 3) := by decide +kernel
theorem dX6_got_21 : decode cX6_got 21 = .ok (.iconst (-1), 1) := by decide +kernel
theorem dX6_got_22 : decode cX6_got 22 = .ok (.ireturn, 1) := by decide +kernel
theorem dX6_got_23 : decode cX6_got 23 = .ok (.iload_n 2, 1) := by decide +kernel
theorem dX6_got_24 : decode cX6_got 24 = .ok (.ifCond .ne 12, 3) := by decide +kernel
theorem dX6_got_27 : decode cX6_got 27 = .ok (.aload_n 0, 1) := by decide +kernel
theorem dX6_got_28 : decode cX6_got 28 = .ok (.getfield 87, 3) := by decide +kernel
theorem dX6_got_31 : decode cX6_got 31 = .ok (.iload_n 1, 1) := by decide +kernel
theorem dX6_got_32 : decode cX6_got 32 = .ok (.iaload, 1) := by decide +kernel
theorem dX6_got_33 : decode cX6_got 33 = .ok (.goto 32, 3) := by decide +kernel
theorem dX6_got_36 : decode cX6_got 36 = .ok (.iload_n 2, 1) := by decide +kernel
theorem dX6_got_37 : decode cX6_got 37 = .ok (.iconst 1, 1) := by decide +kernel
theorem dX6_got_38 : decode cX6_got 38 = .ok (.if_icmp .ne 12, 3) := by decide +kernel
theorem dX6_got_41 : decode cX6_got 41 = .ok (.aload_n 0, 1) := by decide +kernel
theorem dX6_got_42 : decode cX6_got 42 = .ok (.getfield 90, 3) := by decide +kernel
theorem dX6_got_45 : decode cX6_got 45 = .ok (.iload_n 1, 1) := by decide +kernel
theorem dX6_got_46 : decode cX6_got 46 = .ok (.iaload, 1) := by decide +kernel
theorem dX6_got_47 : decode cX6_got 47 = .ok (.goto 18, 3) := by decide +kernel
theorem dX6_got_50 : decode cX6_got 50 = .ok (.iload_n 2, 1) := by decide +kernel
theorem dX6_got_51 : decode cX6_got 51 = .ok (.iconst 2, 1) := by decide +kernel
theorem dX6_got_52 : decode cX6_got 52 = .ok (.if_icmp .ne 12, 3) := by decide +kernel
theorem dX6_got_55 : decode cX6_got 55 = .ok (.aload_n 0, 1) := by decide +kernel
theorem dX6_got_56 : decode cX6_got 56 = .ok (.getfield 93, 3) := by decide +kernel
theorem dX6_got_59 : decode cX6_got 59 = .ok (.iload_n 1, 1) := by decide +kernel
theorem dX6_got_60 : decode cX6_got 60 = .ok (.iaload, 1) := by decide +kernel
theorem dX6_got_61 : decode cX6_got 61 = .ok (.goto 4, 3) := by decide +kernel
theorem dX6_got_64 : decode cX6_got 64 = .ok (.iconst (-1), 1) := by decide +kernel
theorem dX6_got_65 : decode cX6_got 65 = .ok (.ireturn, 1) := by decide +kernel
set_option maxRecDepth 20000 in
theorem ggX6_asker_X6_isAsker : GoodIn wsX6_asker wsX6_isAsker := goodIn_r _ [7, 8, 9, 6, 10] (by decide +kernel) (by decide +kernel)
set_option maxRecDepth 20000 in
theorem gX6_asker_X6_isAsker : GoodIn wsX6_asker (va_wsS RX6 143 yX6_isAsker wsX6_isAsker) := goodIn_app (goodIn_of _ (by decide +kernel)) ggX6_asker_X6_isAsker
theorem dX6_asker_0 : decode cX6_asker 0 = .ok (.iload_n 1, 1) := by decide +kernel
theorem dX6_asker_1 : decode cX6_asker 1 = .ok (.invokestatic 143, 3) := by decide +kernel
theorem dX6_asker_4 : decode cX6_asker 4 = .ok (.ifCond .ne 5, 3) := by decide +kernel
theorem dX6_asker_7 : decode cX6_asker 7 = .ok (.iconst (-1), 1) := by decide +kernel
theorem dX6_asker_8 : decode cX6_asker 8 = .ok (.ireturn, 1) := by decide +kernel
theorem dX6_asker_9 : decode cX6_asker 9 = .ok (.iload_n 2, 1) := by decide +kernel
theorem dX6_asker_10 : decode cX6_asker 10 = .ok (.ifCond .ne 12, 3) := by decide +kernel
theorem dX6_asker_13 : decode cX6_asker 13 = .ok (.aload_n 0, 1) := by decide +kernel
theorem dX6_asker_14 : decode cX6_asker 14 = .ok (.getfield 78, 3) := by decide +kernel
theorem dX6_asker_17 : decode cX6_asker 17 = .ok (.iload_n 1, 1) := by decide +kernel
theorem dX6_asker_18 : decode cX6_asker 18 = .ok (.iaload, 1) := by decide +kernel
theorem dX6_asker_19 : decode cX6_asker 19 = .ok (.goto 32, 3) := by decide +kernel
theorem dX6_asker_22 : decode cX6_asker 22 = .ok (.iload_n 2, 1) := by decide +kernel
theorem dX6_asker_23 : decode cX6_asker 23 = .ok (.iconst 1, 1) := by decide +kernel
theorem dX6_asker_24 : decode cX6_asker 24 = .ok (.if_icmp .ne 12, 3) := by decide +kernel
theorem dX6_asker_27 : decode cX6_asker 27 = .ok (.aload_n 0, 1) := by decide +kernel
theorem dX6_asker_28 : decode cX6_asker 28 = .ok (.getfield 75, 3) := by decide +kernel
theorem dX6_asker_31 : decode cX6_asker 31 = .ok (.iload_n 1, 1) := by decide +kernel
theorem dX6_asker_32 : decode cX6_asker 32 = .ok (.iaload, 1) := by decide +kernel
theorem dX6_asker_33 : decode cX6_asker 33 = .ok (.goto 18, 3) := by decide +kernel
theorem dX6_asker_36 : decode cX6_asker 36 = .ok (.iload_n 2, 1) := by decide +kernel
theorem dX6_asker_37 : decode cX6_asker 37 = .ok (.iconst 2, 1) := by decide +kernel
theorem dX6_asker_38 : decode cX6_asker 38 = .ok (.if_icmp .ne 12, 3) := by decide +kernel
theorem dX6_asker_41 : decode cX6_asker 41 = .ok (.aload_n 0, 1) := by decide +kernel
theorem dX6_asker_42 : decode cX6_asker 42 = .ok (.getfield 81, 3) := by decide +kernel
theorem dX6_asker_45 : decode cX6_asker 45 = .ok (.iload_n 1, 1) := by decide +kernel
theorem dX6_asker_46 : decode cX6_asker 46 = .ok (.iaload, 1) := by decide +kernel
theorem dX6_asker_47 : decode cX6_asker 47 = .ok (.goto 4, 3) := by decide +kernel
theorem dX6_asker_50 : decode cX6_asker 50 = .ok (.iconst (-1), 1) := by decide +kernel
theorem dX6_asker_51 : decode cX6_asker 51 = .ok (.ireturn, 1) := by decide +kernel
set_option maxRecDepth 20000 in
theorem ggX6_names_X6_in : GoodIn wsX6_names wsX6_in := goodIn_r _ [6] (by decide +kernel) (by decide +kernel)
set_option maxRecDepth 20000 in
theorem gX6_names_X6_in : GoodIn wsX6_names (va_wsS RX6 99 yX6_in wsX6_in) := goodIn_app (goodIn_of _ (by decide +kernel)) ggX6_names_X6_in
theorem dX6_names_0 : decode cX6_names 0 = .ok (.iload_n 1, 1) := by decide +kernel
theorem dX6_names_1 : decode cX6_names 1 = .ok (.iconst 0, 1) := by decide +kernel
theorem dX6_names_2 : decode cX6_names 2 = .ok (.aload_n 0, 1) := by decide +kernel
theorem dX6_names_3 : decode cX6_names 3 = .ok (.getfield 16, 3) := by decide +kernel
theorem dX6_names_6 : decode cX6_names 6 = .ok (.iconst 1, 1) := by decide +kernel
theorem dX6_names_7 : decode cX6_names 7 = .ok (.isub, 1) := by decide +kernel
theorem dX6_names_8 : decode cX6_names 8 = .ok (.invokestatic 99, 3) := by decide +kernel
theorem dX6_names_11 : decode cX6_names 11 = .ok (.ifCond .eq 27, 3) := by decide +kernel
theorem dX6_names_14 : decode cX6_names 14 = .ok (.iload_n 2, 1) := by decide +kernel
theorem dX6_names_15 : decode cX6_names 15 = .ok (.iconst 0, 1) := by decide +kernel
theorem dX6_names_16 : decode cX6_names 16 = .ok (.bipush 11, 2) := by decide +kernel
theorem dX6_names_18 : decode cX6_names 18 = .ok (.invokestatic 99, 3) := by decide +kernel
theorem dX6_names_21 : decode cX6_names 21 = .ok (.ifCond .eq 17, 3) := by decide +kernel
theorem dX6_names_24 : decode cX6_names 24 = .ok (.aload_n 0, 1) := by decide +kernel
theorem dX6_names_25 : decode cX6_names 25 = .ok (.getfield 23, 3) := by decide +kernel
theorem dX6_names_28 : decode cX6_names 28 = .ok (.bipush 12, 2) := by decide +kernel
theorem dX6_names_30 : decode cX6_names 30 = .ok (.iload_n 1, 1) := by decide +kernel
theorem dX6_names_31 : decode cX6_names 31 = .ok (.imul, 1) := by decide +kernel
theorem dX6_names_32 : decode cX6_names 32 = .ok (.iload_n 2, 1) := by decide +kernel
theorem dX6_names_33 : decode cX6_names 33 = .ok (.iadd, 1) := by decide +kernel
theorem dX6_names_34 : decode cX6_names 34 = .ok (.iaload, 1) := by decide +kernel
theorem dX6_names_35 : decode cX6_names 35 = .ok (.goto 4, 3) := by decide +kernel
theorem dX6_names_38 : decode cX6_names 38 = .ok (.iconst (-1), 1) := by decide +kernel
theorem dX6_names_39 : decode cX6_names 39 = .ok (.ireturn, 1) := by decide +kernel
set_option maxRecDepth 20000 in
theorem ggX6_state_X6_in : GoodIn wsX6_state wsX6_in := goodIn_r _ [9] (by decide +kernel) (by decide +kernel)
set_option maxRecDepth 20000 in
theorem gX6_state_X6_in : GoodIn wsX6_state (va_wsS RX6 99 yX6_in wsX6_in) := goodIn_app (goodIn_of _ (by decide +kernel)) ggX6_state_X6_in
set_option maxRecDepth 20000 in
theorem ggX6_state_X6_ageOf : GoodIn wsX6_state wsX6_ageOf := goodIn_r _ [13, 1, 14, 2, 19, 20, 21, 22, 23, 24, 25, 26, 27, 28, 29, 30, 31, 32, 33, 34, 35, 36, 37, 38, 39, 40, 41, 42, 43, 44, 45, 46, 47, 48, 49, 50, 51, 52, 53, 54, 55, 56, 57, 58] (by decide +kernel) (by decide +kernel)
set_option maxRecDepth 20000 in
theorem gX6_state_X6_ageOf : GoodIn wsX6_state (wsV RX6 146 RX6 yX6_ageOf wsX6_ageOf) := goodIn_app (goodIn_of _ (by decide +kernel)) ggX6_state_X6_ageOf
set_option maxRecDepth 20000 in
theorem ggX6_state_X6_isNamed : GoodIn wsX6_state wsX6_isNamed := goodIn_r _ [18, 3, 19, 20, 21, 22, 23, 24, 25, 26, 27, 28, 29, 30, 31, 32, 33, 34, 35, 36, 37, 38, 39, 40, 41, 42, 43, 44, 45, 46, 47, 48, 49, 50, 51, 52, 53, 54, 55, 56, 57, 58] (by decide +kernel) (by decide +kernel)
set_option maxRecDepth 20000 in
theorem gX6_state_X6_isNamed : GoodIn wsX6_state (wsV RX6 122 RX6 yX6_isNamed wsX6_isNamed) := goodIn_app (goodIn_of _ (by decide +kernel)) ggX6_state_X6_isNamed
theorem dX6_state_0 : decode cX6_state 0 = .ok (.iload_n 1, 1) := by decide +kernel
theorem dX6_state_1 : decode cX6_state 1 = .ok (.iconst 0, 1) := by decide +kernel
theorem dX6_state_2 : decode cX6_state 2 = .ok (.aload_n 0, 1) := by decide +kernel
theorem dX6_state_3 : decode cX6_state 3 = .ok (.getfield 16, 3) := by decide +kernel
theorem dX6_state_6 : decode cX6_state 6 = .ok (.iconst 1, 1) := by decide +kernel
theorem dX6_state_7 : decode cX6_state 7 = .ok (.isub, 1) := by decide +kernel
theorem dX6_state_8 : decode cX6_state 8 = .ok (.invokestatic 99, 3) := by decide +kernel
theorem dX6_state_11 : decode cX6_state 11 = .ok (.ifCond .ne 5, 3) := by decide +kernel
theorem dX6_state_14 : decode cX6_state 14 = .ok (.iconst (-1), 1) := by decide +kernel
theorem dX6_state_15 : decode cX6_state 15 = .ok (.ireturn, 1) := by decide +kernel
theorem dX6_state_16 : decode cX6_state 16 = .ok (.iconst 0, 1) := by decide +kernel
theorem dX6_state_17 : decode cX6_state 17 = .ok (.istore_n 3, 1) := by decide +kernel
theorem dX6_state_18 : decode cX6_state 18 = .ok (.iload_n 2, 1) := by decide +kernel
theorem dX6_state_19 : decode cX6_state 19 = .ok (.tableswitch 127 0 3 #[29, 36, 42, 83], 29) := by decide +kernel
theorem dX6_state_48 : decode cX6_state 48 = .ok (.aload_n 0, 1) := by decide +kernel
theorem dX6_state_49 : decode cX6_state 49 = .ok (.getfield 20, 3) := by decide +kernel
theorem dX6_state_52 : decode cX6_state 52 = .ok (.iload_n 1, 1) := by decide +kernel
theorem dX6_state_53 : decode cX6_state 53 = .ok (.iaload, 1) := by decide +kernel
theorem dX6_state_54 : decode cX6_state 54 = .ok (.ireturn, 1) := by decide +kernel
theorem dX6_state_55 : decode cX6_state 55 = .ok (.aload_n 0, 1) := by decide +kernel
theorem dX6_state_56 : decode cX6_state 56 = .ok (.iload_n 1, 1) := by decide +kernel
theorem dX6_state_57 : decode cX6_state 57 = .ok (.invokevirtual 146, 3) := by decide +kernel
theorem dX6_state_60 : decode cX6_state 60 = .ok (.ireturn, 1) := by decide +kernel
theorem dX6_state_61 : decode cX6_state 61 = .ok (.iconst 0, 1) := by decide +kernel
theorem dX6_state_62 : decode cX6_state 62 = .ok (.istore 4, 2) := by decide +kernel
theorem dX6_state_64 : decode cX6_state 64 = .ok (.iload 4, 2) := by decide +kernel
theorem dX6_state_66 : decode cX6_state 66 = .ok (.bipush 12, 2) := by decide +kernel
theorem dX6_state_68 : decode cX6_state 68 = .ok (.if_icmp .ge 32, 3) := by decide +kernel
theorem dX6_state_71 : decode cX6_state 71 = .ok (.iload_n 3, 1) := by decide +kernel
theorem dX6_state_72 : decode cX6_state 72 = .ok (.aload_n 0, 1) := by decide +kernel
theorem dX6_state_73 : decode cX6_state 73 = .ok (.getfield 23, 3) := by decide +kernel
theorem dX6_state_76 : decode cX6_state 76 = .ok (.bipush 12, 2) := by decide +kernel
theorem dX6_state_78 : decode cX6_state 78 = .ok (.iload_n 1, 1) := by decide +kernel
theorem dX6_state_79 : decode cX6_state 79 = .ok (.imul, 1) := by decide +kernel
theorem dX6_state_80 : decode cX6_state 80 = .ok (.iload 4, 2) := by decide +kernel
theorem dX6_state_82 : decode cX6_state 82 = .ok (.iadd, 1) := by decide +kernel
theorem dX6_state_83 : decode cX6_state 83 = .ok (.iaload, 1) := by decide +kernel
theorem dX6_state_84 : decode cX6_state 84 = .ok (.ifCond .lt 7, 3) := by decide +kernel
theorem dX6_state_87 : decode cX6_state 87 = .ok (.iconst 1, 1) := by decide +kernel
theorem dX6_state_88 : decode cX6_state 88 = .ok (.goto 4, 3) := by decide +kernel
theorem dX6_state_91 : decode cX6_state 91 = .ok (.iconst 0, 1) := by decide +kernel
theorem dX6_state_92 : decode cX6_state 92 = .ok (.iadd, 1) := by decide +kernel
theorem dX6_state_93 : decode cX6_state 93 = .ok (.istore_n 3, 1) := by decide +kernel
theorem dX6_state_94 : decode cX6_state 94 = .ok (.iinc 4 1, 3) := by decide +kernel
theorem dX6_state_97 : decode cX6_state 97 = .ok (.goto (-33), 3) := by decide +kernel
theorem dX6_state_100 : decode cX6_state 100 = .ok (.iload_n 3, 1) := by decide +kernel
theorem dX6_state_101 : decode cX6_state 101 = .ok (.ireturn, 1) := by decide +kernel
theorem dX6_state_102 : decode cX6_state 102 = .ok (.iconst 0, 1) := by decide +kernel
theorem dX6_state_103 : decode cX6_state 103 = .ok (.istore 4, 2) := by decide +kernel
theorem dX6_state_105 : decode cX6_state 105 = .ok (.iload 4, 2) := by decide +kernel
theorem dX6_state_107 : decode cX6_state 107 = .ok (.aload_n 0, 1) := by decide +kernel
theorem dX6_state_108 : decode cX6_state 108 = .ok (.getfield 96, 3) := by decide +kernel
theorem dX6_state_111 : decode cX6_state 111 = .ok (.if_icmp .ge 33, 3) := by decide +kernel
theorem dX6_state_114 : decode cX6_state 114 = .ok (.iload_n 3, 1) := by decide +kernel
theorem dX6_state_115 : decode cX6_state 115 = .ok (.aload_n 0, 1) := by decide +kernel
theorem dX6_state_116 : decode cX6_state 116 = .ok (.iload_n 1, 1) := by decide +kernel
theorem dX6_state_117 : decode cX6_state 117 = .ok (.iload 4, 2) := by decide +kernel
theorem dX6_state_119 : decode cX6_state 119 = .ok (.invokevirtual 122, 3) := by decide +kernel
theorem dX6_state_122 : decode cX6_state 122 = .ok (.ifCond .eq 13, 3) := by decide +kernel
theorem dX6_state_125 : decode cX6_state 125 = .ok (.aload_n 0, 1) := by decide +kernel
theorem dX6_state_126 : decode cX6_state 126 = .ok (.getfield 7, 3) := by decide +kernel
theorem dX6_state_129 : decode cX6_state 129 = .ok (.iload 4, 2) := by decide +kernel
theorem dX6_state_131 : decode cX6_state 131 = .ok (.iaload, 1) := by decide +kernel
theorem dX6_state_132 : decode cX6_state 132 = .ok (.goto 4, 3) := by decide +kernel
theorem dX6_state_135 : decode cX6_state 135 = .ok (.iconst 0, 1) := by decide +kernel
theorem dX6_state_136 : decode cX6_state 136 = .ok (.iadd, 1) := by decide +kernel
theorem dX6_state_137 : decode cX6_state 137 = .ok (.istore_n 3, 1) := by decide +kernel
theorem dX6_state_138 : decode cX6_state 138 = .ok (.iinc 4 1, 3) := by decide +kernel
theorem dX6_state_141 : decode cX6_state 141 = .ok (.goto (-36), 3) := by decide +kernel
theorem dX6_state_144 : decode cX6_state 144 = .ok (.iload_n 3, 1) := by decide +kernel
theorem dX6_state_145 : decode cX6_state 145 = .ok (.ireturn, 1) := by decide +kernel
theorem dX6_state_146 : decode cX6_state 146 = .ok (.iconst (-1), 1) := by decide +kernel
theorem dX6_state_147 : decode cX6_state 147 = .ok (.ireturn, 1) := by decide +kernel
set_option maxRecDepth 20000 in
theorem ggX6_about_X6_isMirror : GoodIn wsX6_about wsX6_isMirror := goodIn_r _ [13, 14, 15, 16, 12, 17, 32, 33, 34, 35, 36, 37, 38, 39, 40, 41, 42, 43, 44, 45, 46, 47, 48, 49, 50, 51, 52, 53, 54, 55, 56, 57, 58, 59, 60, 61, 62, 63, 64, 65, 66, 67, 68, 69, 70, 71] (by decide +kernel) (by decide +kernel)
set_option maxRecDepth 20000 in
theorem gX6_about_X6_isMirror : GoodIn wsX6_about (wsV RX6 116 RX6 yX6_isMirror wsX6_isMirror) := goodIn_app (goodIn_of _ (by decide +kernel)) ggX6_about_X6_isMirror
set_option maxRecDepth 20000 in
theorem ggX6_about_X6_isNamed : GoodIn wsX6_about wsX6_isNamed := goodIn_r _ [21, 22, 32, 33, 34, 35, 36, 37, 38, 39, 40, 41, 42, 43, 44, 45, 46, 47, 48, 49, 50, 51, 52, 53, 54, 55, 56, 57, 58, 59, 60, 61, 62, 63, 64, 65, 66, 67, 68, 69, 70, 71] (by decide +kernel) (by decide +kernel)
set_option maxRecDepth 20000 in
theorem gX6_about_X6_isNamed : GoodIn wsX6_about (wsV RX6 122 RX6 yX6_isNamed wsX6_isNamed) := goodIn_app (goodIn_of _ (by decide +kernel)) ggX6_about_X6_isNamed
set_option maxRecDepth 20000 in
theorem ggX6_about_X6_isFallen : GoodIn wsX6_about wsX6_isFallen := goodIn_r _ [26, 27, 28, 29, 30, 31, 32, 33, 34, 35, 36, 37, 38, 39, 40, 41, 42, 43, 44, 45, 46, 47, 48, 49, 50, 51, 52, 53, 54, 55, 56, 57, 58, 59, 60, 61, 62, 63, 64, 65, 66, 67, 68, 69, 70, 71] (by decide +kernel) (by decide +kernel)
set_option maxRecDepth 20000 in
theorem gX6_about_X6_isFallen : GoodIn wsX6_about (wsV RX6 130 RX6 yX6_isFallen wsX6_isFallen) := goodIn_app (goodIn_of _ (by decide +kernel)) ggX6_about_X6_isFallen
theorem dX6_about_0 : decode cX6_about 0 = .ok (.aload_n 0, 1) := by decide +kernel
theorem dX6_about_1 : decode cX6_about 1 = .ok (.iload_n 1, 1) := by decide +kernel
theorem dX6_about_2 : decode cX6_about 2 = .ok (.invokevirtual 116, 3) := by decide +kernel
theorem dX6_about_5 : decode cX6_about 5 = .ok (.ifCond .ne 5, 3) := by decide +kernel
theorem dX6_about_8 : decode cX6_about 8 = .ok (.iconst (-1), 1) := by decide +kernel
theorem dX6_about_9 : decode cX6_about 9 = .ok (.ireturn, 1) := by decide +kernel
theorem dX6_about_10 : decode cX6_about 10 = .ok (.iconst 0, 1) := by decide +kernel
theorem dX6_about_11 : decode cX6_about 11 = .ok (.istore_n 3, 1) := by decide +kernel
theorem dX6_about_12 : decode cX6_about 12 = .ok (.iconst 0, 1) := by decide +kernel
theorem dX6_about_13 : decode cX6_about 13 = .ok (.istore 4, 2) := by decide +kernel
theorem dX6_about_15 : decode cX6_about 15 = .ok (.aload_n 0, 1) := by decide +kernel
theorem dX6_about_16 : decode cX6_about 16 = .ok (.getfield 41, 3) := by decide +kernel
theorem dX6_about_19 : decode cX6_about 19 = .ok (.iload_n 1, 1) := by decide +kernel
theorem dX6_about_20 : decode cX6_about 20 = .ok (.iaload, 1) := by decide +kernel
theorem dX6_about_21 : decode cX6_about 21 = .ok (.ineg, 1) := by decide +kernel
theorem dX6_about_22 : decode cX6_about 22 = .ok (.istore 5, 2) := by decide +kernel
theorem dX6_about_24 : decode cX6_about 24 = .ok (.iconst 0, 1) := by decide +kernel
theorem dX6_about_25 : decode cX6_about 25 = .ok (.istore 6, 2) := by decide +kernel
theorem dX6_about_27 : decode cX6_about 27 = .ok (.iload 6, 2) := by decide +kernel
theorem dX6_about_29 : decode cX6_about 29 = .ok (.aload_n 0, 1) := by decide +kernel
theorem dX6_about_30 : decode cX6_about 30 = .ok (.getfield 96, 3) := by decide +kernel
theorem dX6_about_33 : decode cX6_about 33 = .ok (.if_icmp .ge 103, 3) := by decide +kernel
theorem dX6_about_36 : decode cX6_about 36 = .ok (.aload_n 0, 1) := by decide +kernel
theorem dX6_about_37 : decode cX6_about 37 = .ok (.getfield 51, 3) := by decide +kernel
theorem dX6_about_40 : decode cX6_about 40 = .ok (.bipush 60, 2) := by decide +kernel
theorem dX6_about_42 : decode cX6_about 42 = .ok (.iload_n 1, 1) := by decide +kernel
theorem dX6_about_43 : decode cX6_about 43 = .ok (.imul, 1) := by decide +kernel
theorem dX6_about_44 : decode cX6_about 44 = .ok (.iload 6, 2) := by decide +kernel
theorem dX6_about_46 : decode cX6_about 46 = .ok (.iadd, 1) := by decide +kernel
theorem dX6_about_47 : decode cX6_about 47 = .ok (.baload, 1) := by decide +kernel
theorem dX6_about_48 : decode cX6_about 48 = .ok (.istore 7, 2) := by decide +kernel
theorem dX6_about_50 : decode cX6_about 50 = .ok (.iload_n 3, 1) := by decide +kernel
theorem dX6_about_51 : decode cX6_about 51 = .ok (.iload 7, 2) := by decide +kernel
theorem dX6_about_53 : decode cX6_about 53 = .ok (.ifCond .eq 7, 3) := by decide +kernel
theorem dX6_about_56 : decode cX6_about 56 = .ok (.iconst 1, 1) := by decide +kernel
theorem dX6_about_57 : decode cX6_about 57 = .ok (.goto 4, 3) := by decide +kernel
theorem dX6_about_60 : decode cX6_about 60 = .ok (.iconst 0, 1) := by decide +kernel
theorem dX6_about_61 : decode cX6_about 61 = .ok (.iadd, 1) := by decide +kernel
theorem dX6_about_62 : decode cX6_about 62 = .ok (.istore_n 3, 1) := by decide +kernel
theorem dX6_about_63 : decode cX6_about 63 = .ok (.iload 4, 2) := by decide +kernel
theorem dX6_about_65 : decode cX6_about 65 = .ok (.iload 7, 2) := by decide +kernel
theorem dX6_about_67 : decode cX6_about 67 = .ok (.ifCond .eq 13, 3) := by decide +kernel
theorem dX6_about_70 : decode cX6_about 70 = .ok (.aload_n 0, 1) := by decide +kernel
theorem dX6_about_71 : decode cX6_about 71 = .ok (.getfield 7, 3) := by decide +kernel
theorem dX6_about_74 : decode cX6_about 74 = .ok (.iload 6, 2) := by decide +kernel
theorem dX6_about_76 : decode cX6_about 76 = .ok (.iaload, 1) := by decide +kernel
theorem dX6_about_77 : decode cX6_about 77 = .ok (.goto 4, 3) := by decide +kernel
theorem dX6_about_80 : decode cX6_about 80 = .ok (.iconst 0, 1) := by decide +kernel
theorem dX6_about_81 : decode cX6_about 81 = .ok (.iadd, 1) := by decide +kernel
theorem dX6_about_82 : decode cX6_about 82 = .ok (.istore 4, 2) := by decide +kernel
theorem dX6_about_84 : decode cX6_about 84 = .ok (.iload 5, 2) := by decide +kernel
theorem dX6_about_86 : decode cX6_about 86 = .ok (.iload 7, 2) := by decide +kernel
theorem dX6_about_88 : decode cX6_about 88 = .ok (.ifCond .ne 38, 3) := by decide +kernel
theorem dX6_about_91 : decode cX6_about 91 = .ok (.aload_n 0, 1) := by decide +kernel
theorem dX6_about_92 : decode cX6_about 92 = .ok (.getfield 38, 3) := by decide +kernel
theorem dX6_about_95 : decode cX6_about 95 = .ok (.iload_n 1, 1) := by decide +kernel
theorem dX6_about_96 : decode cX6_about 96 = .ok (.iaload, 1) := by decide +kernel
theorem dX6_about_97 : decode cX6_about 97 = .ok (.iconst (-1), 1) := by decide +kernel
theorem dX6_about_98 : decode cX6_about 98 = .ok (.if_icmp .eq 28, 3) := by decide +kernel
theorem dX6_about_101 : decode cX6_about 101 = .ok (.aload_n 0, 1) := by decide +kernel
theorem dX6_about_102 : decode cX6_about 102 = .ok (.aload_n 0, 1) := by decide +kernel
theorem dX6_about_103 : decode cX6_about 103 = .ok (.getfield 38, 3) := by decide +kernel
theorem dX6_about_106 : decode cX6_about 106 = .ok (.iload_n 1, 1) := by decide +kernel
theorem dX6_about_107 : decode cX6_about 107 = .ok (.iaload, 1) := by decide +kernel
theorem dX6_about_108 : decode cX6_about 108 = .ok (.iload 6, 2) := by decide +kernel
theorem dX6_about_110 : decode cX6_about 110 = .ok (.invokevirtual 122, 3) := by decide +kernel
theorem dX6_about_113 : decode cX6_about 113 = .ok (.ifCond .eq 13, 3) := by decide +kernel
theorem dX6_about_116 : decode cX6_about 116 = .ok (.aload_n 0, 1) := by decide +kernel
theorem dX6_about_117 : decode cX6_about 117 = .ok (.getfield 7, 3) := by decide +kernel
theorem dX6_about_120 : decode cX6_about 120 = .ok (.iload 6, 2) := by decide +kernel
theorem dX6_about_122 : decode cX6_about 122 = .ok (.iaload, 1) := by decide +kernel
theorem dX6_about_123 : decode cX6_about 123 = .ok (.goto 4, 3) := by decide +kernel
theorem dX6_about_126 : decode cX6_about 126 = .ok (.iconst 0, 1) := by decide +kernel
theorem dX6_about_127 : decode cX6_about 127 = .ok (.iadd, 1) := by decide +kernel
theorem dX6_about_128 : decode cX6_about 128 = .ok (.istore 5, 2) := by decide +kernel
theorem dX6_about_130 : decode cX6_about 130 = .ok (.iinc 6 1, 3) := by decide +kernel
theorem dX6_about_133 : decode cX6_about 133 = .ok (.goto (-106), 3) := by decide +kernel
theorem dX6_about_136 : decode cX6_about 136 = .ok (.iload_n 2, 1) := by decide +kernel
theorem dX6_about_137 : decode cX6_about 137 = .ok (.tableswitch 130 0 8 #[51, 58, 65, 67, 70, 77, 84, 98, 113], 51) := by decide +kernel
theorem dX6_about_188 : decode cX6_about 188 = .ok (.aload_n 0, 1) := by decide +kernel
theorem dX6_about_189 : decode cX6_about 189 = .ok (.getfield 35, 3) := by decide +kernel
theorem dX6_about_192 : decode cX6_about 192 = .ok (.iload_n 1, 1) := by decide +kernel
theorem dX6_about_193 : decode cX6_about 193 = .ok (.iaload, 1) := by decide +kernel
theorem dX6_about_194 : decode cX6_about 194 = .ok (.ireturn, 1) := by decide +kernel
theorem dX6_about_195 : decode cX6_about 195 = .ok (.aload_n 0, 1) := by decide +kernel
theorem dX6_about_196 : decode cX6_about 196 = .ok (.getfield 38, 3) := by decide +kernel
theorem dX6_about_199 : decode cX6_about 199 = .ok (.iload_n 1, 1) := by decide +kernel
theorem dX6_about_200 : decode cX6_about 200 = .ok (.iaload, 1) := by decide +kernel
theorem dX6_about_201 : decode cX6_about 201 = .ok (.ireturn, 1) := by decide +kernel
theorem dX6_about_202 : decode cX6_about 202 = .ok (.iload_n 3, 1) := by decide +kernel
theorem dX6_about_203 : decode cX6_about 203 = .ok (.ireturn, 1) := by decide +kernel
theorem dX6_about_204 : decode cX6_about 204 = .ok (.iload 4, 2) := by decide +kernel
theorem dX6_about_206 : decode cX6_about 206 = .ok (.ireturn, 1) := by decide +kernel
theorem dX6_about_207 : decode cX6_about 207 = .ok (.aload_n 0, 1) := by decide +kernel
theorem dX6_about_208 : decode cX6_about 208 = .ok (.getfield 41, 3) := by decide +kernel
theorem dX6_about_211 : decode cX6_about 211 = .ok (.iload_n 1, 1) := by decide +kernel
theorem dX6_about_212 : decode cX6_about 212 = .ok (.iaload, 1) := by decide +kernel
theorem dX6_about_213 : decode cX6_about 213 = .ok (.ireturn, 1) := by decide +kernel
theorem dX6_about_214 : decode cX6_about 214 = .ok (.aload_n 0, 1) := by decide +kernel
theorem dX6_about_215 : decode cX6_about 215 = .ok (.getfield 44, 3) := by decide +kernel
theorem dX6_about_218 : decode cX6_about 218 = .ok (.iload_n 1, 1) := by decide +kernel
theorem dX6_about_219 : decode cX6_about 219 = .ok (.iaload, 1) := by decide +kernel
theorem dX6_about_220 : decode cX6_about 220 = .ok (.ireturn, 1) := by decide +kernel
theorem dX6_about_221 : decode cX6_about 221 = .ok (.aload_n 0, 1) := by decide +kernel
theorem dX6_about_222 : decode cX6_about 222 = .ok (.iload_n 1, 1) := by decide +kernel
theorem dX6_about_223 : decode cX6_about 223 = .ok (.invokevirtual 130, 3) := by decide +kernel
theorem dX6_about_226 : decode cX6_about 226 = .ok (.ifCond .eq 7, 3) := by decide +kernel
theorem dX6_about_229 : decode cX6_about 229 = .ok (.iconst 1, 1) := by decide +kernel
theorem dX6_about_230 : decode cX6_about 230 = .ok (.goto 4, 3) := by decide +kernel
theorem dX6_about_233 : decode cX6_about 233 = .ok (.iconst 0, 1) := by decide +kernel
theorem dX6_about_234 : decode cX6_about 234 = .ok (.ireturn, 1) := by decide +kernel
theorem dX6_about_235 : decode cX6_about 235 = .ok (.aload_n 0, 1) := by decide +kernel
theorem dX6_about_236 : decode cX6_about 236 = .ok (.getfield 47, 3) := by decide +kernel
theorem dX6_about_239 : decode cX6_about 239 = .ok (.iload_n 1, 1) := by decide +kernel
theorem dX6_about_240 : decode cX6_about 240 = .ok (.baload, 1) := by decide +kernel
theorem dX6_about_241 : decode cX6_about 241 = .ok (.ifCond .eq 7, 3) := by decide +kernel
theorem dX6_about_244 : decode cX6_about 244 = .ok (.iconst 1, 1) := by decide +kernel
theorem dX6_about_245 : decode cX6_about 245 = .ok (.goto 4, 3) := by decide +kernel
theorem dX6_about_248 : decode cX6_about 248 = .ok (.iconst 0, 1) := by decide +kernel
theorem dX6_about_249 : decode cX6_about 249 = .ok (.ireturn, 1) := by decide +kernel
theorem dX6_about_250 : decode cX6_about 250 = .ok (.aload_n 0, 1) := by decide +kernel
theorem dX6_about_251 : decode cX6_about 251 = .ok (.getfield 38, 3) := by decide +kernel
theorem dX6_about_254 : decode cX6_about 254 = .ok (.iload_n 1, 1) := by decide +kernel
theorem dX6_about_255 : decode cX6_about 255 = .ok (.iaload, 1) := by decide +kernel
theorem dX6_about_256 : decode cX6_about 256 = .ok (.iconst (-1), 1) := by decide +kernel
theorem dX6_about_257 : decode cX6_about 257 = .ok (.if_icmp .ne 7, 3) := by decide +kernel
theorem dX6_about_260 : decode cX6_about 260 = .ok (.iconst (-1), 1) := by decide +kernel
theorem dX6_about_261 : decode cX6_about 261 = .ok (.goto 5, 3) := by decide +kernel
theorem dX6_about_264 : decode cX6_about 264 = .ok (.iload 5, 2) := by decide +kernel
theorem dX6_about_266 : decode cX6_about 266 = .ok (.ireturn, 1) := by decide +kernel
theorem dX6_about_267 : decode cX6_about 267 = .ok (.iconst (-1), 1) := by decide +kernel
theorem dX6_about_268 : decode cX6_about 268 = .ok (.ireturn, 1) := by decide +kernel
set_option maxRecDepth 20000 in
theorem ggX6_has_X6_isMirror : GoodIn wsX6_has wsX6_isMirror := goodIn_r _ [6, 7, 8, 9, 5, 10, 16, 17, 18, 19, 20, 21, 22, 23, 24, 25, 26, 27, 28, 29, 30, 31, 32, 33, 34, 35, 36, 37, 38, 39, 40, 41, 42, 43, 44, 45, 46, 47, 48, 49, 50, 51, 52, 53, 54, 55] (by decide +kernel) (by decide +kernel)
set_option maxRecDepth 20000 in
theorem gX6_has_X6_isMirror : GoodIn wsX6_has (wsV RX6 116 RX6 yX6_isMirror wsX6_isMirror) := goodIn_app (goodIn_of _ (by decide +kernel)) ggX6_has_X6_isMirror
set_option maxRecDepth 20000 in
theorem ggX6_has_X6_isFile : GoodIn wsX6_has wsX6_isFile := goodIn_r _ [14, 15, 8, 9, 5, 10, 16, 17, 18, 19, 20, 21, 22, 23, 24, 25, 26, 27, 28, 29, 30, 31, 32, 33, 34, 35, 36, 37, 38, 39, 40, 41, 42, 43, 44, 45, 46, 47, 48, 49, 50, 51, 52, 53, 54, 55] (by decide +kernel) (by decide +kernel)
set_option maxRecDepth 20000 in
theorem gX6_has_X6_isFile : GoodIn wsX6_has (wsV RX6 106 RX6 yX6_isFile wsX6_isFile) := goodIn_app (goodIn_of _ (by decide +kernel)) ggX6_has_X6_isFile
theorem dX6_has_0 : decode cX6_has 0 = .ok (.aload_n 0, 1) := by decide +kernel
theorem dX6_has_1 : decode cX6_has 1 = .ok (.iload_n 1, 1) := by decide +kernel
theorem dX6_has_2 : decode cX6_has 2 = .ok (.invokevirtual 116, 3) := by decide +kernel
theorem dX6_has_5 : decode cX6_has 5 = .ok (.ifCond .eq 11, 3) := by decide +kernel
theorem dX6_has_8 : decode cX6_has 8 = .ok (.aload_n 0, 1) := by decide +kernel
theorem dX6_has_9 : decode cX6_has 9 = .ok (.iload_n 2, 1) := by decide +kernel
theorem dX6_has_10 : decode cX6_has 10 = .ok (.invokevirtual 106, 3) := by decide +kernel
theorem dX6_has_13 : decode cX6_has 13 = .ok (.ifCond .ne 7, 3) := by decide +kernel
theorem dX6_has_16 : decode cX6_has 16 = .ok (.iconst (-1), 1) := by decide +kernel
theorem dX6_has_17 : decode cX6_has 17 = .ok (.goto 22, 3) := by decide +kernel
theorem dX6_has_20 : decode cX6_has 20 = .ok (.aload_n 0, 1) := by decide +kernel
theorem dX6_has_21 : decode cX6_has 21 = .ok (.getfield 51, 3) := by decide +kernel
theorem dX6_has_24 : decode cX6_has 24 = .ok (.bipush 60, 2) := by decide +kernel
theorem dX6_has_26 : decode cX6_has 26 = .ok (.iload_n 1, 1) := by decide +kernel
theorem dX6_has_27 : decode cX6_has 27 = .ok (.imul, 1) := by decide +kernel
theorem dX6_has_28 : decode cX6_has 28 = .ok (.iload_n 2, 1) := by decide +kernel
theorem dX6_has_29 : decode cX6_has 29 = .ok (.iadd, 1) := by decide +kernel
theorem dX6_has_30 : decode cX6_has 30 = .ok (.baload, 1) := by decide +kernel
theorem dX6_has_31 : decode cX6_has 31 = .ok (.ifCond .eq 7, 3) := by decide +kernel
theorem dX6_has_34 : decode cX6_has 34 = .ok (.iconst 1, 1) := by decide +kernel
theorem dX6_has_35 : decode cX6_has 35 = .ok (.goto 4, 3) := by decide +kernel
theorem dX6_has_38 : decode cX6_has 38 = .ok (.iconst 0, 1) := by decide +kernel
theorem dX6_has_39 : decode cX6_has 39 = .ok (.ireturn, 1) := by decide +kernel
theorem dX6_count_0 : decode cX6_count 0 = .ok (.iconst 0, 1) := by decide +kernel
theorem dX6_count_1 : decode cX6_count 1 = .ok (.istore_n 2, 1) := by decide +kernel
theorem dX6_count_2 : decode cX6_count 2 = .ok (.iload_n 1, 1) := by decide +kernel
theorem dX6_count_3 : decode cX6_count 3 = .ok (.tableswitch 107 0 6 #[41, 46, 51, 56, 61, 66, 71], 41) := by decide +kernel
theorem dX6_count_44 : decode cX6_count 44 = .ok (.aload_n 0, 1) := by decide +kernel
theorem dX6_count_45 : decode cX6_count 45 = .ok (.getfield 103, 3) := by decide +kernel
theorem dX6_count_48 : decode cX6_count 48 = .ok (.ireturn, 1) := by decide +kernel
theorem dX6_count_49 : decode cX6_count 49 = .ok (.aload_n 0, 1) := by decide +kernel
theorem dX6_count_50 : decode cX6_count 50 = .ok (.getfield 96, 3) := by decide +kernel
theorem dX6_count_53 : decode cX6_count 53 = .ok (.ireturn, 1) := by decide +kernel
theorem dX6_count_54 : decode cX6_count 54 = .ok (.aload_n 0, 1) := by decide +kernel
theorem dX6_count_55 : decode cX6_count 55 = .ok (.getfield 16, 3) := by decide +kernel
theorem dX6_count_58 : decode cX6_count 58 = .ok (.ireturn, 1) := by decide +kernel
theorem dX6_count_59 : decode cX6_count 59 = .ok (.aload_n 0, 1) := by decide +kernel
theorem dX6_count_60 : decode cX6_count 60 = .ok (.getfield 113, 3) := by decide +kernel
theorem dX6_count_63 : decode cX6_count 63 = .ok (.ireturn, 1) := by decide +kernel
theorem dX6_count_64 : decode cX6_count 64 = .ok (.aload_n 0, 1) := by decide +kernel
theorem dX6_count_65 : decode cX6_count 65 = .ok (.getfield 119, 3) := by decide +kernel
theorem dX6_count_68 : decode cX6_count 68 = .ok (.ireturn, 1) := by decide +kernel
theorem dX6_count_69 : decode cX6_count 69 = .ok (.aload_n 0, 1) := by decide +kernel
theorem dX6_count_70 : decode cX6_count 70 = .ok (.getfield 69, 3) := by decide +kernel
theorem dX6_count_73 : decode cX6_count 73 = .ok (.ireturn, 1) := by decide +kernel
theorem dX6_count_74 : decode cX6_count 74 = .ok (.iconst 0, 1) := by decide +kernel
theorem dX6_count_75 : decode cX6_count 75 = .ok (.istore_n 3, 1) := by decide +kernel
theorem dX6_count_76 : decode cX6_count 76 = .ok (.iload_n 3, 1) := by decide +kernel
theorem dX6_count_77 : decode cX6_count 77 = .ok (.aload_n 0, 1) := by decide +kernel
theorem dX6_count_78 : decode cX6_count 78 = .ok (.getfield 96, 3) := by decide +kernel
theorem dX6_count_81 : decode cX6_count 81 = .ok (.if_icmp .ge 27, 3) := by decide +kernel
theorem dX6_count_84 : decode cX6_count 84 = .ok (.iload_n 2, 1) := by decide +kernel
theorem dX6_count_85 : decode cX6_count 85 = .ok (.aload_n 0, 1) := by decide +kernel
theorem dX6_count_86 : decode cX6_count 86 = .ok (.getfield 13, 3) := by decide +kernel
theorem dX6_count_89 : decode cX6_count 89 = .ok (.iload_n 3, 1) := by decide +kernel
theorem dX6_count_90 : decode cX6_count 90 = .ok (.iaload, 1) := by decide +kernel
theorem dX6_count_91 : decode cX6_count 91 = .ok (.iconst (-1), 1) := by decide +kernel
theorem dX6_count_92 : decode cX6_count 92 = .ok (.if_icmp .eq 7, 3) := by decide +kernel
theorem dX6_count_95 : decode cX6_count 95 = .ok (.iconst 1, 1) := by decide +kernel
theorem dX6_count_96 : decode cX6_count 96 = .ok (.goto 4, 3) := by decide +kernel
theorem dX6_count_99 : decode cX6_count 99 = .ok (.iconst 0, 1) := by decide +kernel
theorem dX6_count_100 : decode cX6_count 100 = .ok (.iadd, 1) := by decide +kernel
theorem dX6_count_101 : decode cX6_count 101 = .ok (.istore_n 2, 1) := by decide +kernel
theorem dX6_count_102 : decode cX6_count 102 = .ok (.iinc 3 1, 3) := by decide +kernel
theorem dX6_count_105 : decode cX6_count 105 = .ok (.goto (-29), 3) := by decide +kernel
theorem dX6_count_108 : decode cX6_count 108 = .ok (.iload_n 2, 1) := by decide +kernel
theorem dX6_count_109 : decode cX6_count 109 = .ok (.ireturn, 1) := by decide +kernel
theorem dX6_count_110 : decode cX6_count 110 = .ok (.iconst (-1), 1) := by decide +kernel
theorem dX6_count_111 : decode cX6_count 111 = .ok (.ireturn, 1) := by decide +kernel
end
section
theorem dJ6_bitCount_0f7a4_0 : decode cJ6_bitCount_0f7a4 0 = .ok (.iload_n 0, 1) := by decide +kernel
theorem dJ6_bitCount_0f7a4_1 : decode cJ6_bitCount_0f7a4 1 = .ok (.iload_n 0, 1) := by decide +kernel
theorem dJ6_bitCount_0f7a4_2 : decode cJ6_bitCount_0f7a4 2 = .ok (.iconst 1, 1) := by decide +kernel
theorem dJ6_bitCount_0f7a4_3 : decode cJ6_bitCount_0f7a4 3 = .ok (.iushr, 1) := by decide +kernel
theorem dJ6_bitCount_0f7a4_4 : decode cJ6_bitCount_0f7a4 4 = .ok (.ldc_w 265, 3) := by decide +kernel
theorem dJ6_bitCount_0f7a4_7 : decode cJ6_bitCount_0f7a4 7 = .ok (.iand, 1) := by decide +kernel
theorem dJ6_bitCount_0f7a4_8 : decode cJ6_bitCount_0f7a4 8 = .ok (.isub, 1) := by decide +kernel
theorem dJ6_bitCount_0f7a4_9 : decode cJ6_bitCount_0f7a4 9 = .ok (.istore_n 0, 1) := by decide +kernel
theorem dJ6_bitCount_0f7a4_10 : decode cJ6_bitCount_0f7a4 10 = .ok (.iload_n 0, 1) := by decide +kernel
theorem dJ6_bitCount_0f7a4_11 : decode cJ6_bitCount_0f7a4 11 = .ok (.ldc_w 266, 3) := by decide +kernel
theorem dJ6_bitCount_0f7a4_14 : decode cJ6_bitCount_0f7a4 14 = .ok (.iand, 1) := by decide +kernel
theorem dJ6_bitCount_0f7a4_15 : decode cJ6_bitCount_0f7a4 15 = .ok (.iload_n 0, 1) := by decide +kernel
theorem dJ6_bitCount_0f7a4_16 : decode cJ6_bitCount_0f7a4 16 = .ok (.iconst 2, 1) := by decide +kernel
theorem dJ6_bitCount_0f7a4_17 : decode cJ6_bitCount_0f7a4 17 = .ok (.iushr, 1) := by decide +kernel
theorem dJ6_bitCount_0f7a4_18 : decode cJ6_bitCount_0f7a4 18 = .ok (.ldc_w 266, 3) := by decide +kernel
theorem dJ6_bitCount_0f7a4_21 : decode cJ6_bitCount_0f7a4 21 = .ok (.iand, 1) := by decide +kernel
theorem dJ6_bitCount_0f7a4_22 : decode cJ6_bitCount_0f7a4 22 = .ok (.iadd, 1) := by decide +kernel
theorem dJ6_bitCount_0f7a4_23 : decode cJ6_bitCount_0f7a4 23 = .ok (.istore_n 0, 1) := by decide +kernel
theorem dJ6_bitCount_0f7a4_24 : decode cJ6_bitCount_0f7a4 24 = .ok (.iload_n 0, 1) := by decide +kernel
theorem dJ6_bitCount_0f7a4_25 : decode cJ6_bitCount_0f7a4 25 = .ok (.iload_n 0, 1) := by decide +kernel
theorem dJ6_bitCount_0f7a4_26 : decode cJ6_bitCount_0f7a4 26 = .ok (.iconst 4, 1) := by decide +kernel
theorem dJ6_bitCount_0f7a4_27 : decode cJ6_bitCount_0f7a4 27 = .ok (.iushr, 1) := by decide +kernel
theorem dJ6_bitCount_0f7a4_28 : decode cJ6_bitCount_0f7a4 28 = .ok (.iadd, 1) := by decide +kernel
theorem dJ6_bitCount_0f7a4_29 : decode cJ6_bitCount_0f7a4 29 = .ok (.ldc_w 267, 3) := by decide +kernel
theorem dJ6_bitCount_0f7a4_32 : decode cJ6_bitCount_0f7a4 32 = .ok (.iand, 1) := by decide +kernel
theorem dJ6_bitCount_0f7a4_33 : decode cJ6_bitCount_0f7a4 33 = .ok (.istore_n 0, 1) := by decide +kernel
theorem dJ6_bitCount_0f7a4_34 : decode cJ6_bitCount_0f7a4 34 = .ok (.iload_n 0, 1) := by decide +kernel
theorem dJ6_bitCount_0f7a4_35 : decode cJ6_bitCount_0f7a4 35 = .ok (.iload_n 0, 1) := by decide +kernel
theorem dJ6_bitCount_0f7a4_36 : decode cJ6_bitCount_0f7a4 36 = .ok (.bipush 8, 2) := by decide +kernel
theorem dJ6_bitCount_0f7a4_38 : decode cJ6_bitCount_0f7a4 38 = .ok (.iushr, 1) := by decide +kernel
theorem dJ6_bitCount_0f7a4_39 : decode cJ6_bitCount_0f7a4 39 = .ok (.iadd, 1) := by decide +kernel
theorem dJ6_bitCount_0f7a4_40 : decode cJ6_bitCount_0f7a4 40 = .ok (.istore_n 0, 1) := by decide +kernel
theorem dJ6_bitCount_0f7a4_41 : decode cJ6_bitCount_0f7a4 41 = .ok (.iload_n 0, 1) := by decide +kernel
theorem dJ6_bitCount_0f7a4_42 : decode cJ6_bitCount_0f7a4 42 = .ok (.iload_n 0, 1) := by decide +kernel
theorem dJ6_bitCount_0f7a4_43 : decode cJ6_bitCount_0f7a4 43 = .ok (.bipush 16, 2) := by decide +kernel
theorem dJ6_bitCount_0f7a4_45 : decode cJ6_bitCount_0f7a4 45 = .ok (.iushr, 1) := by decide +kernel
theorem dJ6_bitCount_0f7a4_46 : decode cJ6_bitCount_0f7a4 46 = .ok (.iadd, 1) := by decide +kernel
theorem dJ6_bitCount_0f7a4_47 : decode cJ6_bitCount_0f7a4 47 = .ok (.istore_n 0, 1) := by decide +kernel
theorem dJ6_bitCount_0f7a4_48 : decode cJ6_bitCount_0f7a4 48 = .ok (.iload_n 0, 1) := by decide +kernel
theorem dJ6_bitCount_0f7a4_49 : decode cJ6_bitCount_0f7a4 49 = .ok (.bipush 63, 2) := by decide +kernel
theorem dJ6_bitCount_0f7a4_51 : decode cJ6_bitCount_0f7a4 51 = .ok (.iand, 1) := by decide +kernel
theorem dJ6_bitCount_0f7a4_52 : decode cJ6_bitCount_0f7a4 52 = .ok (.ireturn, 1) := by decide +kernel
theorem dJ13_bitCount_95d88_0 : decode cJ13_bitCount_95d88 0 = .ok (.lload_n 0, 1) := by decide +kernel
theorem dJ13_bitCount_95d88_1 : decode cJ13_bitCount_95d88 1 = .ok (.lload_n 0, 1) := by decide +kernel
theorem dJ13_bitCount_95d88_2 : decode cJ13_bitCount_95d88 2 = .ok (.iconst 1, 1) := by decide +kernel
theorem dJ13_bitCount_95d88_3 : decode cJ13_bitCount_95d88 3 = .ok (.lushr, 1) := by decide +kernel
theorem dJ13_bitCount_95d88_4 : decode cJ13_bitCount_95d88 4 = .ok (.ldc2_w 314, 3) := by decide +kernel
theorem dJ13_bitCount_95d88_7 : decode cJ13_bitCount_95d88 7 = .ok (.land, 1) := by decide +kernel
theorem dJ13_bitCount_95d88_8 : decode cJ13_bitCount_95d88 8 = .ok (.lsub, 1) := by decide +kernel
theorem dJ13_bitCount_95d88_9 : decode cJ13_bitCount_95d88 9 = .ok (.lstore_n 0, 1) := by decide +kernel
theorem dJ13_bitCount_95d88_10 : decode cJ13_bitCount_95d88 10 = .ok (.lload_n 0, 1) := by decide +kernel
theorem dJ13_bitCount_95d88_11 : decode cJ13_bitCount_95d88 11 = .ok (.ldc2_w 316, 3) := by decide +kernel
theorem dJ13_bitCount_95d88_14 : decode cJ13_bitCount_95d88 14 = .ok (.land, 1) := by decide +kernel
theorem dJ13_bitCount_95d88_15 : decode cJ13_bitCount_95d88 15 = .ok (.lload_n 0, 1) := by decide +kernel
theorem dJ13_bitCount_95d88_16 : decode cJ13_bitCount_95d88 16 = .ok (.iconst 2, 1) := by decide +kernel
theorem dJ13_bitCount_95d88_17 : decode cJ13_bitCount_95d88 17 = .ok (.lushr, 1) := by decide +kernel
theorem dJ13_bitCount_95d88_18 : decode cJ13_bitCount_95d88 18 = .ok (.ldc2_w 316, 3) := by decide +kernel
theorem dJ13_bitCount_95d88_21 : decode cJ13_bitCount_95d88 21 = .ok (.land, 1) := by decide +kernel
theorem dJ13_bitCount_95d88_22 : decode cJ13_bitCount_95d88 22 = .ok (.ladd, 1) := by decide +kernel
theorem dJ13_bitCount_95d88_23 : decode cJ13_bitCount_95d88 23 = .ok (.lstore_n 0, 1) := by decide +kernel
theorem dJ13_bitCount_95d88_24 : decode cJ13_bitCount_95d88 24 = .ok (.lload_n 0, 1) := by decide +kernel
theorem dJ13_bitCount_95d88_25 : decode cJ13_bitCount_95d88 25 = .ok (.lload_n 0, 1) := by decide +kernel
theorem dJ13_bitCount_95d88_26 : decode cJ13_bitCount_95d88 26 = .ok (.iconst 4, 1) := by decide +kernel
theorem dJ13_bitCount_95d88_27 : decode cJ13_bitCount_95d88 27 = .ok (.lushr, 1) := by decide +kernel
theorem dJ13_bitCount_95d88_28 : decode cJ13_bitCount_95d88 28 = .ok (.ladd, 1) := by decide +kernel
theorem dJ13_bitCount_95d88_29 : decode cJ13_bitCount_95d88 29 = .ok (.ldc2_w 318, 3) := by decide +kernel
theorem dJ13_bitCount_95d88_32 : decode cJ13_bitCount_95d88 32 = .ok (.land, 1) := by decide +kernel
theorem dJ13_bitCount_95d88_33 : decode cJ13_bitCount_95d88 33 = .ok (.lstore_n 0, 1) := by decide +kernel
theorem dJ13_bitCount_95d88_34 : decode cJ13_bitCount_95d88 34 = .ok (.lload_n 0, 1) := by decide +kernel
theorem dJ13_bitCount_95d88_35 : decode cJ13_bitCount_95d88 35 = .ok (.lload_n 0, 1) := by decide +kernel
theorem dJ13_bitCount_95d88_36 : decode cJ13_bitCount_95d88 36 = .ok (.bipush 8, 2) := by decide +kernel
theorem dJ13_bitCount_95d88_38 : decode cJ13_bitCount_95d88 38 = .ok (.lushr, 1) := by decide +kernel
theorem dJ13_bitCount_95d88_39 : decode cJ13_bitCount_95d88 39 = .ok (.ladd, 1) := by decide +kernel
theorem dJ13_bitCount_95d88_40 : decode cJ13_bitCount_95d88 40 = .ok (.lstore_n 0, 1) := by decide +kernel
theorem dJ13_bitCount_95d88_41 : decode cJ13_bitCount_95d88 41 = .ok (.lload_n 0, 1) := by decide +kernel
theorem dJ13_bitCount_95d88_42 : decode cJ13_bitCount_95d88 42 = .ok (.lload_n 0, 1) := by decide +kernel
theorem dJ13_bitCount_95d88_43 : decode cJ13_bitCount_95d88 43 = .ok (.bipush 16, 2) := by decide +kernel
theorem dJ13_bitCount_95d88_45 : decode cJ13_bitCount_95d88 45 = .ok (.lushr, 1) := by decide +kernel
theorem dJ13_bitCount_95d88_46 : decode cJ13_bitCount_95d88 46 = .ok (.ladd, 1) := by decide +kernel
theorem dJ13_bitCount_95d88_47 : decode cJ13_bitCount_95d88 47 = .ok (.lstore_n 0, 1) := by decide +kernel
theorem dJ13_bitCount_95d88_48 : decode cJ13_bitCount_95d88 48 = .ok (.lload_n 0, 1) := by decide +kernel
theorem dJ13_bitCount_95d88_49 : decode cJ13_bitCount_95d88 49 = .ok (.lload_n 0, 1) := by decide +kernel
theorem dJ13_bitCount_95d88_50 : decode cJ13_bitCount_95d88 50 = .ok (.bipush 32, 2) := by decide +kernel
theorem dJ13_bitCount_95d88_52 : decode cJ13_bitCount_95d88 52 = .ok (.lushr, 1) := by decide +kernel
theorem dJ13_bitCount_95d88_53 : decode cJ13_bitCount_95d88 53 = .ok (.ladd, 1) := by decide +kernel
theorem dJ13_bitCount_95d88_54 : decode cJ13_bitCount_95d88 54 = .ok (.lstore_n 0, 1) := by decide +kernel
theorem dJ13_bitCount_95d88_55 : decode cJ13_bitCount_95d88 55 = .ok (.lload_n 0, 1) := by decide +kernel
theorem dJ13_bitCount_95d88_56 : decode cJ13_bitCount_95d88 56 = .ok (.l2i, 1) := by decide +kernel
theorem dJ13_bitCount_95d88_57 : decode cJ13_bitCount_95d88 57 = .ok (.bipush 127, 2) := by decide +kernel
theorem dJ13_bitCount_95d88_59 : decode cJ13_bitCount_95d88 59 = .ok (.iand, 1) := by decide +kernel
theorem dJ13_bitCount_95d88_60 : decode cJ13_bitCount_95d88 60 = .ok (.ireturn, 1) := by decide +kernel
theorem dJ9_min_7cf53_0 : decode cJ9_min_7cf53 0 = .ok (.iload_n 0, 1) := by decide +kernel
theorem dJ9_min_7cf53_1 : decode cJ9_min_7cf53 1 = .ok (.iload_n 1, 1) := by decide +kernel
theorem dJ9_min_7cf53_2 : decode cJ9_min_7cf53 2 = .ok (.if_icmp .gt 7, 3) := by decide +kernel
theorem dJ9_min_7cf53_5 : decode cJ9_min_7cf53 5 = .ok (.iload_n 0, 1) := by decide +kernel
theorem dJ9_min_7cf53_6 : decode cJ9_min_7cf53 6 = .ok (.goto 4, 3) := by decide +kernel
theorem dJ9_min_7cf53_9 : decode cJ9_min_7cf53 9 = .ok (.iload_n 1, 1) := by decide +kernel
theorem dJ9_min_7cf53_10 : decode cJ9_min_7cf53 10 = .ok (.ireturn, 1) := by decide +kernel
theorem dJ7_fill_53178_0 : decode cJ7_fill_53178 0 = .ok (.iconst 0, 1) := by decide +kernel
theorem dJ7_fill_53178_1 : decode cJ7_fill_53178 1 = .ok (.istore_n 2, 1) := by decide +kernel
theorem dJ7_fill_53178_2 : decode cJ7_fill_53178 2 = .ok (.aload_n 0, 1) := by decide +kernel
theorem dJ7_fill_53178_3 : decode cJ7_fill_53178 3 = .ok (.arraylength, 1) := by decide +kernel
theorem dJ7_fill_53178_4 : decode cJ7_fill_53178 4 = .ok (.istore_n 3, 1) := by decide +kernel
theorem dJ7_fill_53178_5 : decode cJ7_fill_53178 5 = .ok (.iload_n 2, 1) := by decide +kernel
theorem dJ7_fill_53178_6 : decode cJ7_fill_53178 6 = .ok (.iload_n 3, 1) := by decide +kernel
theorem dJ7_fill_53178_7 : decode cJ7_fill_53178 7 = .ok (.if_icmp .ge 13, 3) := by decide +kernel
theorem dJ7_fill_53178_10 : decode cJ7_fill_53178 10 = .ok (.aload_n 0, 1) := by decide +kernel
theorem dJ7_fill_53178_11 : decode cJ7_fill_53178 11 = .ok (.iload_n 2, 1) := by decide +kernel
theorem dJ7_fill_53178_12 : decode cJ7_fill_53178 12 = .ok (.iload_n 1, 1) := by decide +kernel
theorem dJ7_fill_53178_13 : decode cJ7_fill_53178 13 = .ok (.iastore, 1) := by decide +kernel
theorem dJ7_fill_53178_14 : decode cJ7_fill_53178 14 = .ok (.iinc 2 1, 3) := by decide +kernel
theorem dJ7_fill_53178_17 : decode cJ7_fill_53178 17 = .ok (.goto (-12), 3) := by decide +kernel
theorem dJ7_fill_53178_20 : decode cJ7_fill_53178 20 = .ok (.return_, 1) := by decide +kernel
set_option maxRecDepth 20000 in
theorem ggL_law_X5_init : GoodIn wsL_law wsX5_init := goodIn_r _ [8, 9, 10, 11, 12, 13, 14, 15, 16, 17, 18, 19, 20, 21, 22, 23, 24, 25, 26, 27, 28, 29, 30, 31, 32, 33, 34, 35, 36, 37, 38, 39, 40, 41, 42, 43, 44, 45, 46, 47, 48, 49, 50, 51, 52, 53, 54, 55, 56, 57, 58, 59, 60, 61, 62, 63, 64, 65, 646, 647, 648, 649, 650, 651, 652, 653, 598, 599, 600, 601, 602, 603, 604, 605, 654, 655, 656, 657, 658, 659, 660, 661, 662, 663, 664, 665, 666, 667, 668, 669, 670, 671, 672, 673] (by decide +kernel) (by decide +kernel)
set_option maxRecDepth 20000 in
theorem gL_law_X5_init : GoodIn wsL_law (wsX5_init) := ggL_law_X5_init
set_option maxRecDepth 20000 in
theorem ggL_law_X6_init : GoodIn wsL_law wsX6_init := goodIn_r _ [68, 69, 10, 11, 34, 70, 71, 72, 73, 74, 75, 76, 77, 78, 79, 80, 81, 82, 83, 84, 85, 86, 87, 88, 89, 90, 91, 92, 93, 94, 95, 96, 97, 98, 606, 607, 608, 609, 610, 611, 612, 613, 614, 615, 616, 617, 618, 619, 620, 621, 622, 623, 624, 625, 626, 627, 628, 629, 630, 631, 632, 633, 634, 635, 636, 637, 638, 639, 640, 641, 642, 643, 644, 645] (by decide +kernel) (by decide +kernel)
set_option maxRecDepth 20000 in
theorem gL_law_X6_init : GoodIn wsL_law (wsX6_init) := ggL_law_X6_init
set_option maxRecDepth 20000 in
theorem ggL_law_X5_file : GoodIn wsL_law wsX5_file := goodIn_r _ [102, 15, 103, 104, 2, 105, 106, 14, 107, 108, 109, 35, 598, 599, 600, 601, 602, 603, 604, 605, 646, 647, 648, 649, 650, 651, 652, 653] (by decide +kernel) (by decide +kernel)
set_option maxRecDepth 20000 in
theorem gL_law_X5_file : GoodIn wsL_law (wsV RL 13 RX5 yX5_file wsX5_file) := goodIn_app (goodIn_of _ (by decide +kernel)) ggL_law_X5_file
set_option maxRecDepth 20000 in
theorem ggL_law_X6_file : GoodIn wsL_law wsX6_file := goodIn_r _ [113, 114, 70, 71, 115, 116, 5, 117, 606, 607, 608, 609, 610, 611, 612, 613, 614, 615, 616, 617, 618, 619, 620, 621, 622, 623, 624, 625, 626, 627, 628, 629, 630, 631, 632, 633, 634, 635, 636, 637, 638, 639, 640, 641, 642, 643, 644, 645] (by decide +kernel) (by decide +kernel)
set_option maxRecDepth 20000 in
theorem gL_law_X6_file : GoodIn wsL_law (wsV RL 17 RX6 yX6_file wsX6_file) := goodIn_app (goodIn_of _ (by decide +kernel)) ggL_law_X6_file
set_option maxRecDepth 20000 in
theorem ggL_law_X5_put : GoodIn wsL_law wsX5_put := goodIn_r _ [121, 15, 122, 123, 14, 124, 125, 40, 104, 2, 105, 126, 127, 128, 129, 41, 130, 131, 132, 133, 134, 109, 135, 136, 103, 137, 138, 139, 140, 141, 142, 143, 144, 145, 146, 147, 148, 149, 150, 151, 152, 153, 154, 155, 156, 37, 157, 158, 159, 160, 39, 598, 599, 600, 601, 602, 603, 604, 605, 646, 647, 648, 649, 650, 651, 652, 653] (by decide +kernel) (by decide +kernel)
set_option maxRecDepth 20000 in
theorem gL_law_X5_put : GoodIn wsL_law (wsV RL 18 RX5 yX5_put wsX5_put) := goodIn_app (goodIn_of _ (by decide +kernel)) ggL_law_X5_put
set_option maxRecDepth 20000 in
theorem ggL_law_X6_put : GoodIn wsL_law wsX6_put := goodIn_r _ [164, 72, 71, 74, 115, 116, 5, 117, 165, 166, 167, 168, 114, 169, 170, 171, 172, 73, 173, 606, 607, 608, 609, 610, 611, 612, 613, 614, 615, 616, 617, 618, 619, 620, 621, 622, 623, 624, 625, 626, 627, 628, 629, 630, 631, 632, 633, 634, 635, 636, 637, 638, 639, 640, 641, 642, 643, 644, 645] (by decide +kernel) (by decide +kernel)
set_option maxRecDepth 20000 in
theorem gL_law_X6_put : GoodIn wsL_law (wsV RL 22 RX6 yX6_put wsX6_put) := goodIn_app (goodIn_of _ (by decide +kernel)) ggL_law_X6_put
set_option maxRecDepth 20000 in
theorem ggL_law_X5_yank : GoodIn wsL_law wsX5_yank := goodIn_r _ [177, 15, 122, 178, 14, 179, 180, 130, 36, 40, 126, 127, 128, 129, 41, 131, 132, 133, 134, 109, 135, 2, 136, 103, 104, 105, 149, 150, 151, 152, 153, 154, 155, 156, 37, 157, 158, 159, 160, 39, 141, 142, 143, 144, 145, 146, 147, 148, 598, 599, 600, 601, 602, 603, 604, 605, 646, 647, 648, 649, 650, 651, 652, 653] (by decide +kernel) (by decide +kernel)
set_option maxRecDepth 20000 in
theorem gL_law_X5_yank : GoodIn wsL_law (wsV RL 23 RX5 yX5_yank wsX5_yank) := goodIn_app (goodIn_of _ (by decide +kernel)) ggL_law_X5_yank
set_option maxRecDepth 20000 in
theorem ggL_law_X6_yank : GoodIn wsL_law wsX6_yank := goodIn_r _ [184, 72, 71, 173, 74, 165, 166, 167, 5, 168, 114, 115, 116, 117, 169, 170, 171, 172, 73, 606, 607, 608, 609, 610, 611, 612, 613, 614, 615, 616, 617, 618, 619, 620, 621, 622, 623, 624, 625, 626, 627, 628, 629, 630, 631, 632, 633, 634, 635, 636, 637, 638, 639, 640, 641, 642, 643, 644, 645] (by decide +kernel) (by decide +kernel)
set_option maxRecDepth 20000 in
theorem gL_law_X6_yank : GoodIn wsL_law (wsV RL 26 RX6 yX6_yank wsX6_yank) := goodIn_app (goodIn_of _ (by decide +kernel)) ggL_law_X6_yank
set_option maxRecDepth 20000 in
theorem ggL_law_X5_mirror : GoodIn wsL_law wsX5_mirror := goodIn_r _ [188, 189, 21, 20, 190, 191, 103, 104, 2, 105, 192, 193, 194, 10, 11, 195, 196, 197, 34, 198, 199, 200, 43, 44, 45, 598, 599, 600, 601, 602, 603, 604, 605, 674, 675, 676, 677, 678, 679, 680, 681, 682, 683] (by decide +kernel) (by decide +kernel)
set_option maxRecDepth 20000 in
theorem gL_law_X5_mirror : GoodIn wsL_law (wsV RL 27 RX5 yX5_mirror wsX5_mirror) := goodIn_app (goodIn_of _ (by decide +kernel)) ggL_law_X5_mirror
set_option maxRecDepth 20000 in
theorem ggL_law_X6_mirror : GoodIn wsL_law wsX6_mirror := goodIn_r _ [204, 205, 75, 76, 77, 79, 115, 116, 5, 117, 606, 607, 608, 609, 610, 611, 612, 613, 614, 615, 616, 617, 618, 619, 620, 621, 622, 623, 624, 625, 626, 627, 628, 629, 630, 631, 632, 633, 634, 635, 636, 637, 638, 639, 640, 641, 642, 643, 644, 645] (by decide +kernel) (by decide +kernel)
set_option maxRecDepth 20000 in
theorem gL_law_X6_mirror : GoodIn wsL_law (wsV RL 31 RX6 yX6_mirror wsX6_mirror) := goodIn_app (goodIn_of _ (by decide +kernel)) ggL_law_X6_mirror
set_option maxRecDepth 20000 in
theorem ggL_law_X5_speed : GoodIn wsL_law wsX5_speed := goodIn_r _ [209, 210, 211, 212, 2, 213, 189, 21, 103, 104, 105, 674, 675, 676, 677, 678, 679, 680, 681, 682, 683, 598, 599, 600, 601, 602, 603, 604, 605] (by decide +kernel) (by decide +kernel)
set_option maxRecDepth 20000 in
theorem gL_law_X5_speed : GoodIn wsL_law (wsV RL 32 RX5 yX5_speed wsX5_speed) := goodIn_app (goodIn_of _ (by decide +kernel)) ggL_law_X5_speed
set_option maxRecDepth 20000 in
theorem ggL_law_X6_speed : GoodIn wsL_law wsX6_speed := goodIn_r _ [217, 76, 218, 219, 220, 5, 221, 205, 115, 116, 117, 606, 607, 608, 609, 610, 611, 612, 613, 614, 615, 616, 617, 618, 619, 620, 621, 622, 623, 624, 625, 626, 627, 628, 629, 630, 631, 632, 633, 634, 635, 636, 637, 638, 639, 640, 641, 642, 643, 644, 645] (by decide +kernel) (by decide +kernel)
set_option maxRecDepth 20000 in
theorem gL_law_X6_speed : GoodIn wsL_law (wsV RL 35 RX6 yX6_speed wsX6_speed) := goodIn_app (goodIn_of _ (by decide +kernel)) ggL_law_X6_speed
set_option maxRecDepth 20000 in
theorem ggL_law_X5_fall : GoodIn wsL_law wsX5_fall := goodIn_r _ [225, 122, 19, 210, 211, 212, 2, 213, 189, 21, 103, 104, 105, 226, 18, 227, 228, 229, 49, 50, 51, 598, 599, 600, 601, 602, 603, 604, 605, 654, 655, 656, 657] (by decide +kernel) (by decide +kernel)
set_option maxRecDepth 20000 in
theorem gL_law_X5_fall : GoodIn wsL_law (wsV RL 36 RX5 yX5_fall wsX5_fall) := goodIn_app (goodIn_of _ (by decide +kernel)) ggL_law_X5_fall
set_option maxRecDepth 20000 in
theorem ggL_law_X6_fall : GoodIn wsL_law wsX6_fall := goodIn_r _ [233, 234, 173, 87, 88, 89, 218, 219, 220, 5, 221, 205, 115, 116, 117, 606, 607, 608, 609, 610, 611, 612, 613, 614, 615, 616, 617, 618, 619, 620, 621, 622, 623, 624, 625, 626, 627, 628, 629, 630, 631, 632, 633, 634, 635, 636, 637, 638, 639, 640, 641, 642, 643, 644, 645] (by decide +kernel) (by decide +kernel)
set_option maxRecDepth 20000 in
theorem gL_law_X6_fall : GoodIn wsL_law (wsV RL 39 RX6 yX6_fall wsX6_fall) := goodIn_app (goodIn_of _ (by decide +kernel)) ggL_law_X6_fall
set_option maxRecDepth 20000 in
theorem ggL_law_X5_lies : GoodIn wsL_law wsX5_lies := goodIn_r _ [238, 210, 211, 212, 2, 213, 189, 21, 103, 104, 105, 674, 675, 676, 677, 678, 679, 680, 681, 682, 683, 598, 599, 600, 601, 602, 603, 604, 605] (by decide +kernel) (by decide +kernel)
set_option maxRecDepth 20000 in
theorem gL_law_X5_lies : GoodIn wsL_law (wsV RL 40 RX5 yX5_lies wsX5_lies) := goodIn_app (goodIn_of _ (by decide +kernel)) ggL_law_X5_lies
set_option maxRecDepth 20000 in
theorem ggL_law_X6_lies : GoodIn wsL_law wsX6_lies := goodIn_r _ [242, 83, 218, 219, 220, 5, 221, 205, 115, 116, 117, 606, 607, 608, 609, 610, 611, 612, 613, 614, 615, 616, 617, 618, 619, 620, 621, 622, 623, 624, 625, 626, 627, 628, 629, 630, 631, 632, 633, 634, 635, 636, 637, 638, 639, 640, 641, 642, 643, 644, 645] (by decide +kernel) (by decide +kernel)
set_option maxRecDepth 20000 in
theorem gL_law_X6_lies : GoodIn wsL_law (wsV RL 44 RX6 yX6_lies wsX6_lies) := goodIn_app (goodIn_of _ (by decide +kernel)) ggL_law_X6_lies
set_option maxRecDepth 20000 in
theorem ggL_law_X5_pass : GoodIn wsL_law wsX5_pass := goodIn_r _ [246, 122, 103, 104, 2, 105, 247, 248, 249, 250, 19, 189, 15, 251, 18, 252, 253, 229, 50, 51, 49, 210, 211, 212, 213, 21, 254, 255, 256, 138, 14, 139, 140, 41, 257, 258, 259, 109, 260, 191, 261, 262, 199, 263, 264, 265, 266, 267, 196, 268, 269, 270, 271, 272, 273, 274, 275, 276, 277, 39, 145, 146, 147, 148, 278, 279, 280, 281, 282, 283, 284, 285, 286, 135, 136, 287, 288, 289, 35, 131, 132, 133, 134, 290, 291, 292, 293, 294, 295, 296, 297, 298, 299, 300, 301, 302, 198, 303, 304, 305, 306, 197, 598, 599, 600, 601, 602, 603, 604, 605, 674, 675, 676, 677, 678, 679, 680, 681, 682, 683, 654, 655, 656, 657, 646, 647, 648, 649, 650, 651, 652, 653] (by decide +kernel) (by decide +kernel)
set_option maxRecDepth 20000 in
theorem gL_law_X5_pass : GoodIn wsL_law (wsV RL 45 RX5 yX5_pass wsX5_pass) := goodIn_app (goodIn_of _ (by decide +kernel)) ggL_law_X5_pass
set_option maxRecDepth 20000 in
theorem ggL_law_X6_pass : GoodIn wsL_law wsX6_pass := goodIn_r _ [310, 173, 205, 115, 116, 5, 117, 311, 312, 313, 314, 80, 75, 79, 72, 78, 315, 316, 317, 318, 234, 87, 88, 89, 319, 320, 321, 322, 76, 84, 70, 81, 323, 324, 325, 326, 114, 327, 328, 329, 330, 74, 331, 332, 333, 334, 85, 86, 77, 606, 607, 608, 609, 610, 611, 612, 613, 614, 615, 616, 617, 618, 619, 620, 621, 622, 623, 624, 625, 626, 627, 628, 629, 630, 631, 632, 633, 634, 635, 636, 637, 638, 639, 640, 641, 642, 643, 644, 645] (by decide +kernel) (by decide +kernel)
set_option maxRecDepth 20000 in
theorem gL_law_X6_pass : GoodIn wsL_law (wsV RL 48 RX6 yX6_pass wsX6_pass) := goodIn_app (goodIn_of _ (by decide +kernel)) ggL_law_X6_pass
set_option maxRecDepth 20000 in
theorem ggL_law_X5_cost : GoodIn wsL_law wsX5_cost := goodIn_r _ [338, 339, 340, 341, 2, 342, 23, 103, 104, 105, 210, 211, 212, 213, 189, 21, 343, 25, 344, 345, 55, 346, 347, 348, 598, 599, 600, 601, 602, 603, 604, 605, 658, 659, 660, 661, 662, 663] (by decide +kernel) (by decide +kernel)
set_option maxRecDepth 20000 in
theorem gL_law_X5_cost : GoodIn wsL_law (wsV RL 49 RX5 yX5_cost wsX5_cost) := goodIn_app (goodIn_of _ (by decide +kernel)) ggL_law_X5_cost
set_option maxRecDepth 20000 in
theorem ggL_law_X6_cost : GoodIn wsL_law wsX6_cost := goodIn_r _ [352, 91, 353, 354, 5, 355, 115, 116, 117, 218, 219, 220, 221, 205, 606, 607, 608, 609, 610, 611, 612, 613, 614, 615, 616, 617, 618, 619, 620, 621, 622, 623, 624, 625, 626, 627, 628, 629, 630, 631, 632, 633, 634, 635, 636, 637, 638, 639, 640, 641, 642, 643, 644, 645] (by decide +kernel) (by decide +kernel)
set_option maxRecDepth 20000 in
theorem gL_law_X6_cost : GoodIn wsL_law (wsV RL 52 RX6 yX6_cost wsX6_cost) := goodIn_app (goodIn_of _ (by decide +kernel)) ggL_law_X6_cost
set_option maxRecDepth 20000 in
theorem ggL_law_X5_bears : GoodIn wsL_law wsX5_bears := goodIn_r _ [359, 339, 340, 341, 2, 342, 23, 103, 104, 105, 658, 659, 660, 661, 662, 663, 598, 599, 600, 601, 602, 603, 604, 605] (by decide +kernel) (by decide +kernel)
set_option maxRecDepth 20000 in
theorem gL_law_X5_bears : GoodIn wsL_law (wsV RL 53 RX5 yX5_bears wsX5_bears) := goodIn_app (goodIn_of _ (by decide +kernel)) ggL_law_X5_bears
set_option maxRecDepth 20000 in
theorem ggL_law_X6_bears : GoodIn wsL_law wsX6_bears := goodIn_r _ [363, 92, 353, 354, 5, 355, 115, 116, 117, 606, 607, 608, 609, 610, 611, 612, 613, 614, 615, 616, 617, 618, 619, 620, 621, 622, 623, 624, 625, 626, 627, 628, 629, 630, 631, 632, 633, 634, 635, 636, 637, 638, 639, 640, 641, 642, 643, 644, 645] (by decide +kernel) (by decide +kernel)
set_option maxRecDepth 20000 in
theorem gL_law_X6_bears : GoodIn wsL_law (wsV RL 56 RX6 yX6_bears wsX6_bears) := goodIn_app (goodIn_of _ (by decide +kernel)) ggL_law_X6_bears
set_option maxRecDepth 20000 in
theorem ggL_law_X5_grace : GoodIn wsL_law wsX5_grace := goodIn_r _ [367, 30, 103, 104, 2, 105, 598, 599, 600, 601, 602, 603, 604, 605] (by decide +kernel) (by decide +kernel)
set_option maxRecDepth 20000 in
theorem gL_law_X5_grace : GoodIn wsL_law (wsV RL 57 RX5 yX5_grace wsX5_grace) := goodIn_app (goodIn_of _ (by decide +kernel)) ggL_law_X5_grace
set_option maxRecDepth 20000 in
theorem ggL_law_X6_grace : GoodIn wsL_law wsX6_grace := goodIn_r _ [371, 90, 115, 116, 5, 117, 606, 607, 608, 609, 610, 611, 612, 613, 614, 615, 616, 617, 618, 619, 620, 621, 622, 623, 624, 625, 626, 627, 628, 629, 630, 631, 632, 633, 634, 635, 636, 637, 638, 639, 640, 641, 642, 643, 644, 645] (by decide +kernel) (by decide +kernel)
set_option maxRecDepth 20000 in
theorem gL_law_X6_grace : GoodIn wsL_law (wsV RL 60 RX6 yX6_grace wsX6_grace) := goodIn_app (goodIn_of _ (by decide +kernel)) ggL_law_X6_grace
set_option maxRecDepth 20000 in
theorem ggL_law_X5_forgives : GoodIn wsL_law wsX5_forgives := goodIn_r _ [375, 339, 340, 341, 2, 342, 23, 103, 104, 105, 376, 377, 378, 379, 380, 381, 382, 658, 659, 660, 661, 662, 663, 598, 599, 600, 601, 602, 603, 604, 605] (by decide +kernel) (by decide +kernel)
set_option maxRecDepth 20000 in
theorem gL_law_X5_forgives : GoodIn wsL_law (wsV RL 61 RX5 yX5_forgives wsX5_forgives) := goodIn_app (goodIn_of _ (by decide +kernel)) ggL_law_X5_forgives
set_option maxRecDepth 20000 in
theorem ggL_law_X6_forgives : GoodIn wsL_law wsX6_forgives := goodIn_r _ [386, 94, 353, 354, 5, 355, 115, 116, 117, 606, 607, 608, 609, 610, 611, 612, 613, 614, 615, 616, 617, 618, 619, 620, 621, 622, 623, 624, 625, 626, 627, 628, 629, 630, 631, 632, 633, 634, 635, 636, 637, 638, 639, 640, 641, 642, 643, 644, 645] (by decide +kernel) (by decide +kernel)
set_option maxRecDepth 20000 in
theorem gL_law_X6_forgives : GoodIn wsL_law (wsV RL 64 RX6 yX6_forgives wsX6_forgives) := goodIn_app (goodIn_of _ (by decide +kernel)) ggL_law_X6_forgives
set_option maxRecDepth 20000 in
theorem ggL_law_X5_ask : GoodIn wsL_law wsX5_ask := goodIn_r _ [390, 19, 122, 29, 339, 340, 341, 2, 342, 23, 103, 104, 105, 251, 18, 252, 253, 229, 50, 51, 49, 391, 28, 392, 393, 394, 395, 396, 397, 398, 399, 400, 401, 25, 402, 403, 404, 55, 405, 406, 407, 408, 409, 255, 256, 410, 411, 412, 413, 56, 414, 415, 416, 417, 418, 419, 420, 421, 422, 423, 424, 210, 211, 212, 213, 189, 21, 343, 344, 345, 425, 426, 427, 254, 428, 429, 430, 431, 432, 433, 434, 15, 30, 435, 14, 436, 437, 37, 145, 146, 147, 148, 41, 438, 439, 440, 130, 109, 36, 441, 275, 276, 277, 39, 135, 136, 442, 443, 444, 445, 142, 143, 144, 40, 446, 447, 448, 449, 450, 451, 452, 453, 454, 191, 455, 456, 273, 457, 458, 459, 63, 64, 65, 460, 461, 462, 463, 464, 465, 466, 467, 468, 295, 296, 297, 469, 470, 471, 472, 473, 474, 141, 475, 476, 477, 478, 658, 659, 660, 661, 662, 663, 598, 599, 600, 601, 602, 603, 604, 605, 664, 665, 666, 667, 668, 669, 670, 671, 672, 673, 654, 655, 656, 657, 674, 675, 676, 677, 678, 679, 680, 681, 682, 683, 646, 647, 648, 649, 650, 651, 652, 653] (by decide +kernel) (by decide +kernel)
set_option maxRecDepth 20000 in
theorem gL_law_X5_ask : GoodIn wsL_law (wsV RL 65 RX5 yX5_ask wsX5_ask) := goodIn_app (goodIn_of _ (by decide +kernel)) ggL_law_X5_ask
set_option maxRecDepth 20000 in
theorem ggL_law_X6_ask : GoodIn wsL_law wsX6_ask := goodIn_r _ [482, 483, 484, 485, 486, 487, 488, 93, 489, 74, 96, 97, 98, 353, 354, 5, 355, 115, 116, 117, 490, 491, 492, 493, 494, 205, 91, 94, 95, 495, 496, 497, 498, 83, 78, 499, 500, 501, 502, 315, 316, 317, 318, 234, 87, 88, 173, 89, 503, 504, 505, 506, 92, 71, 90, 507, 508, 509, 510, 72, 73, 511, 512, 513, 514, 84, 515, 516, 517, 518, 606, 607, 608, 609, 610, 611, 612, 613, 614, 615, 616, 617, 618, 619, 620, 621, 622, 623, 624, 625, 626, 627, 628, 629, 630, 631, 632, 633, 634, 635, 636, 637, 638, 639, 640, 641, 642, 643, 644, 645] (by decide +kernel) (by decide +kernel)
set_option maxRecDepth 20000 in
theorem gL_law_X6_ask : GoodIn wsL_law (wsV RL 68 RX6 yX6_ask wsX6_ask) := goodIn_app (goodIn_of _ (by decide +kernel)) ggL_law_X6_ask
set_option maxRecDepth 20000 in
theorem ggL_law_X5_asked : GoodIn wsL_law wsX5_asked := goodIn_r _ [522, 29, 598, 599, 600, 601, 602, 603, 604, 605, 664, 665, 666, 667, 668, 669, 670, 671, 672, 673] (by decide +kernel) (by decide +kernel)
set_option maxRecDepth 20000 in
theorem gL_law_X5_asked : GoodIn wsL_law (wsV RL 69 RX5 yX5_asked wsX5_asked) := goodIn_app (goodIn_of _ (by decide +kernel)) ggL_law_X5_asked
set_option maxRecDepth 20000 in
theorem ggL_law_X6_asked : GoodIn wsL_law wsX6_asked := goodIn_r _ [526, 483, 489, 484, 485, 486, 487, 488, 606, 607, 608, 609, 610, 611, 612, 613, 614, 615, 616, 617, 618, 619, 620, 621, 622, 623, 624, 625, 626, 627, 628, 629, 630, 631, 632, 633, 634, 635, 636, 637, 638, 639, 640, 641, 642, 643, 644, 645] (by decide +kernel) (by decide +kernel)
set_option maxRecDepth 20000 in
theorem gL_law_X6_asked : GoodIn wsL_law (wsV RL 72 RX6 yX6_asked wsX6_asked) := goodIn_app (goodIn_of _ (by decide +kernel)) ggL_law_X6_asked
set_option maxRecDepth 20000 in
theorem ggL_law_X5_got : GoodIn wsL_law wsX5_got := goodIn_r _ [530, 29, 531, 28, 532, 533, 398, 63, 64, 65, 104, 2, 105, 598, 599, 600, 601, 602, 603, 604, 605, 664, 665, 666, 667, 668, 669, 670, 671, 672, 673] (by decide +kernel) (by decide +kernel)
set_option maxRecDepth 20000 in
theorem gL_law_X5_got : GoodIn wsL_law (wsV RL 73 RX5 yX5_got wsX5_got) := goodIn_app (goodIn_of _ (by decide +kernel)) ggL_law_X5_got
set_option maxRecDepth 20000 in
theorem ggL_law_X6_got : GoodIn wsL_law wsX6_got := goodIn_r _ [537, 483, 486, 96, 97, 98, 115, 116, 5, 117, 606, 607, 608, 609, 610, 611, 612, 613, 614, 615, 616, 617, 618, 619, 620, 621, 622, 623, 624, 625, 626, 627, 628, 629, 630, 631, 632, 633, 634, 635, 636, 637, 638, 639, 640, 641, 642, 643, 644, 645] (by decide +kernel) (by decide +kernel)
set_option maxRecDepth 20000 in
theorem gL_law_X6_got : GoodIn wsL_law (wsV RL 76 RX6 yX6_got wsX6_got) := goodIn_app (goodIn_of _ (by decide +kernel)) ggL_law_X6_got
set_option maxRecDepth 20000 in
theorem ggL_law_X5_asker : GoodIn wsL_law wsX5_asker := goodIn_r _ [541, 339, 340, 341, 2, 342, 23, 103, 104, 105, 658, 659, 660, 661, 662, 663, 598, 599, 600, 601, 602, 603, 604, 605] (by decide +kernel) (by decide +kernel)
set_option maxRecDepth 20000 in
theorem gL_law_X5_asker : GoodIn wsL_law (wsV RL 77 RX5 yX5_asker wsX5_asker) := goodIn_app (goodIn_of _ (by decide +kernel)) ggL_law_X5_asker
set_option maxRecDepth 20000 in
theorem ggL_law_X6_asker : GoodIn wsL_law wsX6_asker := goodIn_r _ [545, 93, 92, 94, 353, 354, 5, 355, 115, 116, 117, 606, 607, 608, 609, 610, 611, 612, 613, 614, 615, 616, 617, 618, 619, 620, 621, 622, 623, 624, 625, 626, 627, 628, 629, 630, 631, 632, 633, 634, 635, 636, 637, 638, 639, 640, 641, 642, 643, 644, 645] (by decide +kernel) (by decide +kernel)
set_option maxRecDepth 20000 in
theorem gL_law_X6_asker : GoodIn wsL_law (wsV RL 80 RX6 yX6_asker wsX6_asker) := goodIn_app (goodIn_of _ (by decide +kernel)) ggL_law_X6_asker
set_option maxRecDepth 20000 in
theorem ggL_law_X5_names : GoodIn wsL_law wsX5_names := goodIn_r _ [549, 15, 142, 14, 143, 144, 40, 145, 146, 147, 148, 41, 104, 2, 105, 598, 599, 600, 601, 602, 603, 604, 605, 646, 647, 648, 649, 650, 651, 652, 653] (by decide +kernel) (by decide +kernel)
set_option maxRecDepth 20000 in
theorem gL_law_X5_names : GoodIn wsL_law (wsV RL 81 RX5 yX5_names wsX5_names) := goodIn_app (goodIn_of _ (by decide +kernel)) ggL_law_X5_names
set_option maxRecDepth 20000 in
theorem ggL_law_X6_names : GoodIn wsL_law wsX6_names := goodIn_r _ [553, 72, 74, 115, 116, 5, 117, 606, 607, 608, 609, 610, 611, 612, 613, 614, 615, 616, 617, 618, 619, 620, 621, 622, 623, 624, 625, 626, 627, 628, 629, 630, 631, 632, 633, 634, 635, 636, 637, 638, 639, 640, 641, 642, 643, 644, 645] (by decide +kernel) (by decide +kernel)
set_option maxRecDepth 20000 in
theorem gL_law_X6_names : GoodIn wsL_law (wsV RL 84 RX6 yX6_names wsX6_names) := goodIn_app (goodIn_of _ (by decide +kernel)) ggL_law_X6_names
set_option maxRecDepth 20000 in
theorem ggL_law_X5_state : GoodIn wsL_law wsX5_state := goodIn_r _ [557, 15, 122, 146, 14, 147, 148, 41, 558, 559, 560, 37, 145, 435, 436, 437, 561, 562, 563, 141, 142, 143, 144, 40, 104, 2, 105, 275, 276, 277, 39, 564, 565, 566, 109, 35, 135, 136, 103, 598, 599, 600, 601, 602, 603, 604, 605, 646, 647, 648, 649, 650, 651, 652, 653] (by decide +kernel) (by decide +kernel)
set_option maxRecDepth 20000 in
theorem gL_law_X5_state : GoodIn wsL_law (wsV RL 85 RX5 yX5_state wsX5_state) := goodIn_app (goodIn_of _ (by decide +kernel)) ggL_law_X5_state
set_option maxRecDepth 20000 in
theorem ggL_law_X6_state : GoodIn wsL_law wsX6_state := goodIn_r _ [570, 72, 73, 74, 114, 70, 115, 116, 5, 117, 507, 508, 509, 510, 173, 327, 328, 329, 330, 606, 607, 608, 609, 610, 611, 612, 613, 614, 615, 616, 617, 618, 619, 620, 621, 622, 623, 624, 625, 626, 627, 628, 629, 630, 631, 632, 633, 634, 635, 636, 637, 638, 639, 640, 641, 642, 643, 644, 645] (by decide +kernel) (by decide +kernel)
set_option maxRecDepth 20000 in
theorem gL_law_X6_state : GoodIn wsL_law (wsV RL 88 RX6 yX6_state wsX6_state) := goodIn_app (goodIn_of _ (by decide +kernel)) ggL_law_X6_state
set_option maxRecDepth 20000 in
theorem ggL_law_X5_about : GoodIn wsL_law wsX5_about := goodIn_r _ [574, 15, 19, 122, 210, 211, 212, 2, 213, 189, 21, 103, 104, 105, 280, 281, 282, 283, 284, 285, 286, 564, 14, 565, 566, 109, 35, 135, 136, 251, 18, 252, 253, 229, 50, 51, 49, 254, 255, 256, 575, 191, 576, 577, 199, 268, 269, 270, 271, 272, 273, 274, 275, 276, 277, 39, 145, 146, 147, 148, 41, 674, 675, 676, 677, 678, 679, 680, 681, 682, 683, 598, 599, 600, 601, 602, 603, 604, 605, 646, 647, 648, 649, 650, 651, 652, 653, 654, 655, 656, 657] (by decide +kernel) (by decide +kernel)
set_option maxRecDepth 20000 in
theorem gL_law_X5_about : GoodIn wsL_law (wsV RL 89 RX5 yX5_about wsX5_about) := goodIn_app (goodIn_of _ (by decide +kernel)) ggL_law_X5_about
set_option maxRecDepth 20000 in
theorem ggL_law_X6_about : GoodIn wsL_law wsX6_about := goodIn_r _ [581, 80, 114, 84, 70, 79, 78, 81, 83, 218, 219, 220, 5, 221, 205, 115, 116, 117, 327, 328, 329, 330, 74, 315, 316, 317, 318, 234, 87, 88, 173, 89, 606, 607, 608, 609, 610, 611, 612, 613, 614, 615, 616, 617, 618, 619, 620, 621, 622, 623, 624, 625, 626, 627, 628, 629, 630, 631, 632, 633, 634, 635, 636, 637, 638, 639, 640, 641, 642, 643, 644, 645] (by decide +kernel) (by decide +kernel)
set_option maxRecDepth 20000 in
theorem gL_law_X6_about : GoodIn wsL_law (wsV RL 92 RX6 yX6_about wsX6_about) := goodIn_app (goodIn_of _ (by decide +kernel)) ggL_law_X6_about
set_option maxRecDepth 20000 in
theorem ggL_law_X5_has : GoodIn wsL_law wsX5_has := goodIn_r _ [585, 15, 210, 211, 212, 2, 213, 189, 21, 103, 104, 105, 132, 14, 133, 134, 109, 454, 191, 455, 456, 273, 135, 136, 598, 599, 600, 601, 602, 603, 604, 605, 646, 647, 648, 649, 650, 651, 652, 653, 674, 675, 676, 677, 678, 679, 680, 681, 682, 683] (by decide +kernel) (by decide +kernel)
set_option maxRecDepth 20000 in
theorem gL_law_X5_has : GoodIn wsL_law (wsV RL 93 RX5 yX5_has wsX5_has) := goodIn_app (goodIn_of _ (by decide +kernel)) ggL_law_X5_has
set_option maxRecDepth 20000 in
theorem ggL_law_X6_has : GoodIn wsL_law wsX6_has := goodIn_r _ [589, 84, 218, 219, 220, 5, 221, 205, 115, 116, 117, 165, 166, 167, 168, 114, 606, 607, 608, 609, 610, 611, 612, 613, 614, 615, 616, 617, 618, 619, 620, 621, 622, 623, 624, 625, 626, 627, 628, 629, 630, 631, 632, 633, 634, 635, 636, 637, 638, 639, 640, 641, 642, 643, 644, 645] (by decide +kernel) (by decide +kernel)
set_option maxRecDepth 20000 in
theorem gL_law_X6_has : GoodIn wsL_law (wsV RL 96 RX6 yX6_has wsX6_has) := goodIn_app (goodIn_of _ (by decide +kernel)) ggL_law_X6_has
set_option maxRecDepth 20000 in
theorem ggL_law_X5_count : GoodIn wsL_law wsX5_count := goodIn_r _ [593, 122, 15, 189, 19, 30, 280, 281, 282, 283, 284, 285, 286, 598, 599, 600, 601, 602, 603, 604, 605, 646, 647, 648, 649, 650, 651, 652, 653, 654, 655, 656, 657] (by decide +kernel) (by decide +kernel)
set_option maxRecDepth 20000 in
theorem gL_law_X5_count : GoodIn wsL_law (wsV RL 97 RX5 yX5_count wsX5_count) := goodIn_app (goodIn_of _ (by decide +kernel)) ggL_law_X5_count
set_option maxRecDepth 20000 in
theorem ggL_law_X6_count : GoodIn wsL_law wsX6_count := goodIn_r _ [597, 173, 114, 72, 205, 234, 90, 71, 606, 607, 608, 609, 610, 611, 612, 613, 614, 615, 616, 617, 618, 619, 620, 621, 622, 623, 624, 625, 626, 627, 628, 629, 630, 631, 632, 633, 634, 635, 636, 637, 638, 639, 640, 641, 642, 643, 644, 645] (by decide +kernel) (by decide +kernel)
set_option maxRecDepth 20000 in
theorem gL_law_X6_count : GoodIn wsL_law (wsV RL 100 RX6 yX6_count wsX6_count) := goodIn_app (goodIn_of _ (by decide +kernel)) ggL_law_X6_count
theorem dL_law_0 : decode cL_law 0 = .ok (.new 7, 3) := by decide +kernel
theorem dL_law_3 : decode cL_law 3 = .ok (.dup, 1) := by decide +kernel
theorem dL_law_4 : decode cL_law 4 = .ok (.invokespecial 9, 3) := by decide +kernel
theorem dL_law_7 : decode cL_law 7 = .ok (.astore_n 1, 1) := by decide +kernel
theorem dL_law_8 : decode cL_law 8 = .ok (.new 10, 3) := by decide +kernel
theorem dL_law_11 : decode cL_law 11 = .ok (.dup, 1) := by decide +kernel
theorem dL_law_12 : decode cL_law 12 = .ok (.invokespecial 12, 3) := by decide +kernel
theorem dL_law_15 : decode cL_law 15 = .ok (.astore_n 2, 1) := by decide +kernel
theorem dL_law_16 : decode cL_law 16 = .ok (.iconst 0, 1) := by decide +kernel
theorem dL_law_17 : decode cL_law 17 = .ok (.istore_n 3, 1) := by decide +kernel
theorem dL_law_18 : decode cL_law 18 = .ok (.iload_n 3, 1) := by decide +kernel
theorem dL_law_19 : decode cL_law 19 = .ok (.aload_n 0, 1) := by decide +kernel
theorem dL_law_20 : decode cL_law 20 = .ok (.arraylength, 1) := by decide +kernel
theorem dL_law_21 : decode cL_law 21 = .ok (.iconst 4, 1) := by decide +kernel
theorem dL_law_22 : decode cL_law 22 = .ok (.isub, 1) := by decide +kernel
theorem dL_law_23 : decode cL_law 23 = .ok (.if_icmp .gt 784, 3) := by decide +kernel
theorem dL_law_26 : decode cL_law 26 = .ok (.aload_n 0, 1) := by decide +kernel
theorem dL_law_27 : decode cL_law 27 = .ok (.iload_n 3, 1) := by decide +kernel
theorem dL_law_28 : decode cL_law 28 = .ok (.iaload, 1) := by decide +kernel
theorem dL_law_29 : decode cL_law 29 = .ok (.bipush 31, 2) := by decide +kernel
theorem dL_law_31 : decode cL_law 31 = .ok (.iand, 1) := by decide +kernel
theorem dL_law_32 : decode cL_law 32 = .ok (.tableswitch 769 0 20 #[100, 123, 156, 179, 222, 255, 298, 347, 370, 413, 446, 469, 492, 525, 548, 581, 614, 647, 680, 713, 746], 100) := by decide +kernel
theorem dL_law_132 : decode cL_law 132 = .ok (.aload_n 1, 1) := by decide +kernel
theorem dL_law_133 : decode cL_law 133 = .ok (.aload_n 0, 1) := by decide +kernel
theorem dL_law_134 : decode cL_law 134 = .ok (.iload_n 3, 1) := by decide +kernel
theorem dL_law_135 : decode cL_law 135 = .ok (.iconst 1, 1) := by decide +kernel
theorem dL_law_136 : decode cL_law 136 = .ok (.iadd, 1) := by decide +kernel
theorem dL_law_137 : decode cL_law 137 = .ok (.iaload, 1) := by decide +kernel
theorem dL_law_138 : decode cL_law 138 = .ok (.invokevirtual 13, 3) := by decide +kernel
theorem dL_law_141 : decode cL_law 141 = .ok (.aload_n 2, 1) := by decide +kernel
theorem dL_law_142 : decode cL_law 142 = .ok (.aload_n 0, 1) := by decide +kernel
theorem dL_law_143 : decode cL_law 143 = .ok (.iload_n 3, 1) := by decide +kernel
theorem dL_law_144 : decode cL_law 144 = .ok (.iconst 1, 1) := by decide +kernel
theorem dL_law_145 : decode cL_law 145 = .ok (.iadd, 1) := by decide +kernel
theorem dL_law_146 : decode cL_law 146 = .ok (.iaload, 1) := by decide +kernel
theorem dL_law_147 : decode cL_law 147 = .ok (.invokevirtual 17, 3) := by decide +kernel
theorem dL_law_150 : decode cL_law 150 = .ok (.if_icmp .eq 651, 3) := by decide +kernel
theorem dL_law_153 : decode cL_law 153 = .ok (.iconst 0, 1) := by decide +kernel
theorem dL_law_154 : decode cL_law 154 = .ok (.ireturn, 1) := by decide +kernel
theorem dL_law_155 : decode cL_law 155 = .ok (.aload_n 1, 1) := by decide +kernel
theorem dL_law_156 : decode cL_law 156 = .ok (.aload_n 0, 1) := by decide +kernel
theorem dL_law_157 : decode cL_law 157 = .ok (.iload_n 3, 1) := by decide +kernel
theorem dL_law_158 : decode cL_law 158 = .ok (.iconst 1, 1) := by decide +kernel
theorem dL_law_159 : decode cL_law 159 = .ok (.iadd, 1) := by decide +kernel
theorem dL_law_160 : decode cL_law 160 = .ok (.iaload, 1) := by decide +kernel
theorem dL_law_161 : decode cL_law 161 = .ok (.aload_n 0, 1) := by decide +kernel
theorem dL_law_162 : decode cL_law 162 = .ok (.iload_n 3, 1) := by decide +kernel
theorem dL_law_163 : decode cL_law 163 = .ok (.iconst 2, 1) := by decide +kernel
theorem dL_law_164 : decode cL_law 164 = .ok (.iadd, 1) := by decide +kernel
theorem dL_law_165 : decode cL_law 165 = .ok (.iaload, 1) := by decide +kernel
theorem dL_law_166 : decode cL_law 166 = .ok (.invokevirtual 18, 3) := by decide +kernel
theorem dL_law_169 : decode cL_law 169 = .ok (.aload_n 2, 1) := by decide +kernel
theorem dL_law_170 : decode cL_law 170 = .ok (.aload_n 0, 1) := by decide +kernel
theorem dL_law_171 : decode cL_law 171 = .ok (.iload_n 3, 1) := by decide +kernel
theorem dL_law_172 : decode cL_law 172 = .ok (.iconst 1, 1) := by decide +kernel
theorem dL_law_173 : decode cL_law 173 = .ok (.iadd, 1) := by decide +kernel
theorem dL_law_174 : decode cL_law 174 = .ok (.iaload, 1) := by decide +kernel
theorem dL_law_175 : decode cL_law 175 = .ok (.aload_n 0, 1) := by decide +kernel
theorem dL_law_176 : decode cL_law 176 = .ok (.iload_n 3, 1) := by decide +kernel
theorem dL_law_177 : decode cL_law 177 = .ok (.iconst 2, 1) := by decide +kernel
theorem dL_law_178 : decode cL_law 178 = .ok (.iadd, 1) := by decide +kernel
theorem dL_law_179 : decode cL_law 179 = .ok (.iaload, 1) := by decide +kernel
theorem dL_law_180 : decode cL_law 180 = .ok (.invokevirtual 22, 3) := by decide +kernel
theorem dL_law_183 : decode cL_law 183 = .ok (.if_icmp .eq 618, 3) := by decide +kernel
theorem dL_law_186 : decode cL_law 186 = .ok (.iconst 0, 1) := by decide +kernel
theorem dL_law_187 : decode cL_law 187 = .ok (.ireturn, 1) := by decide +kernel
theorem dL_law_188 : decode cL_law 188 = .ok (.aload_n 1, 1) := by decide +kernel
theorem dL_law_189 : decode cL_law 189 = .ok (.aload_n 0, 1) := by decide +kernel
theorem dL_law_190 : decode cL_law 190 = .ok (.iload_n 3, 1) := by decide +kernel
theorem dL_law_191 : decode cL_law 191 = .ok (.iconst 1, 1) := by decide +kernel
theorem dL_law_192 : decode cL_law 192 = .ok (.iadd, 1) := by decide +kernel
theorem dL_law_193 : decode cL_law 193 = .ok (.iaload, 1) := by decide +kernel
theorem dL_law_194 : decode cL_law 194 = .ok (.invokevirtual 23, 3) := by decide +kernel
theorem dL_law_197 : decode cL_law 197 = .ok (.aload_n 2, 1) := by decide +kernel
theorem dL_law_198 : decode cL_law 198 = .ok (.aload_n 0, 1) := by decide +kernel
theorem dL_law_199 : decode cL_law 199 = .ok (.iload_n 3, 1) := by decide +kernel
theorem dL_law_200 : decode cL_law 200 = .ok (.iconst 1, 1) := by decide +kernel
theorem dL_law_201 : decode cL_law 201 = .ok (.iadd, 1) := by decide +kernel
theorem dL_law_202 : decode cL_law 202 = .ok (.iaload, 1) := by decide +kernel
theorem dL_law_203 : decode cL_law 203 = .ok (.invokevirtual 26, 3) := by decide +kernel
theorem dL_law_206 : decode cL_law 206 = .ok (.if_icmp .eq 595, 3) := by decide +kernel
theorem dL_law_209 : decode cL_law 209 = .ok (.iconst 0, 1) := by decide +kernel
theorem dL_law_210 : decode cL_law 210 = .ok (.ireturn, 1) := by decide +kernel
theorem dL_law_211 : decode cL_law 211 = .ok (.aload_n 1, 1) := by decide +kernel
theorem dL_law_212 : decode cL_law 212 = .ok (.aload_n 0, 1) := by decide +kernel
theorem dL_law_213 : decode cL_law 213 = .ok (.iload_n 3, 1) := by decide +kernel
theorem dL_law_214 : decode cL_law 214 = .ok (.iconst 1, 1) := by decide +kernel
theorem dL_law_215 : decode cL_law 215 = .ok (.iadd, 1) := by decide +kernel
theorem dL_law_216 : decode cL_law 216 = .ok (.iaload, 1) := by decide +kernel
theorem dL_law_217 : decode cL_law 217 = .ok (.aload_n 0, 1) := by decide +kernel
theorem dL_law_218 : decode cL_law 218 = .ok (.iload_n 3, 1) := by decide +kernel
theorem dL_law_219 : decode cL_law 219 = .ok (.iconst 2, 1) := by decide +kernel
theorem dL_law_220 : decode cL_law 220 = .ok (.iadd, 1) := by decide +kernel
theorem dL_law_221 : decode cL_law 221 = .ok (.iaload, 1) := by decide +kernel
theorem dL_law_222 : decode cL_law 222 = .ok (.aload_n 0, 1) := by decide +kernel
theorem dL_law_223 : decode cL_law 223 = .ok (.iload_n 3, 1) := by decide +kernel
theorem dL_law_224 : decode cL_law 224 = .ok (.iconst 3, 1) := by decide +kernel
theorem dL_law_225 : decode cL_law 225 = .ok (.iadd, 1) := by decide +kernel
theorem dL_law_226 : decode cL_law 226 = .ok (.iaload, 1) := by decide +kernel
theorem dL_law_227 : decode cL_law 227 = .ok (.invokevirtual 27, 3) := by decide +kernel
theorem dL_law_230 : decode cL_law 230 = .ok (.aload_n 2, 1) := by decide +kernel
theorem dL_law_231 : decode cL_law 231 = .ok (.aload_n 0, 1) := by decide +kernel
theorem dL_law_232 : decode cL_law 232 = .ok (.iload_n 3, 1) := by decide +kernel
theorem dL_law_233 : decode cL_law 233 = .ok (.iconst 1, 1) := by decide +kernel
theorem dL_law_234 : decode cL_law 234 = .ok (.iadd, 1) := by decide +kernel
theorem dL_law_235 : decode cL_law 235 = .ok (.iaload, 1) := by decide +kernel
theorem dL_law_236 : decode cL_law 236 = .ok (.aload_n 0, 1) := by decide +kernel
theorem dL_law_237 : decode cL_law 237 = .ok (.iload_n 3, 1) := by decide +kernel
theorem dL_law_238 : decode cL_law 238 = .ok (.iconst 2, 1) := by decide +kernel
theorem dL_law_239 : decode cL_law 239 = .ok (.iadd, 1) := by decide +kernel
theorem dL_law_240 : decode cL_law 240 = .ok (.iaload, 1) := by decide +kernel
theorem dL_law_241 : decode cL_law 241 = .ok (.aload_n 0, 1) := by decide +kernel
theorem dL_law_242 : decode cL_law 242 = .ok (.iload_n 3, 1) := by decide +kernel
theorem dL_law_243 : decode cL_law 243 = .ok (.iconst 3, 1) := by decide +kernel
theorem dL_law_244 : decode cL_law 244 = .ok (.iadd, 1) := by decide +kernel
theorem dL_law_245 : decode cL_law 245 = .ok (.iaload, 1) := by decide +kernel
theorem dL_law_246 : decode cL_law 246 = .ok (.invokevirtual 31, 3) := by decide +kernel
theorem dL_law_249 : decode cL_law 249 = .ok (.if_icmp .eq 552, 3) := by decide +kernel
theorem dL_law_252 : decode cL_law 252 = .ok (.iconst 0, 1) := by decide +kernel
theorem dL_law_253 : decode cL_law 253 = .ok (.ireturn, 1) := by decide +kernel
theorem dL_law_254 : decode cL_law 254 = .ok (.aload_n 1, 1) := by decide +kernel
theorem dL_law_255 : decode cL_law 255 = .ok (.aload_n 0, 1) := by decide +kernel
theorem dL_law_256 : decode cL_law 256 = .ok (.iload_n 3, 1) := by decide +kernel
theorem dL_law_257 : decode cL_law 257 = .ok (.iconst 1, 1) := by decide +kernel
theorem dL_law_258 : decode cL_law 258 = .ok (.iadd, 1) := by decide +kernel
theorem dL_law_259 : decode cL_law 259 = .ok (.iaload, 1) := by decide +kernel
theorem dL_law_260 : decode cL_law 260 = .ok (.aload_n 0, 1) := by decide +kernel
theorem dL_law_261 : decode cL_law 261 = .ok (.iload_n 3, 1) := by decide +kernel
theorem dL_law_262 : decode cL_law 262 = .ok (.iconst 2, 1) := by decide +kernel
theorem dL_law_263 : decode cL_law 263 = .ok (.iadd, 1) := by decide +kernel
theorem dL_law_264 : decode cL_law 264 = .ok (.iaload, 1) := by decide +kernel
theorem dL_law_265 : decode cL_law 265 = .ok (.invokevirtual 32, 3) := by decide +kernel
theorem dL_law_268 : decode cL_law 268 = .ok (.aload_n 2, 1) := by decide +kernel
theorem dL_law_269 : decode cL_law 269 = .ok (.aload_n 0, 1) := by decide +kernel
theorem dL_law_270 : decode cL_law 270 = .ok (.iload_n 3, 1) := by decide +kernel
theorem dL_law_271 : decode cL_law 271 = .ok (.iconst 1, 1) := by decide +kernel
theorem dL_law_272 : decode cL_law 272 = .ok (.iadd, 1) := by decide +kernel
theorem dL_law_273 : decode cL_law 273 = .ok (.iaload, 1) := by decide +kernel
theorem dL_law_274 : decode cL_law 274 = .ok (.aload_n 0, 1) := by decide +kernel
theorem dL_law_275 : decode cL_law 275 = .ok (.iload_n 3, 1) := by decide +kernel
theorem dL_law_276 : decode cL_law 276 = .ok (.iconst 2, 1) := by decide +kernel
theorem dL_law_277 : decode cL_law 277 = .ok (.iadd, 1) := by decide +kernel
theorem dL_law_278 : decode cL_law 278 = .ok (.iaload, 1) := by decide +kernel
theorem dL_law_279 : decode cL_law 279 = .ok (.invokevirtual 35, 3) := by decide +kernel
theorem dL_law_282 : decode cL_law 282 = .ok (.if_icmp .eq 519, 3) := by decide +kernel
theorem dL_law_285 : decode cL_law 285 = .ok (.iconst 0, 1) := by decide +kernel
theorem dL_law_286 : decode cL_law 286 = .ok (.ireturn, 1) := by decide +kernel
theorem dL_law_287 : decode cL_law 287 = .ok (.aload_n 1, 1) := by decide +kernel
theorem dL_law_288 : decode cL_law 288 = .ok (.aload_n 0, 1) := by decide +kernel
theorem dL_law_289 : decode cL_law 289 = .ok (.iload_n 3, 1) := by decide +kernel
theorem dL_law_290 : decode cL_law 290 = .ok (.iconst 1, 1) := by decide +kernel
theorem dL_law_291 : decode cL_law 291 = .ok (.iadd, 1) := by decide +kernel
theorem dL_law_292 : decode cL_law 292 = .ok (.iaload, 1) := by decide +kernel
theorem dL_law_293 : decode cL_law 293 = .ok (.aload_n 0, 1) := by decide +kernel
theorem dL_law_294 : decode cL_law 294 = .ok (.iload_n 3, 1) := by decide +kernel
theorem dL_law_295 : decode cL_law 295 = .ok (.iconst 2, 1) := by decide +kernel
theorem dL_law_296 : decode cL_law 296 = .ok (.iadd, 1) := by decide +kernel
theorem dL_law_297 : decode cL_law 297 = .ok (.iaload, 1) := by decide +kernel
theorem dL_law_298 : decode cL_law 298 = .ok (.aload_n 0, 1) := by decide +kernel
theorem dL_law_299 : decode cL_law 299 = .ok (.iload_n 3, 1) := by decide +kernel
theorem dL_law_300 : decode cL_law 300 = .ok (.iconst 3, 1) := by decide +kernel
theorem dL_law_301 : decode cL_law 301 = .ok (.iadd, 1) := by decide +kernel
theorem dL_law_302 : decode cL_law 302 = .ok (.iaload, 1) := by decide +kernel
theorem dL_law_303 : decode cL_law 303 = .ok (.invokevirtual 36, 3) := by decide +kernel
theorem dL_law_306 : decode cL_law 306 = .ok (.aload_n 2, 1) := by decide +kernel
theorem dL_law_307 : decode cL_law 307 = .ok (.aload_n 0, 1) := by decide +kernel
theorem dL_law_308 : decode cL_law 308 = .ok (.iload_n 3, 1) := by decide +kernel
theorem dL_law_309 : decode cL_law 309 = .ok (.iconst 1, 1) := by decide +kernel
theorem dL_law_310 : decode cL_law 310 = .ok (.iadd, 1) := by decide +kernel
theorem dL_law_311 : decode cL_law 311 = .ok (.iaload, 1) := by decide +kernel
theorem dL_law_312 : decode cL_law 312 = .ok (.aload_n 0, 1) := by decide +kernel
theorem dL_law_313 : decode cL_law 313 = .ok (.iload_n 3, 1) := by decide +kernel
theorem dL_law_314 : decode cL_law 314 = .ok (.iconst 2, 1) := by decide +kernel
theorem dL_law_315 : decode cL_law 315 = .ok (.iadd, 1) := by decide +kernel
theorem dL_law_316 : decode cL_law 316 = .ok (.iaload, 1) := by decide +kernel
theorem dL_law_317 : decode cL_law 317 = .ok (.aload_n 0, 1) := by decide +kernel
theorem dL_law_318 : decode cL_law 318 = .ok (.iload_n 3, 1) := by decide +kernel
theorem dL_law_319 : decode cL_law 319 = .ok (.iconst 3, 1) := by decide +kernel
theorem dL_law_320 : decode cL_law 320 = .ok (.iadd, 1) := by decide +kernel
theorem dL_law_321 : decode cL_law 321 = .ok (.iaload, 1) := by decide +kernel
theorem dL_law_322 : decode cL_law 322 = .ok (.invokevirtual 39, 3) := by decide +kernel
theorem dL_law_325 : decode cL_law 325 = .ok (.if_icmp .eq 476, 3) := by decide +kernel
theorem dL_law_328 : decode cL_law 328 = .ok (.iconst 0, 1) := by decide +kernel
theorem dL_law_329 : decode cL_law 329 = .ok (.ireturn, 1) := by decide +kernel
theorem dL_law_330 : decode cL_law 330 = .ok (.aload_n 1, 1) := by decide +kernel
theorem dL_law_331 : decode cL_law 331 = .ok (.aload_n 0, 1) := by decide +kernel
theorem dL_law_332 : decode cL_law 332 = .ok (.iload_n 3, 1) := by decide +kernel
theorem dL_law_333 : decode cL_law 333 = .ok (.iconst 1, 1) := by decide +kernel
theorem dL_law_334 : decode cL_law 334 = .ok (.iadd, 1) := by decide +kernel
theorem dL_law_335 : decode cL_law 335 = .ok (.iaload, 1) := by decide +kernel
theorem dL_law_336 : decode cL_law 336 = .ok (.aload_n 0, 1) := by decide +kernel
theorem dL_law_337 : decode cL_law 337 = .ok (.iload_n 3, 1) := by decide +kernel
theorem dL_law_338 : decode cL_law 338 = .ok (.iconst 2, 1) := by decide +kernel
theorem dL_law_339 : decode cL_law 339 = .ok (.iadd, 1) := by decide +kernel
theorem dL_law_340 : decode cL_law 340 = .ok (.iaload, 1) := by decide +kernel
theorem dL_law_341 : decode cL_law 341 = .ok (.ifCond .eq 7, 3) := by decide +kernel
theorem dL_law_344 : decode cL_law 344 = .ok (.iconst 1, 1) := by decide +kernel
theorem dL_law_345 : decode cL_law 345 = .ok (.goto 4, 3) := by decide +kernel
theorem dL_law_348 : decode cL_law 348 = .ok (.iconst 0, 1) := by decide +kernel
theorem dL_law_349 : decode cL_law 349 = .ok (.invokevirtual 40, 3) := by decide +kernel
theorem dL_law_352 : decode cL_law 352 = .ok (.aload_n 2, 1) := by decide +kernel
theorem dL_law_353 : decode cL_law 353 = .ok (.aload_n 0, 1) := by decide +kernel
theorem dL_law_354 : decode cL_law 354 = .ok (.iload_n 3, 1) := by decide +kernel
theorem dL_law_355 : decode cL_law 355 = .ok (.iconst 1, 1) := by decide +kernel
theorem dL_law_356 : decode cL_law 356 = .ok (.iadd, 1) := by decide +kernel
theorem dL_law_357 : decode cL_law 357 = .ok (.iaload, 1) := by decide +kernel
theorem dL_law_358 : decode cL_law 358 = .ok (.aload_n 0, 1) := by decide +kernel
theorem dL_law_359 : decode cL_law 359 = .ok (.iload_n 3, 1) := by decide +kernel
theorem dL_law_360 : decode cL_law 360 = .ok (.iconst 2, 1) := by decide +kernel
theorem dL_law_361 : decode cL_law 361 = .ok (.iadd, 1) := by decide +kernel
theorem dL_law_362 : decode cL_law 362 = .ok (.iaload, 1) := by decide +kernel
theorem dL_law_363 : decode cL_law 363 = .ok (.ifCond .eq 7, 3) := by decide +kernel
theorem dL_law_366 : decode cL_law 366 = .ok (.iconst 1, 1) := by decide +kernel
theorem dL_law_367 : decode cL_law 367 = .ok (.goto 4, 3) := by decide +kernel
theorem dL_law_370 : decode cL_law 370 = .ok (.iconst 0, 1) := by decide +kernel
theorem dL_law_371 : decode cL_law 371 = .ok (.invokevirtual 44, 3) := by decide +kernel
theorem dL_law_374 : decode cL_law 374 = .ok (.if_icmp .eq 427, 3) := by decide +kernel
theorem dL_law_377 : decode cL_law 377 = .ok (.iconst 0, 1) := by decide +kernel
theorem dL_law_378 : decode cL_law 378 = .ok (.ireturn, 1) := by decide +kernel
theorem dL_law_379 : decode cL_law 379 = .ok (.aload_n 1, 1) := by decide +kernel
theorem dL_law_380 : decode cL_law 380 = .ok (.aload_n 0, 1) := by decide +kernel
theorem dL_law_381 : decode cL_law 381 = .ok (.iload_n 3, 1) := by decide +kernel
theorem dL_law_382 : decode cL_law 382 = .ok (.iconst 1, 1) := by decide +kernel
theorem dL_law_383 : decode cL_law 383 = .ok (.iadd, 1) := by decide +kernel
theorem dL_law_384 : decode cL_law 384 = .ok (.iaload, 1) := by decide +kernel
theorem dL_law_385 : decode cL_law 385 = .ok (.invokevirtual 45, 3) := by decide +kernel
theorem dL_law_388 : decode cL_law 388 = .ok (.aload_n 2, 1) := by decide +kernel
theorem dL_law_389 : decode cL_law 389 = .ok (.aload_n 0, 1) := by decide +kernel
theorem dL_law_390 : decode cL_law 390 = .ok (.iload_n 3, 1) := by decide +kernel
theorem dL_law_391 : decode cL_law 391 = .ok (.iconst 1, 1) := by decide +kernel
theorem dL_law_392 : decode cL_law 392 = .ok (.iadd, 1) := by decide +kernel
theorem dL_law_393 : decode cL_law 393 = .ok (.iaload, 1) := by decide +kernel
theorem dL_law_394 : decode cL_law 394 = .ok (.invokevirtual 48, 3) := by decide +kernel
theorem dL_law_397 : decode cL_law 397 = .ok (.if_icmp .eq 404, 3) := by decide +kernel
theorem dL_law_400 : decode cL_law 400 = .ok (.iconst 0, 1) := by decide +kernel
theorem dL_law_401 : decode cL_law 401 = .ok (.ireturn, 1) := by decide +kernel
theorem dL_law_402 : decode cL_law 402 = .ok (.aload_n 1, 1) := by decide +kernel
theorem dL_law_403 : decode cL_law 403 = .ok (.aload_n 0, 1) := by decide +kernel
theorem dL_law_404 : decode cL_law 404 = .ok (.iload_n 3, 1) := by decide +kernel
theorem dL_law_405 : decode cL_law 405 = .ok (.iconst 1, 1) := by decide +kernel
theorem dL_law_406 : decode cL_law 406 = .ok (.iadd, 1) := by decide +kernel
theorem dL_law_407 : decode cL_law 407 = .ok (.iaload, 1) := by decide +kernel
theorem dL_law_408 : decode cL_law 408 = .ok (.aload_n 0, 1) := by decide +kernel
theorem dL_law_409 : decode cL_law 409 = .ok (.iload_n 3, 1) := by decide +kernel
theorem dL_law_410 : decode cL_law 410 = .ok (.iconst 2, 1) := by decide +kernel
theorem dL_law_411 : decode cL_law 411 = .ok (.iadd, 1) := by decide +kernel
theorem dL_law_412 : decode cL_law 412 = .ok (.iaload, 1) := by decide +kernel
theorem dL_law_413 : decode cL_law 413 = .ok (.aload_n 0, 1) := by decide +kernel
theorem dL_law_414 : decode cL_law 414 = .ok (.iload_n 3, 1) := by decide +kernel
theorem dL_law_415 : decode cL_law 415 = .ok (.iconst 3, 1) := by decide +kernel
theorem dL_law_416 : decode cL_law 416 = .ok (.iadd, 1) := by decide +kernel
theorem dL_law_417 : decode cL_law 417 = .ok (.iaload, 1) := by decide +kernel
theorem dL_law_418 : decode cL_law 418 = .ok (.invokevirtual 49, 3) := by decide +kernel
theorem dL_law_421 : decode cL_law 421 = .ok (.aload_n 2, 1) := by decide +kernel
theorem dL_law_422 : decode cL_law 422 = .ok (.aload_n 0, 1) := by decide +kernel
theorem dL_law_423 : decode cL_law 423 = .ok (.iload_n 3, 1) := by decide +kernel
theorem dL_law_424 : decode cL_law 424 = .ok (.iconst 1, 1) := by decide +kernel
theorem dL_law_425 : decode cL_law 425 = .ok (.iadd, 1) := by decide +kernel
theorem dL_law_426 : decode cL_law 426 = .ok (.iaload, 1) := by decide +kernel
theorem dL_law_427 : decode cL_law 427 = .ok (.aload_n 0, 1) := by decide +kernel
theorem dL_law_428 : decode cL_law 428 = .ok (.iload_n 3, 1) := by decide +kernel
theorem dL_law_429 : decode cL_law 429 = .ok (.iconst 2, 1) := by decide +kernel
theorem dL_law_430 : decode cL_law 430 = .ok (.iadd, 1) := by decide +kernel
theorem dL_law_431 : decode cL_law 431 = .ok (.iaload, 1) := by decide +kernel
theorem dL_law_432 : decode cL_law 432 = .ok (.aload_n 0, 1) := by decide +kernel
theorem dL_law_433 : decode cL_law 433 = .ok (.iload_n 3, 1) := by decide +kernel
theorem dL_law_434 : decode cL_law 434 = .ok (.iconst 3, 1) := by decide +kernel
theorem dL_law_435 : decode cL_law 435 = .ok (.iadd, 1) := by decide +kernel
theorem dL_law_436 : decode cL_law 436 = .ok (.iaload, 1) := by decide +kernel
theorem dL_law_437 : decode cL_law 437 = .ok (.invokevirtual 52, 3) := by decide +kernel
theorem dL_law_440 : decode cL_law 440 = .ok (.if_icmp .eq 361, 3) := by decide +kernel
theorem dL_law_443 : decode cL_law 443 = .ok (.iconst 0, 1) := by decide +kernel
theorem dL_law_444 : decode cL_law 444 = .ok (.ireturn, 1) := by decide +kernel
theorem dL_law_445 : decode cL_law 445 = .ok (.aload_n 1, 1) := by decide +kernel
theorem dL_law_446 : decode cL_law 446 = .ok (.aload_n 0, 1) := by decide +kernel
theorem dL_law_447 : decode cL_law 447 = .ok (.iload_n 3, 1) := by decide +kernel
theorem dL_law_448 : decode cL_law 448 = .ok (.iconst 1, 1) := by decide +kernel
theorem dL_law_449 : decode cL_law 449 = .ok (.iadd, 1) := by decide +kernel
theorem dL_law_450 : decode cL_law 450 = .ok (.iaload, 1) := by decide +kernel
theorem dL_law_451 : decode cL_law 451 = .ok (.aload_n 0, 1) := by decide +kernel
theorem dL_law_452 : decode cL_law 452 = .ok (.iload_n 3, 1) := by decide +kernel
theorem dL_law_453 : decode cL_law 453 = .ok (.iconst 2, 1) := by decide +kernel
theorem dL_law_454 : decode cL_law 454 = .ok (.iadd, 1) := by decide +kernel
theorem dL_law_455 : decode cL_law 455 = .ok (.iaload, 1) := by decide +kernel
theorem dL_law_456 : decode cL_law 456 = .ok (.invokevirtual 53, 3) := by decide +kernel
theorem dL_law_459 : decode cL_law 459 = .ok (.aload_n 2, 1) := by decide +kernel
theorem dL_law_460 : decode cL_law 460 = .ok (.aload_n 0, 1) := by decide +kernel
theorem dL_law_461 : decode cL_law 461 = .ok (.iload_n 3, 1) := by decide +kernel
theorem dL_law_462 : decode cL_law 462 = .ok (.iconst 1, 1) := by decide +kernel
theorem dL_law_463 : decode cL_law 463 = .ok (.iadd, 1) := by decide +kernel
theorem dL_law_464 : decode cL_law 464 = .ok (.iaload, 1) := by decide +kernel
theorem dL_law_465 : decode cL_law 465 = .ok (.aload_n 0, 1) := by decide +kernel
theorem dL_law_466 : decode cL_law 466 = .ok (.iload_n 3, 1) := by decide +kernel
theorem dL_law_467 : decode cL_law 467 = .ok (.iconst 2, 1) := by decide +kernel
theorem dL_law_468 : decode cL_law 468 = .ok (.iadd, 1) := by decide +kernel
theorem dL_law_469 : decode cL_law 469 = .ok (.iaload, 1) := by decide +kernel
theorem dL_law_470 : decode cL_law 470 = .ok (.invokevirtual 56, 3) := by decide +kernel
theorem dL_law_473 : decode cL_law 473 = .ok (.if_icmp .eq 328, 3) := by decide +kernel
theorem dL_law_476 : decode cL_law 476 = .ok (.iconst 0, 1) := by decide +kernel
theorem dL_law_477 : decode cL_law 477 = .ok (.ireturn, 1) := by decide +kernel
theorem dL_law_478 : decode cL_law 478 = .ok (.aload_n 1, 1) := by decide +kernel
theorem dL_law_479 : decode cL_law 479 = .ok (.aload_n 0, 1) := by decide +kernel
theorem dL_law_480 : decode cL_law 480 = .ok (.iload_n 3, 1) := by decide +kernel
theorem dL_law_481 : decode cL_law 481 = .ok (.iconst 1, 1) := by decide +kernel
theorem dL_law_482 : decode cL_law 482 = .ok (.iadd, 1) := by decide +kernel
theorem dL_law_483 : decode cL_law 483 = .ok (.iaload, 1) := by decide +kernel
theorem dL_law_484 : decode cL_law 484 = .ok (.invokevirtual 57, 3) := by decide +kernel
theorem dL_law_487 : decode cL_law 487 = .ok (.aload_n 2, 1) := by decide +kernel
theorem dL_law_488 : decode cL_law 488 = .ok (.aload_n 0, 1) := by decide +kernel
theorem dL_law_489 : decode cL_law 489 = .ok (.iload_n 3, 1) := by decide +kernel
theorem dL_law_490 : decode cL_law 490 = .ok (.iconst 1, 1) := by decide +kernel
theorem dL_law_491 : decode cL_law 491 = .ok (.iadd, 1) := by decide +kernel
theorem dL_law_492 : decode cL_law 492 = .ok (.iaload, 1) := by decide +kernel
theorem dL_law_493 : decode cL_law 493 = .ok (.invokevirtual 60, 3) := by decide +kernel
theorem dL_law_496 : decode cL_law 496 = .ok (.if_icmp .eq 305, 3) := by decide +kernel
theorem dL_law_499 : decode cL_law 499 = .ok (.iconst 0, 1) := by decide +kernel
theorem dL_law_500 : decode cL_law 500 = .ok (.ireturn, 1) := by decide +kernel
theorem dL_law_501 : decode cL_law 501 = .ok (.aload_n 1, 1) := by decide +kernel
theorem dL_law_502 : decode cL_law 502 = .ok (.aload_n 0, 1) := by decide +kernel
theorem dL_law_503 : decode cL_law 503 = .ok (.iload_n 3, 1) := by decide +kernel
theorem dL_law_504 : decode cL_law 504 = .ok (.iconst 1, 1) := by decide +kernel
theorem dL_law_505 : decode cL_law 505 = .ok (.iadd, 1) := by decide +kernel
theorem dL_law_506 : decode cL_law 506 = .ok (.iaload, 1) := by decide +kernel
theorem dL_law_507 : decode cL_law 507 = .ok (.invokevirtual 61, 3) := by decide +kernel
theorem dL_law_510 : decode cL_law 510 = .ok (.aload_n 2, 1) := by decide +kernel
theorem dL_law_511 : decode cL_law 511 = .ok (.aload_n 0, 1) := by decide +kernel
theorem dL_law_512 : decode cL_law 512 = .ok (.iload_n 3, 1) := by decide +kernel
theorem dL_law_513 : decode cL_law 513 = .ok (.iconst 1, 1) := by decide +kernel
theorem dL_law_514 : decode cL_law 514 = .ok (.iadd, 1) := by decide +kernel
theorem dL_law_515 : decode cL_law 515 = .ok (.iaload, 1) := by decide +kernel
theorem dL_law_516 : decode cL_law 516 = .ok (.invokevirtual 64, 3) := by decide +kernel
theorem dL_law_519 : decode cL_law 519 = .ok (.if_icmp .eq 282, 3) := by decide +kernel
theorem dL_law_522 : decode cL_law 522 = .ok (.iconst 0, 1) := by decide +kernel
theorem dL_law_523 : decode cL_law 523 = .ok (.ireturn, 1) := by decide +kernel
theorem dL_law_524 : decode cL_law 524 = .ok (.aload_n 1, 1) := by decide +kernel
theorem dL_law_525 : decode cL_law 525 = .ok (.aload_n 0, 1) := by decide +kernel
theorem dL_law_526 : decode cL_law 526 = .ok (.iload_n 3, 1) := by decide +kernel
theorem dL_law_527 : decode cL_law 527 = .ok (.iconst 1, 1) := by decide +kernel
theorem dL_law_528 : decode cL_law 528 = .ok (.iadd, 1) := by decide +kernel
theorem dL_law_529 : decode cL_law 529 = .ok (.iaload, 1) := by decide +kernel
theorem dL_law_530 : decode cL_law 530 = .ok (.aload_n 0, 1) := by decide +kernel
theorem dL_law_531 : decode cL_law 531 = .ok (.iload_n 3, 1) := by decide +kernel
theorem dL_law_532 : decode cL_law 532 = .ok (.iconst 2, 1) := by decide +kernel
theorem dL_law_533 : decode cL_law 533 = .ok (.iadd, 1) := by decide +kernel
theorem dL_law_534 : decode cL_law 534 = .ok (.iaload, 1) := by decide +kernel
theorem dL_law_535 : decode cL_law 535 = .ok (.invokevirtual 65, 3) := by decide +kernel
theorem dL_law_538 : decode cL_law 538 = .ok (.aload_n 2, 1) := by decide +kernel
theorem dL_law_539 : decode cL_law 539 = .ok (.aload_n 0, 1) := by decide +kernel
theorem dL_law_540 : decode cL_law 540 = .ok (.iload_n 3, 1) := by decide +kernel
theorem dL_law_541 : decode cL_law 541 = .ok (.iconst 1, 1) := by decide +kernel
theorem dL_law_542 : decode cL_law 542 = .ok (.iadd, 1) := by decide +kernel
theorem dL_law_543 : decode cL_law 543 = .ok (.iaload, 1) := by decide +kernel
theorem dL_law_544 : decode cL_law 544 = .ok (.aload_n 0, 1) := by decide +kernel
theorem dL_law_545 : decode cL_law 545 = .ok (.iload_n 3, 1) := by decide +kernel
theorem dL_law_546 : decode cL_law 546 = .ok (.iconst 2, 1) := by decide +kernel
theorem dL_law_547 : decode cL_law 547 = .ok (.iadd, 1) := by decide +kernel
theorem dL_law_548 : decode cL_law 548 = .ok (.iaload, 1) := by decide +kernel
theorem dL_law_549 : decode cL_law 549 = .ok (.invokevirtual 68, 3) := by decide +kernel
theorem dL_law_552 : decode cL_law 552 = .ok (.if_icmp .eq 249, 3) := by decide +kernel
theorem dL_law_555 : decode cL_law 555 = .ok (.iconst 0, 1) := by decide +kernel
theorem dL_law_556 : decode cL_law 556 = .ok (.ireturn, 1) := by decide +kernel
theorem dL_law_557 : decode cL_law 557 = .ok (.aload_n 1, 1) := by decide +kernel
theorem dL_law_558 : decode cL_law 558 = .ok (.aload_n 0, 1) := by decide +kernel
theorem dL_law_559 : decode cL_law 559 = .ok (.iload_n 3, 1) := by decide +kernel
theorem dL_law_560 : decode cL_law 560 = .ok (.iconst 1, 1) := by decide +kernel
theorem dL_law_561 : decode cL_law 561 = .ok (.iadd, 1) := by decide +kernel
theorem dL_law_562 : decode cL_law 562 = .ok (.iaload, 1) := by decide +kernel
theorem dL_law_563 : decode cL_law 563 = .ok (.invokevirtual 69, 3) := by decide +kernel
theorem dL_law_566 : decode cL_law 566 = .ok (.aload_n 2, 1) := by decide +kernel
theorem dL_law_567 : decode cL_law 567 = .ok (.aload_n 0, 1) := by decide +kernel
theorem dL_law_568 : decode cL_law 568 = .ok (.iload_n 3, 1) := by decide +kernel
theorem dL_law_569 : decode cL_law 569 = .ok (.iconst 1, 1) := by decide +kernel
theorem dL_law_570 : decode cL_law 570 = .ok (.iadd, 1) := by decide +kernel
theorem dL_law_571 : decode cL_law 571 = .ok (.iaload, 1) := by decide +kernel
theorem dL_law_572 : decode cL_law 572 = .ok (.invokevirtual 72, 3) := by decide +kernel
theorem dL_law_575 : decode cL_law 575 = .ok (.if_icmp .eq 226, 3) := by decide +kernel
theorem dL_law_578 : decode cL_law 578 = .ok (.iconst 0, 1) := by decide +kernel
theorem dL_law_579 : decode cL_law 579 = .ok (.ireturn, 1) := by decide +kernel
theorem dL_law_580 : decode cL_law 580 = .ok (.aload_n 1, 1) := by decide +kernel
theorem dL_law_581 : decode cL_law 581 = .ok (.aload_n 0, 1) := by decide +kernel
theorem dL_law_582 : decode cL_law 582 = .ok (.iload_n 3, 1) := by decide +kernel
theorem dL_law_583 : decode cL_law 583 = .ok (.iconst 1, 1) := by decide +kernel
theorem dL_law_584 : decode cL_law 584 = .ok (.iadd, 1) := by decide +kernel
theorem dL_law_585 : decode cL_law 585 = .ok (.iaload, 1) := by decide +kernel
theorem dL_law_586 : decode cL_law 586 = .ok (.aload_n 0, 1) := by decide +kernel
theorem dL_law_587 : decode cL_law 587 = .ok (.iload_n 3, 1) := by decide +kernel
theorem dL_law_588 : decode cL_law 588 = .ok (.iconst 2, 1) := by decide +kernel
theorem dL_law_589 : decode cL_law 589 = .ok (.iadd, 1) := by decide +kernel
theorem dL_law_590 : decode cL_law 590 = .ok (.iaload, 1) := by decide +kernel
theorem dL_law_591 : decode cL_law 591 = .ok (.invokevirtual 73, 3) := by decide +kernel
theorem dL_law_594 : decode cL_law 594 = .ok (.aload_n 2, 1) := by decide +kernel
theorem dL_law_595 : decode cL_law 595 = .ok (.aload_n 0, 1) := by decide +kernel
theorem dL_law_596 : decode cL_law 596 = .ok (.iload_n 3, 1) := by decide +kernel
theorem dL_law_597 : decode cL_law 597 = .ok (.iconst 1, 1) := by decide +kernel
theorem dL_law_598 : decode cL_law 598 = .ok (.iadd, 1) := by decide +kernel
theorem dL_law_599 : decode cL_law 599 = .ok (.iaload, 1) := by decide +kernel
theorem dL_law_600 : decode cL_law 600 = .ok (.aload_n 0, 1) := by decide +kernel
theorem dL_law_601 : decode cL_law 601 = .ok (.iload_n 3, 1) := by decide +kernel
theorem dL_law_602 : decode cL_law 602 = .ok (.iconst 2, 1) := by decide +kernel
theorem dL_law_603 : decode cL_law 603 = .ok (.iadd, 1) := by decide +kernel
theorem dL_law_604 : decode cL_law 604 = .ok (.iaload, 1) := by decide +kernel
theorem dL_law_605 : decode cL_law 605 = .ok (.invokevirtual 76, 3) := by decide +kernel
theorem dL_law_608 : decode cL_law 608 = .ok (.if_icmp .eq 193, 3) := by decide +kernel
theorem dL_law_611 : decode cL_law 611 = .ok (.iconst 0, 1) := by decide +kernel
theorem dL_law_612 : decode cL_law 612 = .ok (.ireturn, 1) := by decide +kernel
theorem dL_law_613 : decode cL_law 613 = .ok (.aload_n 1, 1) := by decide +kernel
theorem dL_law_614 : decode cL_law 614 = .ok (.aload_n 0, 1) := by decide +kernel
theorem dL_law_615 : decode cL_law 615 = .ok (.iload_n 3, 1) := by decide +kernel
theorem dL_law_616 : decode cL_law 616 = .ok (.iconst 1, 1) := by decide +kernel
theorem dL_law_617 : decode cL_law 617 = .ok (.iadd, 1) := by decide +kernel
theorem dL_law_618 : decode cL_law 618 = .ok (.iaload, 1) := by decide +kernel
theorem dL_law_619 : decode cL_law 619 = .ok (.aload_n 0, 1) := by decide +kernel
theorem dL_law_620 : decode cL_law 620 = .ok (.iload_n 3, 1) := by decide +kernel
theorem dL_law_621 : decode cL_law 621 = .ok (.iconst 2, 1) := by decide +kernel
theorem dL_law_622 : decode cL_law 622 = .ok (.iadd, 1) := by decide +kernel
theorem dL_law_623 : decode cL_law 623 = .ok (.iaload, 1) := by decide +kernel
theorem dL_law_624 : decode cL_law 624 = .ok (.invokevirtual 77, 3) := by decide +kernel
theorem dL_law_627 : decode cL_law 627 = .ok (.aload_n 2, 1) := by decide +kernel
theorem dL_law_628 : decode cL_law 628 = .ok (.aload_n 0, 1) := by decide +kernel
theorem dL_law_629 : decode cL_law 629 = .ok (.iload_n 3, 1) := by decide +kernel
theorem dL_law_630 : decode cL_law 630 = .ok (.iconst 1, 1) := by decide +kernel
theorem dL_law_631 : decode cL_law 631 = .ok (.iadd, 1) := by decide +kernel
theorem dL_law_632 : decode cL_law 632 = .ok (.iaload, 1) := by decide +kernel
theorem dL_law_633 : decode cL_law 633 = .ok (.aload_n 0, 1) := by decide +kernel
theorem dL_law_634 : decode cL_law 634 = .ok (.iload_n 3, 1) := by decide +kernel
theorem dL_law_635 : decode cL_law 635 = .ok (.iconst 2, 1) := by decide +kernel
theorem dL_law_636 : decode cL_law 636 = .ok (.iadd, 1) := by decide +kernel
theorem dL_law_637 : decode cL_law 637 = .ok (.iaload, 1) := by decide +kernel
theorem dL_law_638 : decode cL_law 638 = .ok (.invokevirtual 80, 3) := by decide +kernel
theorem dL_law_641 : decode cL_law 641 = .ok (.if_icmp .eq 160, 3) := by decide +kernel
theorem dL_law_644 : decode cL_law 644 = .ok (.iconst 0, 1) := by decide +kernel
theorem dL_law_645 : decode cL_law 645 = .ok (.ireturn, 1) := by decide +kernel
theorem dL_law_646 : decode cL_law 646 = .ok (.aload_n 1, 1) := by decide +kernel
theorem dL_law_647 : decode cL_law 647 = .ok (.aload_n 0, 1) := by decide +kernel
theorem dL_law_648 : decode cL_law 648 = .ok (.iload_n 3, 1) := by decide +kernel
theorem dL_law_649 : decode cL_law 649 = .ok (.iconst 1, 1) := by decide +kernel
theorem dL_law_650 : decode cL_law 650 = .ok (.iadd, 1) := by decide +kernel
theorem dL_law_651 : decode cL_law 651 = .ok (.iaload, 1) := by decide +kernel
theorem dL_law_652 : decode cL_law 652 = .ok (.aload_n 0, 1) := by decide +kernel
theorem dL_law_653 : decode cL_law 653 = .ok (.iload_n 3, 1) := by decide +kernel
theorem dL_law_654 : decode cL_law 654 = .ok (.iconst 2, 1) := by decide +kernel
theorem dL_law_655 : decode cL_law 655 = .ok (.iadd, 1) := by decide +kernel
theorem dL_law_656 : decode cL_law 656 = .ok (.iaload, 1) := by decide +kernel
theorem dL_law_657 : decode cL_law 657 = .ok (.invokevirtual 81, 3) := by decide +kernel
theorem dL_law_660 : decode cL_law 660 = .ok (.aload_n 2, 1) := by decide +kernel
theorem dL_law_661 : decode cL_law 661 = .ok (.aload_n 0, 1) := by decide +kernel
theorem dL_law_662 : decode cL_law 662 = .ok (.iload_n 3, 1) := by decide +kernel
theorem dL_law_663 : decode cL_law 663 = .ok (.iconst 1, 1) := by decide +kernel
theorem dL_law_664 : decode cL_law 664 = .ok (.iadd, 1) := by decide +kernel
theorem dL_law_665 : decode cL_law 665 = .ok (.iaload, 1) := by decide +kernel
theorem dL_law_666 : decode cL_law 666 = .ok (.aload_n 0, 1) := by decide +kernel
theorem dL_law_667 : decode cL_law 667 = .ok (.iload_n 3, 1) := by decide +kernel
theorem dL_law_668 : decode cL_law 668 = .ok (.iconst 2, 1) := by decide +kernel
theorem dL_law_669 : decode cL_law 669 = .ok (.iadd, 1) := by decide +kernel
theorem dL_law_670 : decode cL_law 670 = .ok (.iaload, 1) := by decide +kernel
theorem dL_law_671 : decode cL_law 671 = .ok (.invokevirtual 84, 3) := by decide +kernel
theorem dL_law_674 : decode cL_law 674 = .ok (.if_icmp .eq 127, 3) := by decide +kernel
theorem dL_law_677 : decode cL_law 677 = .ok (.iconst 0, 1) := by decide +kernel
theorem dL_law_678 : decode cL_law 678 = .ok (.ireturn, 1) := by decide +kernel
theorem dL_law_679 : decode cL_law 679 = .ok (.aload_n 1, 1) := by decide +kernel
theorem dL_law_680 : decode cL_law 680 = .ok (.aload_n 0, 1) := by decide +kernel
theorem dL_law_681 : decode cL_law 681 = .ok (.iload_n 3, 1) := by decide +kernel
theorem dL_law_682 : decode cL_law 682 = .ok (.iconst 1, 1) := by decide +kernel
theorem dL_law_683 : decode cL_law 683 = .ok (.iadd, 1) := by decide +kernel
theorem dL_law_684 : decode cL_law 684 = .ok (.iaload, 1) := by decide +kernel
theorem dL_law_685 : decode cL_law 685 = .ok (.aload_n 0, 1) := by decide +kernel
theorem dL_law_686 : decode cL_law 686 = .ok (.iload_n 3, 1) := by decide +kernel
theorem dL_law_687 : decode cL_law 687 = .ok (.iconst 2, 1) := by decide +kernel
theorem dL_law_688 : decode cL_law 688 = .ok (.iadd, 1) := by decide +kernel
theorem dL_law_689 : decode cL_law 689 = .ok (.iaload, 1) := by decide +kernel
theorem dL_law_690 : decode cL_law 690 = .ok (.invokevirtual 85, 3) := by decide +kernel
theorem dL_law_693 : decode cL_law 693 = .ok (.aload_n 2, 1) := by decide +kernel
theorem dL_law_694 : decode cL_law 694 = .ok (.aload_n 0, 1) := by decide +kernel
theorem dL_law_695 : decode cL_law 695 = .ok (.iload_n 3, 1) := by decide +kernel
theorem dL_law_696 : decode cL_law 696 = .ok (.iconst 1, 1) := by decide +kernel
theorem dL_law_697 : decode cL_law 697 = .ok (.iadd, 1) := by decide +kernel
theorem dL_law_698 : decode cL_law 698 = .ok (.iaload, 1) := by decide +kernel
theorem dL_law_699 : decode cL_law 699 = .ok (.aload_n 0, 1) := by decide +kernel
theorem dL_law_700 : decode cL_law 700 = .ok (.iload_n 3, 1) := by decide +kernel
theorem dL_law_701 : decode cL_law 701 = .ok (.iconst 2, 1) := by decide +kernel
theorem dL_law_702 : decode cL_law 702 = .ok (.iadd, 1) := by decide +kernel
theorem dL_law_703 : decode cL_law 703 = .ok (.iaload, 1) := by decide +kernel
theorem dL_law_704 : decode cL_law 704 = .ok (.invokevirtual 88, 3) := by decide +kernel
theorem dL_law_707 : decode cL_law 707 = .ok (.if_icmp .eq 94, 3) := by decide +kernel
theorem dL_law_710 : decode cL_law 710 = .ok (.iconst 0, 1) := by decide +kernel
theorem dL_law_711 : decode cL_law 711 = .ok (.ireturn, 1) := by decide +kernel
theorem dL_law_712 : decode cL_law 712 = .ok (.aload_n 1, 1) := by decide +kernel
theorem dL_law_713 : decode cL_law 713 = .ok (.aload_n 0, 1) := by decide +kernel
theorem dL_law_714 : decode cL_law 714 = .ok (.iload_n 3, 1) := by decide +kernel
theorem dL_law_715 : decode cL_law 715 = .ok (.iconst 1, 1) := by decide +kernel
theorem dL_law_716 : decode cL_law 716 = .ok (.iadd, 1) := by decide +kernel
theorem dL_law_717 : decode cL_law 717 = .ok (.iaload, 1) := by decide +kernel
theorem dL_law_718 : decode cL_law 718 = .ok (.aload_n 0, 1) := by decide +kernel
theorem dL_law_719 : decode cL_law 719 = .ok (.iload_n 3, 1) := by decide +kernel
theorem dL_law_720 : decode cL_law 720 = .ok (.iconst 2, 1) := by decide +kernel
theorem dL_law_721 : decode cL_law 721 = .ok (.iadd, 1) := by decide +kernel
theorem dL_law_722 : decode cL_law 722 = .ok (.iaload, 1) := by decide +kernel
theorem dL_law_723 : decode cL_law 723 = .ok (.invokevirtual 89, 3) := by decide +kernel
theorem dL_law_726 : decode cL_law 726 = .ok (.aload_n 2, 1) := by decide +kernel
theorem dL_law_727 : decode cL_law 727 = .ok (.aload_n 0, 1) := by decide +kernel
theorem dL_law_728 : decode cL_law 728 = .ok (.iload_n 3, 1) := by decide +kernel
theorem dL_law_729 : decode cL_law 729 = .ok (.iconst 1, 1) := by decide +kernel
theorem dL_law_730 : decode cL_law 730 = .ok (.iadd, 1) := by decide +kernel
theorem dL_law_731 : decode cL_law 731 = .ok (.iaload, 1) := by decide +kernel
theorem dL_law_732 : decode cL_law 732 = .ok (.aload_n 0, 1) := by decide +kernel
theorem dL_law_733 : decode cL_law 733 = .ok (.iload_n 3, 1) := by decide +kernel
theorem dL_law_734 : decode cL_law 734 = .ok (.iconst 2, 1) := by decide +kernel
theorem dL_law_735 : decode cL_law 735 = .ok (.iadd, 1) := by decide +kernel
theorem dL_law_736 : decode cL_law 736 = .ok (.iaload, 1) := by decide +kernel
theorem dL_law_737 : decode cL_law 737 = .ok (.invokevirtual 92, 3) := by decide +kernel
theorem dL_law_740 : decode cL_law 740 = .ok (.if_icmp .eq 61, 3) := by decide +kernel
theorem dL_law_743 : decode cL_law 743 = .ok (.iconst 0, 1) := by decide +kernel
theorem dL_law_744 : decode cL_law 744 = .ok (.ireturn, 1) := by decide +kernel
theorem dL_law_745 : decode cL_law 745 = .ok (.aload_n 1, 1) := by decide +kernel
theorem dL_law_746 : decode cL_law 746 = .ok (.aload_n 0, 1) := by decide +kernel
theorem dL_law_747 : decode cL_law 747 = .ok (.iload_n 3, 1) := by decide +kernel
theorem dL_law_748 : decode cL_law 748 = .ok (.iconst 1, 1) := by decide +kernel
theorem dL_law_749 : decode cL_law 749 = .ok (.iadd, 1) := by decide +kernel
theorem dL_law_750 : decode cL_law 750 = .ok (.iaload, 1) := by decide +kernel
theorem dL_law_751 : decode cL_law 751 = .ok (.aload_n 0, 1) := by decide +kernel
theorem dL_law_752 : decode cL_law 752 = .ok (.iload_n 3, 1) := by decide +kernel
theorem dL_law_753 : decode cL_law 753 = .ok (.iconst 2, 1) := by decide +kernel
theorem dL_law_754 : decode cL_law 754 = .ok (.iadd, 1) := by decide +kernel
theorem dL_law_755 : decode cL_law 755 = .ok (.iaload, 1) := by decide +kernel
theorem dL_law_756 : decode cL_law 756 = .ok (.invokevirtual 93, 3) := by decide +kernel
theorem dL_law_759 : decode cL_law 759 = .ok (.aload_n 2, 1) := by decide +kernel
theorem dL_law_760 : decode cL_law 760 = .ok (.aload_n 0, 1) := by decide +kernel
theorem dL_law_761 : decode cL_law 761 = .ok (.iload_n 3, 1) := by decide +kernel
theorem dL_law_762 : decode cL_law 762 = .ok (.iconst 1, 1) := by decide +kernel
theorem dL_law_763 : decode cL_law 763 = .ok (.iadd, 1) := by decide +kernel
theorem dL_law_764 : decode cL_law 764 = .ok (.iaload, 1) := by decide +kernel
theorem dL_law_765 : decode cL_law 765 = .ok (.aload_n 0, 1) := by decide +kernel
theorem dL_law_766 : decode cL_law 766 = .ok (.iload_n 3, 1) := by decide +kernel
theorem dL_law_767 : decode cL_law 767 = .ok (.iconst 2, 1) := by decide +kernel
theorem dL_law_768 : decode cL_law 768 = .ok (.iadd, 1) := by decide +kernel
theorem dL_law_769 : decode cL_law 769 = .ok (.iaload, 1) := by decide +kernel
theorem dL_law_770 : decode cL_law 770 = .ok (.invokevirtual 96, 3) := by decide +kernel
theorem dL_law_773 : decode cL_law 773 = .ok (.if_icmp .eq 28, 3) := by decide +kernel
theorem dL_law_776 : decode cL_law 776 = .ok (.iconst 0, 1) := by decide +kernel
theorem dL_law_777 : decode cL_law 777 = .ok (.ireturn, 1) := by decide +kernel
theorem dL_law_778 : decode cL_law 778 = .ok (.aload_n 1, 1) := by decide +kernel
theorem dL_law_779 : decode cL_law 779 = .ok (.aload_n 0, 1) := by decide +kernel
theorem dL_law_780 : decode cL_law 780 = .ok (.iload_n 3, 1) := by decide +kernel
theorem dL_law_781 : decode cL_law 781 = .ok (.iconst 1, 1) := by decide +kernel
theorem dL_law_782 : decode cL_law 782 = .ok (.iadd, 1) := by decide +kernel
theorem dL_law_783 : decode cL_law 783 = .ok (.iaload, 1) := by decide +kernel
theorem dL_law_784 : decode cL_law 784 = .ok (.invokevirtual 97, 3) := by decide +kernel
theorem dL_law_787 : decode cL_law 787 = .ok (.aload_n 2, 1) := by decide +kernel
theorem dL_law_788 : decode cL_law 788 = .ok (.aload_n 0, 1) := by decide +kernel
theorem dL_law_789 : decode cL_law 789 = .ok (.iload_n 3, 1) := by decide +kernel
theorem dL_law_790 : decode cL_law 790 = .ok (.iconst 1, 1) := by decide +kernel
theorem dL_law_791 : decode cL_law 791 = .ok (.iadd, 1) := by decide +kernel
theorem dL_law_792 : decode cL_law 792 = .ok (.iaload, 1) := by decide +kernel
theorem dL_law_793 : decode cL_law 793 = .ok (.invokevirtual 100, 3) := by decide +kernel
theorem dL_law_796 : decode cL_law 796 = .ok (.if_icmp .eq 5, 3) := by decide +kernel
theorem dL_law_799 : decode cL_law 799 = .ok (.iconst 0, 1) := by decide +kernel
theorem dL_law_800 : decode cL_law 800 = .ok (.ireturn, 1) := by decide +kernel
theorem dL_law_801 : decode cL_law 801 = .ok (.iinc 3 4, 3) := by decide +kernel
theorem dL_law_804 : decode cL_law 804 = .ok (.goto (-786), 3) := by decide +kernel
theorem dL_law_807 : decode cL_law 807 = .ok (.iconst 1, 1) := by decide +kernel
theorem dL_law_808 : decode cL_law 808 = .ok (.ireturn, 1) := by decide +kernel
abbrev vwCl : List vw_C := [(RX0, TX0, 6), (RX1, TX1, 10), (RX2, TX2, 4), (RX3, TX3, 10), (RX4, TX4, 8), (RX5, TX5, 8), (RX6, TX6, 40)]
end
section
/-! the memory of the whole system: cells by numbers; ints and longs by cell and slot -/
abbrev Mem : Type := (Nat → Nat → Int32) × (Nat → Nat → Int64)
def gI (M : Mem) (i j : Nat) : Int32 := M.1 i j
def gJ (M : Mem) (i j : Nat) : Int64 := M.2 i j
def sI (M : Mem) (i j : Nat) (v : Int32) : Mem := (fun a b => if a = i ∧ b = j then v else M.1 a b, M.2)
def sJ (M : Mem) (i j : Nat) (v : Int64) : Mem := (M.1, fun a b => if a = i ∧ b = j then v else M.2 a b)
def cpI (M : Mem) (i sp dp n : Nat) : Mem := (fun a b => if a = i ∧ dp ≤ b ∧ b < dp + n then M.1 a (sp + (b - dp)) else M.1 a b, M.2)
def ix (j : Int32) : Nat := j.toNatClampNeg
def zb (x : Int32) : Int32 := vp_nar .boolean x
def ok (i : Int32) (n : Nat) : Bool := decide (¬ i < 0) && decide (ix i < n)
def okc (sp dp n : Int32) (len : Nat) : Bool := decide (¬ sp < 0) && (decide (¬ dp < 0) && (decide (¬ n < 0) && (decide (ix sp + ix n ≤ len) && decide (ix dp + ix n ≤ len))))
def mr (nm : Nat) (i : Int32) : Option Nat := if ix i < nm then some (ix i) else none
theorem ok_in {i : Int32} {n : Nat} (h : ok i n = true) : vp_in i n := by
  simp only [ok, Bool.and_eq_true, decide_eq_true_eq, ix] at h
  rintro (q | q)
  · exact h.1 q
  · exact Nat.not_lt.mpr q h.2
/-! how the code's own functions are written -/
def nx {α β : Type} (v : α) (k : α → Option β) : Option β := k v
def ck {β : Type} (b : Bool) (k : Option β) : Option β := match b with
  | true => k
  | false => none
def bd1 {α β : Type} (x : Option α) (k : α → Option β) : Option β := match x with
  | none => none
  | some a => k a
def bd2 {α γ β : Type} (x : Option (α × γ)) (k : α → γ → Option β) : Option β := match x with
  | none => none
  | some p => k p.1 p.2
def oc {β : Type} (o : Option Nat) (a : Option β) (f : Nat → Option β) : Option β := match o with
  | none => a
  | some n => f n
theorem q_nx {α β : Type} {v : α} {k : α → Option β} {r : β} (h : nx v k = some r) : ∃ x, x = v ∧ k x = some r := ⟨v, rfl, h⟩
theorem q_ck {β : Type} {b : Bool} {k : Option β} {r : β} (h : ck b k = some r) : b = true ∧ k = some r := by
  cases b with
  | true => exact ⟨rfl, h⟩
  | false => cases h
theorem q_bd1 {α β : Type} {x : Option α} {k : α → Option β} {r : β} (h : bd1 x k = some r) : ∃ a, x = some a ∧ k a = some r := by
  cases x with
  | none => cases h
  | some a => exact ⟨a, rfl, h⟩
theorem q_bd2 {α γ β : Type} {x : Option (α × γ)} {k : α → γ → Option β} {r : β} (h : bd2 x k = some r) : ∃ a b, x = some (a, b) ∧ k a b = some r := by
  cases x with
  | none => cases h
  | some p => exact ⟨p.1, p.2, rfl, h⟩
theorem q_ocn {β : Type} {o : Option Nat} {a : Option β} {f : Nat → Option β} {r : β} (ho : o = none) (h : oc o a f = some r) : a = some r := by
  subst ho
  exact h
theorem q_ocs {β : Type} {o : Option Nat} {a : Option β} {f : Nat → Option β} {r : β} {n : Nat} (ho : o = some n) (h : oc o a f = some r) : f n = some r := by
  subst ho
  exact h
theorem q_t {β : Type} {c : Prop} [Decidable c] {a b : Option β} {r : β} (hc : c) (h : (if c then a else b) = some r) : a = some r := by
  rw [if_pos hc] at h
  exact h
theorem q_f {β : Type} {c : Prop} [Decidable c] {a b : Option β} {r : β} (hc : ¬ c) (h : (if c then a else b) = some r) : b = some r := by
  rw [if_neg hc] at h
  exact h
def it1 {A1 B : Type} (f : (A1 → Option B) → A1 → Option B) : Nat → A1 → Option B
  | 0 => fun _ => none
  | n + 1 => f (it1 f n)
theorem it1_0 {A1 B : Type} {f : (A1 → Option B) → A1 → Option B} {a1 : A1} {r : B} (h : it1 f 0 a1 = some r) : False := by cases h
theorem it1_s {A1 B : Type} {f : (A1 → Option B) → A1 → Option B} {n : Nat} {a1 : A1} {r : B} (h : it1 f (n + 1) a1 = some r) : f (it1 f n) a1 = some r := h
def it2 {A1 A2 B : Type} (f : (A1 → A2 → Option B) → A1 → A2 → Option B) : Nat → A1 → A2 → Option B
  | 0 => fun _ _ => none
  | n + 1 => f (it2 f n)
theorem it2_0 {A1 A2 B : Type} {f : (A1 → A2 → Option B) → A1 → A2 → Option B} {a1 : A1} {a2 : A2} {r : B} (h : it2 f 0 a1 a2 = some r) : False := by cases h
theorem it2_s {A1 A2 B : Type} {f : (A1 → A2 → Option B) → A1 → A2 → Option B} {n : Nat} {a1 : A1} {a2 : A2} {r : B} (h : it2 f (n + 1) a1 a2 = some r) : f (it2 f n) a1 a2 = some r := h
def it3 {A1 A2 A3 B : Type} (f : (A1 → A2 → A3 → Option B) → A1 → A2 → A3 → Option B) : Nat → A1 → A2 → A3 → Option B
  | 0 => fun _ _ _ => none
  | n + 1 => f (it3 f n)
theorem it3_0 {A1 A2 A3 B : Type} {f : (A1 → A2 → A3 → Option B) → A1 → A2 → A3 → Option B} {a1 : A1} {a2 : A2} {a3 : A3} {r : B} (h : it3 f 0 a1 a2 a3 = some r) : False := by cases h
theorem it3_s {A1 A2 A3 B : Type} {f : (A1 → A2 → A3 → Option B) → A1 → A2 → A3 → Option B} {n : Nat} {a1 : A1} {a2 : A2} {a3 : A3} {r : B} (h : it3 f (n + 1) a1 a2 a3 = some r) : f (it3 f n) a1 a2 a3 = some r := h
def it4 {A1 A2 A3 A4 B : Type} (f : (A1 → A2 → A3 → A4 → Option B) → A1 → A2 → A3 → A4 → Option B) : Nat → A1 → A2 → A3 → A4 → Option B
  | 0 => fun _ _ _ _ => none
  | n + 1 => f (it4 f n)
theorem it4_0 {A1 A2 A3 A4 B : Type} {f : (A1 → A2 → A3 → A4 → Option B) → A1 → A2 → A3 → A4 → Option B} {a1 : A1} {a2 : A2} {a3 : A3} {a4 : A4} {r : B} (h : it4 f 0 a1 a2 a3 a4 = some r) : False := by cases h
theorem it4_s {A1 A2 A3 A4 B : Type} {f : (A1 → A2 → A3 → A4 → Option B) → A1 → A2 → A3 → A4 → Option B} {n : Nat} {a1 : A1} {a2 : A2} {a3 : A3} {a4 : A4} {r : B} (h : it4 f (n + 1) a1 a2 a3 a4 = some r) : f (it4 f n) a1 a2 a3 a4 = some r := h
def it5 {A1 A2 A3 A4 A5 B : Type} (f : (A1 → A2 → A3 → A4 → A5 → Option B) → A1 → A2 → A3 → A4 → A5 → Option B) : Nat → A1 → A2 → A3 → A4 → A5 → Option B
  | 0 => fun _ _ _ _ _ => none
  | n + 1 => f (it5 f n)
theorem it5_0 {A1 A2 A3 A4 A5 B : Type} {f : (A1 → A2 → A3 → A4 → A5 → Option B) → A1 → A2 → A3 → A4 → A5 → Option B} {a1 : A1} {a2 : A2} {a3 : A3} {a4 : A4} {a5 : A5} {r : B} (h : it5 f 0 a1 a2 a3 a4 a5 = some r) : False := by cases h
theorem it5_s {A1 A2 A3 A4 A5 B : Type} {f : (A1 → A2 → A3 → A4 → A5 → Option B) → A1 → A2 → A3 → A4 → A5 → Option B} {n : Nat} {a1 : A1} {a2 : A2} {a3 : A3} {a4 : A4} {a5 : A5} {r : B} (h : it5 f (n + 1) a1 a2 a3 a4 a5 = some r) : f (it5 f n) a1 a2 a3 a4 a5 = some r := h
def it6 {A1 A2 A3 A4 A5 A6 B : Type} (f : (A1 → A2 → A3 → A4 → A5 → A6 → Option B) → A1 → A2 → A3 → A4 → A5 → A6 → Option B) : Nat → A1 → A2 → A3 → A4 → A5 → A6 → Option B
  | 0 => fun _ _ _ _ _ _ => none
  | n + 1 => f (it6 f n)
theorem it6_0 {A1 A2 A3 A4 A5 A6 B : Type} {f : (A1 → A2 → A3 → A4 → A5 → A6 → Option B) → A1 → A2 → A3 → A4 → A5 → A6 → Option B} {a1 : A1} {a2 : A2} {a3 : A3} {a4 : A4} {a5 : A5} {a6 : A6} {r : B} (h : it6 f 0 a1 a2 a3 a4 a5 a6 = some r) : False := by cases h
theorem it6_s {A1 A2 A3 A4 A5 A6 B : Type} {f : (A1 → A2 → A3 → A4 → A5 → A6 → Option B) → A1 → A2 → A3 → A4 → A5 → A6 → Option B} {n : Nat} {a1 : A1} {a2 : A2} {a3 : A3} {a4 : A4} {a5 : A5} {a6 : A6} {r : B} (h : it6 f (n + 1) a1 a2 a3 a4 a5 a6 = some r) : f (it6 f n) a1 a2 a3 a4 a5 a6 = some r := h
def it7 {A1 A2 A3 A4 A5 A6 A7 B : Type} (f : (A1 → A2 → A3 → A4 → A5 → A6 → A7 → Option B) → A1 → A2 → A3 → A4 → A5 → A6 → A7 → Option B) : Nat → A1 → A2 → A3 → A4 → A5 → A6 → A7 → Option B
  | 0 => fun _ _ _ _ _ _ _ => none
  | n + 1 => f (it7 f n)
theorem it7_0 {A1 A2 A3 A4 A5 A6 A7 B : Type} {f : (A1 → A2 → A3 → A4 → A5 → A6 → A7 → Option B) → A1 → A2 → A3 → A4 → A5 → A6 → A7 → Option B} {a1 : A1} {a2 : A2} {a3 : A3} {a4 : A4} {a5 : A5} {a6 : A6} {a7 : A7} {r : B} (h : it7 f 0 a1 a2 a3 a4 a5 a6 a7 = some r) : False := by cases h
theorem it7_s {A1 A2 A3 A4 A5 A6 A7 B : Type} {f : (A1 → A2 → A3 → A4 → A5 → A6 → A7 → Option B) → A1 → A2 → A3 → A4 → A5 → A6 → A7 → Option B} {n : Nat} {a1 : A1} {a2 : A2} {a3 : A3} {a4 : A4} {a5 : A5} {a6 : A6} {a7 : A7} {r : B} (h : it7 f (n + 1) a1 a2 a3 a4 a5 a6 a7 = some r) : f (it7 f n) a1 a2 a3 a4 a5 a6 a7 = some r := h
def it8 {A1 A2 A3 A4 A5 A6 A7 A8 B : Type} (f : (A1 → A2 → A3 → A4 → A5 → A6 → A7 → A8 → Option B) → A1 → A2 → A3 → A4 → A5 → A6 → A7 → A8 → Option B) : Nat → A1 → A2 → A3 → A4 → A5 → A6 → A7 → A8 → Option B
  | 0 => fun _ _ _ _ _ _ _ _ => none
  | n + 1 => f (it8 f n)
theorem it8_0 {A1 A2 A3 A4 A5 A6 A7 A8 B : Type} {f : (A1 → A2 → A3 → A4 → A5 → A6 → A7 → A8 → Option B) → A1 → A2 → A3 → A4 → A5 → A6 → A7 → A8 → Option B} {a1 : A1} {a2 : A2} {a3 : A3} {a4 : A4} {a5 : A5} {a6 : A6} {a7 : A7} {a8 : A8} {r : B} (h : it8 f 0 a1 a2 a3 a4 a5 a6 a7 a8 = some r) : False := by cases h
theorem it8_s {A1 A2 A3 A4 A5 A6 A7 A8 B : Type} {f : (A1 → A2 → A3 → A4 → A5 → A6 → A7 → A8 → Option B) → A1 → A2 → A3 → A4 → A5 → A6 → A7 → A8 → Option B} {n : Nat} {a1 : A1} {a2 : A2} {a3 : A3} {a4 : A4} {a5 : A5} {a6 : A6} {a7 : A7} {a8 : A8} {r : B} (h : it8 f (n + 1) a1 a2 a3 a4 a5 a6 a7 a8 = some r) : f (it8 f n) a1 a2 a3 a4 a5 a6 a7 a8 = some r := h
/-! the layout -/
def layF : List (Nat × List Nat) := [(5, [3, 9, 13, 14, 33, 0, 0, 0]), (4, [4, 5, 6, 7, 8, 0, 0, 1]), (7, [60]), (7, [60]), (7, [60]), (8, [60]), (7, [720]), (2, [10, 11, 12, 0]), (7, [40]), (7, [40]), (7, [40]), (10, [8]), (11, [6]), (0, [16, 17, 0, 0, 0, 0]), (7, [8]), (7, [8]), (0, [19, 20, 0, 0, 0, 0]), (7, [8]), (7, [8]), (0, [22, 23, 0, 0, 0, 0]), (7, [8]), (7, [8]), (0, [25, 26, 0, 0, 0, 0]), (7, [8]), (7, [8]), (0, [28, 29, 0, 0, 0, 0]), (7, [8]), (7, [8]), (0, [31, 32, 0, 0, 0, 0]), (7, [8]), (7, [8]), (1, [34, 35, 36, 0, 0, 0, 0, 0, 0, 0]), (7, [12]), (7, [12]), (7, [12]), (6, [0, 0, 38, 39, 0, 40, 41, 0, 42, 43, 44, 45, 46, 47, 48, 49, 50, 51, 52, 0, 53, 54, 55, 0, 56, 57, 58, 59, 60, 0, 0, 0, 0, 0, 0, 0, 0, 61, 62, 63]), (7, [60]), (7, [60]), (7, [60]), (7, [720]), (7, [8]), (7, [8]), (7, [8]), (7, [8]), (7, [8]), (7, [8]), (7, [8]), (9, [8]), (9, [480]), (7, [24]), (7, [8]), (7, [40]), (7, [40]), (7, [40]), (7, [48]), (7, [6]), (7, [6]), (7, [6]), (7, [8]), (7, [12]), (7, [12]), (7, [12])]
def lay (i : Nat) : Nat × List Nat := if i < 62 then layF.getD i (0, []) else if i % 2 = 0 then (3, [0, 0, i + 1 + 2, 0, 0, 0, 1, 0, 0, 0]) else (7, [3])
def Ob (nm i ci : Nat) (fk : List Nat) : Prop := i < 62 + 2 * nm ∧ lay i = (ci, fk) ∧ ci < 7
def Ar (nm i t n : Nat) : Prop := i < 62 + 2 * nm ∧ lay i = (t, [n])
theorem lay_mirror (m : Nat) : lay (62 + 2 * m) = (3, [0, 0, 62 + 2 * m + 1 + 2, 0, 0, 0, 1, 0, 0, 0]) := by
  unfold lay
  rw [if_neg (by omega), if_pos (by omega)]
theorem lay_mirrorA (m : Nat) : lay (62 + 2 * m + 1) = (7, [3]) := by
  unfold lay
  rw [if_neg (by omega), if_neg (by omega)]
theorem lay_asker (k : Nat) (h : k < 6) : lay (13 + 3 * k) = (0, [13 + 3 * k + 1 + 2, 13 + 3 * k + 2 + 2, 0, 0, 0, 0]) := by
  rcases (show k = 0 ∨ k = 1 ∨ k = 2 ∨ k = 3 ∨ k = 4 ∨ k = 5 by omega) with rfl | rfl | rfl | rfl | rfl | rfl <;> rfl
theorem lay_askerA (k : Nat) (h : k < 6) : lay (13 + 3 * k + 1) = (7, [8]) ∧ lay (13 + 3 * k + 2) = (7, [8]) := by
  rcases (show k = 0 ∨ k = 1 ∨ k = 2 ∨ k = 3 ∨ k = 4 ∨ k = 5 by omega) with rfl | rfl | rfl | rfl | rfl | rfl <;> exact ⟨rfl, rfl⟩
theorem ob_asker {nm k : Nat} (h : k < 6) : Ob nm (13 + 3 * k) 0 [13 + 3 * k + 1 + 2, 13 + 3 * k + 2 + 2, 0, 0, 0, 0] := ⟨by omega, lay_asker k h, by decide⟩
theorem ob_mirror {nm m : Nat} (h : m < nm) : Ob nm (62 + 2 * m) 3 [0, 0, 62 + 2 * m + 1 + 2, 0, 0, 0, 1, 0, 0, 0] := ⟨by omega, lay_mirror m, by decide⟩
theorem ar_asker1 {nm k : Nat} (h : k < 6) : Ar nm (13 + 3 * k + 1) 7 8 := ⟨by omega, (lay_askerA k h).1⟩
theorem ar_asker2 {nm k : Nat} (h : k < 6) : Ar nm (13 + 3 * k + 2) 7 8 := ⟨by omega, (lay_askerA k h).2⟩
theorem ar_mirror {nm m : Nat} (h : m < nm) : Ar nm (62 + 2 * m + 1) 7 3 := ⟨by omega, lay_mirrorA m⟩
theorem ob_0 {nm : Nat} : Ob nm 0 5 [3, 9, 13, 14, 33, 0, 0, 0] := ⟨by omega, rfl, by decide⟩
theorem ob_1 {nm : Nat} : Ob nm 1 4 [4, 5, 6, 7, 8, 0, 0, 1] := ⟨by omega, rfl, by decide⟩
theorem ar_2 {nm : Nat} : Ar nm 2 7 60 := ⟨by omega, rfl⟩
theorem ar_3 {nm : Nat} : Ar nm 3 7 60 := ⟨by omega, rfl⟩
theorem ar_4 {nm : Nat} : Ar nm 4 7 60 := ⟨by omega, rfl⟩
theorem ar_5 {nm : Nat} : Ar nm 5 8 60 := ⟨by omega, rfl⟩
theorem ar_6 {nm : Nat} : Ar nm 6 7 720 := ⟨by omega, rfl⟩
theorem ob_7 {nm : Nat} : Ob nm 7 2 [10, 11, 12, 0] := ⟨by omega, rfl, by decide⟩
theorem ar_8 {nm : Nat} : Ar nm 8 7 40 := ⟨by omega, rfl⟩
theorem ar_9 {nm : Nat} : Ar nm 9 7 40 := ⟨by omega, rfl⟩
theorem ar_10 {nm : Nat} : Ar nm 10 7 40 := ⟨by omega, rfl⟩
theorem ar_11 {nm : Nat} : Ar nm 11 10 8 := ⟨by omega, rfl⟩
theorem ar_12 {nm : Nat} : Ar nm 12 11 6 := ⟨by omega, rfl⟩
theorem ob_31 {nm : Nat} : Ob nm 31 1 [34, 35, 36, 0, 0, 0, 0, 0, 0, 0] := ⟨by omega, rfl, by decide⟩
theorem ar_32 {nm : Nat} : Ar nm 32 7 12 := ⟨by omega, rfl⟩
theorem ar_33 {nm : Nat} : Ar nm 33 7 12 := ⟨by omega, rfl⟩
theorem ar_34 {nm : Nat} : Ar nm 34 7 12 := ⟨by omega, rfl⟩
theorem ob_35 {nm : Nat} : Ob nm 35 6 [0, 0, 38, 39, 0, 40, 41, 0, 42, 43, 44, 45, 46, 47, 48, 49, 50, 51, 52, 0, 53, 54, 55, 0, 56, 57, 58, 59, 60, 0, 0, 0, 0, 0, 0, 0, 0, 61, 62, 63] := ⟨by omega, rfl, by decide⟩
theorem ar_36 {nm : Nat} : Ar nm 36 7 60 := ⟨by omega, rfl⟩
theorem ar_37 {nm : Nat} : Ar nm 37 7 60 := ⟨by omega, rfl⟩
theorem ar_38 {nm : Nat} : Ar nm 38 7 60 := ⟨by omega, rfl⟩
theorem ar_39 {nm : Nat} : Ar nm 39 7 720 := ⟨by omega, rfl⟩
theorem ar_40 {nm : Nat} : Ar nm 40 7 8 := ⟨by omega, rfl⟩
theorem ar_41 {nm : Nat} : Ar nm 41 7 8 := ⟨by omega, rfl⟩
theorem ar_42 {nm : Nat} : Ar nm 42 7 8 := ⟨by omega, rfl⟩
theorem ar_43 {nm : Nat} : Ar nm 43 7 8 := ⟨by omega, rfl⟩
theorem ar_44 {nm : Nat} : Ar nm 44 7 8 := ⟨by omega, rfl⟩
theorem ar_45 {nm : Nat} : Ar nm 45 7 8 := ⟨by omega, rfl⟩
theorem ar_46 {nm : Nat} : Ar nm 46 7 8 := ⟨by omega, rfl⟩
theorem ar_47 {nm : Nat} : Ar nm 47 9 8 := ⟨by omega, rfl⟩
theorem ar_48 {nm : Nat} : Ar nm 48 9 480 := ⟨by omega, rfl⟩
theorem ar_49 {nm : Nat} : Ar nm 49 7 24 := ⟨by omega, rfl⟩
theorem ar_50 {nm : Nat} : Ar nm 50 7 8 := ⟨by omega, rfl⟩
theorem ar_51 {nm : Nat} : Ar nm 51 7 40 := ⟨by omega, rfl⟩
theorem ar_52 {nm : Nat} : Ar nm 52 7 40 := ⟨by omega, rfl⟩
theorem ar_53 {nm : Nat} : Ar nm 53 7 40 := ⟨by omega, rfl⟩
theorem ar_54 {nm : Nat} : Ar nm 54 7 48 := ⟨by omega, rfl⟩
theorem ar_55 {nm : Nat} : Ar nm 55 7 6 := ⟨by omega, rfl⟩
theorem ar_56 {nm : Nat} : Ar nm 56 7 6 := ⟨by omega, rfl⟩
theorem ar_57 {nm : Nat} : Ar nm 57 7 6 := ⟨by omega, rfl⟩
theorem ar_58 {nm : Nat} : Ar nm 58 7 8 := ⟨by omega, rfl⟩
theorem ar_59 {nm : Nat} : Ar nm 59 7 12 := ⟨by omega, rfl⟩
theorem ar_60 {nm : Nat} : Ar nm 60 7 12 := ⟨by omega, rfl⟩
theorem ar_61 {nm : Nat} : Ar nm 61 7 12 := ⟨by omega, rfl⟩
/-! the picture of the memory in the heap -/
def fv (ad : Nat → Nat) (M : Mem) (i k : Nat) (t : Nat) : Value := match t with
  | 0 => .int (M.1 i k)
  | 1 => .long (M.2 i k)
  | r + 2 => .ref (ad r)
def fvs (ad : Nat → Nat) (M : Mem) (i : Nat) : Nat → List Nat → List Value
  | _, [] => []
  | k, t :: ts => fv ad M i k t :: fvs ad M i (k + 1) ts
theorem fvs_get (ad : Nat → Nat) (M : Mem) (i : Nat) : ∀ (ts : List Nat) (k0 k : Nat), (fvs ad M i k0 ts)[k]? = (ts[k]?).map (fv ad M i (k0 + k))
  | [], k0, k => by simp [fvs]
  | t :: ts, k0, 0 => by simp [fvs]
  | t :: ts, k0, k + 1 => by
    simp only [fvs, List.getElem?_cons_succ]
    rw [fvs_get ad M i ts (k0 + 1) k, show k0 + 1 + k = k0 + (k + 1) by omega]
theorem fvs_len (ad : Nat → Nat) (M : Mem) (i : Nat) : ∀ (ts : List Nat) (k0 : Nat), (fvs ad M i k0 ts).length = ts.length
  | [], k0 => rfl
  | t :: ts, k0 => by simp [fvs, fvs_len ad M i ts (k0 + 1)]
def ce (ad : Nat → Nat) (kc : Nat → ClassId) (nm : Nat) (M : Mem) (i : Nat) : va_E :=
  if (lay i).1 < 7 then .inr ((lay i).1, fvs ad M i 0 (lay i).2)
  else if (lay i).1 = 7 then .inl (kc 0, (lay i).2.headD 0, .inl (M.1 i))
  else if (lay i).1 = 8 then .inl (kc 1, (lay i).2.headD 0, .inr (.inl (M.2 i)))
  else if (lay i).1 = 9 then .inl (kc 2, (lay i).2.headD 0, .inl (M.1 i))
  else if (lay i).1 = 10 then .inl (kc 3, (lay i).2.headD 0, .inr (.inr (.inr (.inr (fun j => if j < nm then some (ad (62 + 2 * j)) else none)))))
  else .inl (kc 4, (lay i).2.headD 0, .inr (.inr (.inr (.inr (fun j => some (ad (13 + 3 * j)))))))
def wl (ad : Nat → Nat) (kc : Nat → ClassId) (nm : Nat) (M : Mem) : va_W := (List.range (62 + 2 * nm)).map (fun i => (ad i, ce ad kc nm M i))
def tysOf (kc : Nat → ClassId) : List (ClassId × FieldType) := [(kc 0, .int), (kc 1, .long), (kc 2, .boolean), (kc 3, .object "MirrorNet$Mirror"), (kc 4, .object "MirrorNet$Asker")]
def AD (ad : Nat → Nat) (nm z : Nat) : Prop := (∀ i j, i < 62 + 2 * nm → j < 62 + 2 * nm → ad i = ad j → i = j) ∧ ∀ i, i < 62 + 2 * nm → z ≤ ad i
theorem wl_at {ad : Nat → Nat} {kc : Nat → ClassId} {nm : Nat} {M : Mem} {i : Nat} (h : i < 62 + 2 * nm) : (wl ad kc nm M)[i]? = some (ad i, ce ad kc nm M i) := by
  simp [wl, h]
theorem wl_len {ad : Nat → Nat} {kc : Nat → ClassId} {nm : Nat} {M : Mem} : (wl ad kc nm M).length = 62 + 2 * nm := by simp [wl]
theorem wl_D {ad : Nat → Nat} {nm z : Nat} (h : AD ad nm z) (kc : Nat → ClassId) (M : Mem) : va_D (fun q => z ≤ q) (wl ad kc nm M) := by
  have key : ∀ (i : Nat) (p : Nat × va_E), (wl ad kc nm M)[i]? = some p → i < 62 + 2 * nm ∧ p.1 = ad i := by
    intro i p hi
    have hl : i < 62 + 2 * nm := by
      have := (List.getElem?_eq_some_iff.mp hi).1
      rwa [wl_len] at this
    rw [wl_at hl] at hi
    cases hi
    exact ⟨hl, rfl⟩
  refine ⟨fun i j p q hi hj hpq => ?_, fun k q hk => ?_⟩
  · obtain ⟨h1, h2⟩ := key i p hi
    obtain ⟨h3, h4⟩ := key j q hj
    exact h.1 i j h1 h3 (by rw [← h2, ← h4]; exact hpq)
  · obtain ⟨h1, h2⟩ := key k q hk
    show z ≤ q.1
    rw [h2]
    exact h.2 k h1
theorem wl_set {ad : Nat → Nat} {kc : Nat → ClassId} {nm : Nat} {M M' : Mem} {i : Nat} {e : va_E} (h1 : ce ad kc nm M' i = e) (h2 : ∀ j, j ≠ i → ce ad kc nm M' j = ce ad kc nm M j) : (wl ad kc nm M).set i (ad i, e) = wl ad kc nm M' := by
  apply List.ext_getElem?
  intro k
  by_cases hl : k < 62 + 2 * nm
  · by_cases hk : i = k
    · subst hk
      rw [List.getElem?_set_self (by rw [wl_len]; exact hl), wl_at hl, h1]
    · rw [List.getElem?_set_ne hk, wl_at hl, wl_at hl, h2 k (Ne.symm hk)]
  · rw [List.getElem?_eq_none (by rw [List.length_set, wl_len]; omega), List.getElem?_eq_none (by rw [wl_len]; omega)]
theorem fvs_congr {ad : Nat → Nat} {M M' : Mem} {i : Nat} (h1 : M'.1 i = M.1 i) (h2 : M'.2 i = M.2 i) : ∀ (ts : List Nat) (k : Nat), fvs ad M' i k ts = fvs ad M i k ts
  | [], k => rfl
  | t :: ts, k => by
    have e : fv ad M' i k t = fv ad M i k t := by
      unfold fv
      rw [h1, h2]
    simp only [fvs, e, fvs_congr h1 h2 ts (k + 1)]
theorem ce_congr {ad : Nat → Nat} {kc : Nat → ClassId} {nm : Nat} {M M' : Mem} {j : Nat} (h1 : M'.1 j = M.1 j) (h2 : M'.2 j = M.2 j) : ce ad kc nm M' j = ce ad kc nm M j := by
  unfold ce
  rw [h1, h2, fvs_congr h1 h2]
theorem ce_ob {ad : Nat → Nat} {kc : Nat → ClassId} {nm i ci : Nat} {fk : List Nat} {M : Mem} (ob : Ob nm i ci fk) : ce ad kc nm M i = .inr (ci, fvs ad M i 0 fk) := by
  unfold ce
  rw [ob.2.1]
  rw [if_pos ob.2.2]
theorem ce_ar7 {ad : Nat → Nat} {kc : Nat → ClassId} {nm i n : Nat} {M : Mem} (ar : Ar nm i 7 n) : ce ad kc nm M i = .inl (kc 0, n, .inl (M.1 i)) := by
  unfold ce
  rw [ar.2]
  rfl
theorem ce_ar8 {ad : Nat → Nat} {kc : Nat → ClassId} {nm i n : Nat} {M : Mem} (ar : Ar nm i 8 n) : ce ad kc nm M i = .inl (kc 1, n, .inr (.inl (M.2 i))) := by
  unfold ce
  rw [ar.2]
  rfl
theorem ce_ar9 {ad : Nat → Nat} {kc : Nat → ClassId} {nm i n : Nat} {M : Mem} (ar : Ar nm i 9 n) : ce ad kc nm M i = .inl (kc 2, n, .inl (M.1 i)) := by
  unfold ce
  rw [ar.2]
  rfl
theorem ce_ar10 {ad : Nat → Nat} {kc : Nat → ClassId} {nm i n : Nat} {M : Mem} (ar : Ar nm i 10 n) : ce ad kc nm M i = .inl (kc 3, n, .inr (.inr (.inr (.inr (fun j => if j < nm then some (ad (62 + 2 * j)) else none))))) := by
  unfold ce
  rw [ar.2]
  rfl
theorem ce_ar11 {ad : Nat → Nat} {kc : Nat → ClassId} {nm i n : Nat} {M : Mem} (ar : Ar nm i 11 n) : ce ad kc nm M i = .inl (kc 4, n, .inr (.inr (.inr (.inr (fun j => some (ad (13 + 3 * j))))))) := by
  unfold ce
  rw [ar.2]
  rfl
theorem sI_row (M : Mem) (i j : Nat) (v : Int32) : (sI M i j v).1 i = upd (M.1 i) j v := by
  funext k
  by_cases h : k = j <;> simp [sI, upd, h]
theorem sI_ne (M : Mem) (i j : Nat) (v : Int32) {a : Nat} (h : a ≠ i) : (sI M i j v).1 a = M.1 a := by
  funext k
  simp [sI, h]
theorem sJ_row (M : Mem) (i j : Nat) (v : Int64) : (sJ M i j v).2 i = vp_updL (M.2 i) j v := by
  funext k
  by_cases h : k = j <;> simp [sJ, vp_updL, h]
theorem sJ_ne (M : Mem) (i j : Nat) (v : Int64) {a : Nat} (h : a ≠ i) : (sJ M i j v).2 a = M.2 a := by
  funext k
  simp [sJ, h]
theorem fvs_setI {ad : Nat → Nat} {M : Mem} {i k : Nat} {fk : List Nat} (v : Int32) (h : fk[k]? = some 0) : (fvs ad M i 0 fk).set k (.int v) = fvs ad (sI M i k v) i 0 fk := by
  have hk : k < fk.length := (List.getElem?_eq_some_iff.mp h).1
  apply List.ext_getElem?
  intro q
  by_cases hq : k = q
  · subst hq
    rw [List.getElem?_set_self (by rw [fvs_len]; exact hk), fvs_get, h]
    simp [fv, sI]
  · rw [List.getElem?_set_ne hq, fvs_get, fvs_get]
    congr 1
    funext t
    match t with
    | 0 => simp [fv, sI, Ne.symm hq]
    | 1 => rfl
    | r + 2 => rfl
theorem fvs_setJ {ad : Nat → Nat} {M : Mem} {i k : Nat} {fk : List Nat} (v : Int64) (h : fk[k]? = some 1) : (fvs ad M i 0 fk).set k (.long v) = fvs ad (sJ M i k v) i 0 fk := by
  have hk : k < fk.length := (List.getElem?_eq_some_iff.mp h).1
  apply List.ext_getElem?
  intro q
  by_cases hq : k = q
  · subst hq
    rw [List.getElem?_set_self (by rw [fvs_len]; exact hk), fvs_get, h]
    simp [fv, sJ]
  · rw [List.getElem?_set_ne hq, fvs_get, fvs_get]
    congr 1
    funext t
    match t with
    | 0 => rfl
    | 1 => simp [fv, sJ, Ne.symm hq]
    | r + 2 => rfl
theorem wl_setI {ad : Nat → Nat} {kc : Nat → ClassId} {nm i j : Nat} {M : Mem} {v : Int32} {e : va_E} (h1 : ce ad kc nm (sI M i j v) i = e) : (wl ad kc nm M).set i (ad i, e) = wl ad kc nm (sI M i j v) :=
  wl_set h1 (fun a ha => ce_congr (sI_ne M i j v ha) rfl)
theorem wl_setJ {ad : Nat → Nat} {kc : Nat → ClassId} {nm i j : Nat} {M : Mem} {v : Int64} {e : va_E} (h1 : ce ad kc nm (sJ M i j v) i = e) : (wl ad kc nm M).set i (ad i, e) = wl ad kc nm (sJ M i j v) :=
  wl_set h1 (fun a ha => ce_congr rfl (sJ_ne M i j v ha))
theorem nar_b {v : Int32} (h : v = 0 ∨ v = 1) : narrow .boolean (.int v) = .int v := by
  rcases h with rfl | rfl <;> rfl
theorem fit_b {v : Int32} (h : v = 0 ∨ v = 1) : fits .boolean (.int v) = true := by
  rcases h with rfl | rfl <;> rfl
def nestW : List Cond := [(Jvm.Cond.methodLinkNest "MirrorNet" (11 : Nat) ({ cls := "MirrorNet$Shelf", name := "<init>", desc := "()V" } : Jvm.MethodName) "MirrorNet"),
  (Jvm.Cond.fieldLinkNest "MirrorNet" (211 : Nat) "MirrorNet$Shelf" "fileCount" "I" "MirrorNet"),
  (Jvm.Cond.fieldLinkNest "MirrorNet" (214 : Nat) "MirrorNet$Shelf" "stateCount" "I" "MirrorNet"),
  (Jvm.Cond.fieldLinkNest "MirrorNet" (220 : Nat) "MirrorNet$Shelf" "yanked" "J" "MirrorNet"),
  (Jvm.Cond.methodLinkNest "MirrorNet" (18 : Nat) ({ cls := "MirrorNet$Falls", name := "<init>", desc := "()V" } : Jvm.MethodName) "MirrorNet"),
  (Jvm.Cond.fieldLinkNest "MirrorNet" (217 : Nat) "MirrorNet$Falls" "told" "I" "MirrorNet"),
  (Jvm.Cond.methodLinkNest "MirrorNet" (35 : Nat) ({ cls := "MirrorNet$Asker", name := "<init>", desc := "()V" } : Jvm.MethodName) "MirrorNet"),
  (Jvm.Cond.fieldLinkNest "MirrorNet" (248 : Nat) "MirrorNet$Asker" "lineLength" "I" "MirrorNet"),
  (Jvm.Cond.fieldLinkNest "MirrorNet" (162 : Nat) "MirrorNet$Asker" "mostAge" "I" "MirrorNet"),
  (Jvm.Cond.fieldLinkNest "MirrorNet" (172 : Nat) "MirrorNet$Asker" "last" "I" "MirrorNet"),
  (Jvm.Cond.fieldLinkNest "MirrorNet" (165 : Nat) "MirrorNet$Asker" "bad" "I" "MirrorNet"),
  (Jvm.Cond.methodLinkNest "MirrorNet" (38 : Nat) ({ cls := "MirrorNet$Asking", name := "<init>", desc := "()V" } : Jvm.MethodName) "MirrorNet"),
  (Jvm.Cond.fieldLinkNest "MirrorNet" (192 : Nat) "MirrorNet$Asking" "isAny" "Z" "MirrorNet"),
  (Jvm.Cond.fieldLinkNest "MirrorNet" (195 : Nat) "MirrorNet$Asking" "index" "I" "MirrorNet"),
  (Jvm.Cond.fieldLinkNest "MirrorNet" (196 : Nat) "MirrorNet$Asking" "spent" "I" "MirrorNet"),
  (Jvm.Cond.fieldLinkNest "MirrorNet" (199 : Nat) "MirrorNet$Asking" "askings" "I" "MirrorNet"),
  (Jvm.Cond.fieldLinkNest "MirrorNet" (202 : Nat) "MirrorNet$Asking" "gotCount" "I" "MirrorNet"),
  (Jvm.Cond.fieldLinkNest "MirrorNet" (205 : Nat) "MirrorNet$Asking" "lacking" "I" "MirrorNet"),
  (Jvm.Cond.fieldLinkNest "MirrorNet" (189 : Nat) "MirrorNet$Asking" "foresight" "I" "MirrorNet"),
  (Jvm.Cond.methodLinkNest "MirrorNet" (51 : Nat) ({ cls := "MirrorNet$Shelf", name := "addFile", desc := "(I)I" } : Jvm.MethodName) "MirrorNet"),
  (Jvm.Cond.methodLinkNest "MirrorNet" (58 : Nat) ({ cls := "MirrorNet$Shelf", name := "addPut", desc := "(III)I" } : Jvm.MethodName) "MirrorNet"),
  (Jvm.Cond.methodLinkNest "MirrorNet$Shelf" (41 : Nat) ({ cls := "MirrorNet", name := "isWithin", desc := "(III)Z" } : Jvm.MethodName) "MirrorNet"),
  (Jvm.Cond.methodLinkNest "MirrorNet$Shelf" (69 : Nat) ({ cls := "MirrorNet", name := "bitOf", desc := "(I)J" } : Jvm.MethodName) "MirrorNet"),
  (Jvm.Cond.methodLinkNest "MirrorNet" (62 : Nat) ({ cls := "MirrorNet$Shelf", name := "addYank", desc := "(II)I" } : Jvm.MethodName) "MirrorNet"),
  (Jvm.Cond.methodLinkNest "MirrorNet" (66 : Nat) ({ cls := "MirrorNet$Shelf", name := "namedBy", desc := "(II)I" } : Jvm.MethodName) "MirrorNet"),
  (Jvm.Cond.methodLinkNest "MirrorNet" (69 : Nat) ({ cls := "MirrorNet$Shelf", name := "hasState", desc := "(I)Z" } : Jvm.MethodName) "MirrorNet"),
  (Jvm.Cond.methodLinkNest "MirrorNet" (73 : Nat) ({ cls := "MirrorNet$Shelf", name := "tickOf", desc := "(I)I" } : Jvm.MethodName) "MirrorNet"),
  (Jvm.Cond.methodLinkNest "MirrorNet" (76 : Nat) ({ cls := "MirrorNet$Shelf", name := "ageOf", desc := "(II)I" } : Jvm.MethodName) "MirrorNet"),
  (Jvm.Cond.methodLinkNest "MirrorNet" (79 : Nat) ({ cls := "MirrorNet$Shelf", name := "packagesNamedIn", desc := "(I)I" } : Jvm.MethodName) "MirrorNet"),
  (Jvm.Cond.methodLinkNest "MirrorNet" (82 : Nat) ({ cls := "MirrorNet$Shelf", name := "filesOf", desc := "(I)J" } : Jvm.MethodName) "MirrorNet"),
  (Jvm.Cond.methodLinkNest "MirrorNet" (86 : Nat) ({ cls := "MirrorNet$Shelf", name := "bytesOf", desc := "(J)I" } : Jvm.MethodName) "MirrorNet"),
  (Jvm.Cond.methodLinkNest "MirrorNet" (93 : Nat) ({ cls := "MirrorNet$Mirror", name := "<init>", desc := "(III)V" } : Jvm.MethodName) "MirrorNet"),
  (Jvm.Cond.fieldLinkNest "MirrorNet" (223 : Nat) "MirrorNet$Mirror" "source" "I" "MirrorNet"),
  (Jvm.Cond.fieldLinkNest "MirrorNet" (100 : Nat) "MirrorNet$Mirror" "bytesATick" "I" "MirrorNet"),
  (Jvm.Cond.fieldLinkNest "MirrorNet" (113 : Nat) "MirrorNet$Mirror" "index" "I" "MirrorNet"),
  (Jvm.Cond.fieldLinkNest "MirrorNet" (116 : Nat) "MirrorNet$Mirror" "target" "I" "MirrorNet"),
  (Jvm.Cond.fieldLinkNest "MirrorNet" (119 : Nat) "MirrorNet$Mirror" "files" "J" "MirrorNet"),
  (Jvm.Cond.fieldLinkNest "MirrorNet" (128 : Nat) "MirrorNet$Mirror" "done" "I" "MirrorNet"),
  (Jvm.Cond.fieldLinkNest "MirrorNet" (131 : Nat) "MirrorNet$Mirror" "taken" "I" "MirrorNet"),
  (Jvm.Cond.fieldLinkNest "MirrorNet" (106 : Nat) "MirrorNet$Mirror" "isLiar" "Z" "MirrorNet"),
  (Jvm.Cond.methodLinkNest "MirrorNet" (103 : Nat) ({ cls := "MirrorNet$Falls", name := "add", desc := "(III)I" } : Jvm.MethodName) "MirrorNet"),
  (Jvm.Cond.methodLinkNest "MirrorNet" (134 : Nat) ({ cls := "MirrorNet$Falls", name := "downAt", desc := "(I)I" } : Jvm.MethodName) "MirrorNet"),
  (Jvm.Cond.methodLinkNest "MirrorNet$Falls" (25 : Nat) ({ cls := "MirrorNet", name := "isWithin", desc := "(III)Z" } : Jvm.MethodName) "MirrorNet"),
  (Jvm.Cond.methodLinkNest "MirrorNet" (226 : Nat) ({ cls := "MirrorNet$Shelf", name := "latestState", desc := "()I" } : Jvm.MethodName) "MirrorNet"),
  (Jvm.Cond.methodLinkNest "MirrorNet" (230 : Nat) ({ cls := "MirrorNet$Shelf", name := "allFiles", desc := "()J" } : Jvm.MethodName) "MirrorNet"),
  (Jvm.Cond.methodLinkNest "MirrorNet" (234 : Nat) ({ cls := "MirrorNet$Mirror", name := "step", desc := "(LMirrorNet$Shelf;IJ)V" } : Jvm.MethodName) "MirrorNet"),
  (Jvm.Cond.methodLinkNest "MirrorNet$Mirror" (42 : Nat) ({ cls := "MirrorNet$Shelf", name := "filesOf", desc := "(I)J" } : Jvm.MethodName) "MirrorNet"),
  (Jvm.Cond.methodLinkNest "MirrorNet$Mirror" (74 : Nat) ({ cls := "MirrorNet", name := "leastOf", desc := "(J)I" } : Jvm.MethodName) "MirrorNet"),
  (Jvm.Cond.methodLinkNest "MirrorNet$Mirror" (38 : Nat) ({ cls := "MirrorNet", name := "bitOf", desc := "(I)J" } : Jvm.MethodName) "MirrorNet"),
  (Jvm.Cond.methodLinkNest "MirrorNet$Mirror" (77 : Nat) ({ cls := "MirrorNet$Shelf", name := "sizeOf", desc := "(I)I" } : Jvm.MethodName) "MirrorNet"),
  (Jvm.Cond.methodLinkNest "MirrorNet" (141 : Nat) ({ cls := "MirrorNet$Mirror", name := "bytesWanted", desc := "(LMirrorNet$Shelf;)I" } : Jvm.MethodName) "MirrorNet"),
  (Jvm.Cond.methodLinkNest "MirrorNet$Mirror" (53 : Nat) ({ cls := "MirrorNet$Shelf", name := "bytesOf", desc := "(J)I" } : Jvm.MethodName) "MirrorNet"),
  (Jvm.Cond.methodLinkNest "MirrorNet" (145 : Nat) ({ cls := "MirrorNet$Shelf", name := "hasFile", desc := "(I)Z" } : Jvm.MethodName) "MirrorNet"),
  (Jvm.Cond.methodLinkNest "MirrorNet" (148 : Nat) ({ cls := "MirrorNet$Mirror", name := "holds", desc := "(I)Z" } : Jvm.MethodName) "MirrorNet"),
  (Jvm.Cond.methodLinkNest "MirrorNet" (155 : Nat) ({ cls := "MirrorNet$Asker", name := "costOf", desc := "(I)I" } : Jvm.MethodName) "MirrorNet"),
  (Jvm.Cond.methodLinkNest "MirrorNet$Asker" (31 : Nat) ({ cls := "MirrorNet", name := "isWithin", desc := "(III)Z" } : Jvm.MethodName) "MirrorNet"),
  (Jvm.Cond.methodLinkNest "MirrorNet" (158 : Nat) ({ cls := "MirrorNet$Asker", name := "setCost", desc := "(II)V" } : Jvm.MethodName) "MirrorNet"),
  (Jvm.Cond.methodLinkNest "MirrorNet" (175 : Nat) ({ cls := "MirrorNet$Asking", name := "begin", desc := "()V" } : Jvm.MethodName) "MirrorNet"),
  (Jvm.Cond.methodLinkNest "MirrorNet" (178 : Nat) ({ cls := "MirrorNet$Asker", name := "lineUp", desc := "()V" } : Jvm.MethodName) "MirrorNet"),
  (Jvm.Cond.methodLinkNest "MirrorNet$Asker" (38 : Nat) ({ cls := "MirrorNet", name := "isIn", desc := "(II)Z" } : Jvm.MethodName) "MirrorNet"),
  (Jvm.Cond.methodLinkNest "MirrorNet" (251 : Nat) ({ cls := "MirrorNet$Asker", name := "inLine", desc := "(I)I" } : Jvm.MethodName) "MirrorNet"),
  (Jvm.Cond.methodLinkNest "MirrorNet" (254 : Nat) ({ cls := "MirrorNet$Asker", name := "knowsAsBad", desc := "(I)Z" } : Jvm.MethodName) "MirrorNet"),
  (Jvm.Cond.methodLinkNest "MirrorNet" (257 : Nat) ({ cls := "MirrorNet$Asking", name := "spend", desc := "(I)V" } : Jvm.MethodName) "MirrorNet"),
  (Jvm.Cond.methodLinkNest "MirrorNet" (261 : Nat) ({ cls := "MirrorNet$Asker", name := "markBad", desc := "(I)V" } : Jvm.MethodName) "MirrorNet"),
  (Jvm.Cond.methodLinkNest "MirrorNet" (267 : Nat) ({ cls := "MirrorNet$Shelf", name := "namesLongYanked", desc := "(III)Z" } : Jvm.MethodName) "MirrorNet"),
  (Jvm.Cond.methodLinkNest "MirrorNet" (273 : Nat) ({ cls := "MirrorNet$Asking", name := "keepGot", desc := "(III)V" } : Jvm.MethodName) "MirrorNet"),
  (Jvm.Cond.methodLinkNest "MirrorNet" (286 : Nat) ({ cls := "MirrorNet$Shelf", name := "namesAlike", desc := "(III)Z" } : Jvm.MethodName) "MirrorNet"),
  (Jvm.Cond.methodLinkNest "MirrorNet$Shelf" (85 : Nat) ({ cls := "MirrorNet", name := "isIn", desc := "(II)Z" } : Jvm.MethodName) "MirrorNet"),
  (Jvm.Cond.methodLinkNest "MirrorNet" (208 : Nat) ({ cls := "MirrorNet$Asking", name := "gotten", desc := "(II)I" } : Jvm.MethodName) "MirrorNet"),
  (Jvm.Cond.methodLinkNest "MirrorNet$Asking" (44 : Nat) ({ cls := "MirrorNet", name := "isWithin", desc := "(III)Z" } : Jvm.MethodName) "MirrorNet")]
def isNest (w : Cond) : Bool := match w with
  | .fieldLinkNest .. => true
  | .methodLinkNest .. => true
  | _ => false
theorem nest_ok : nestW.all isNest = true := by decide +kernel
theorem nest_tab {w : Cond} (h : isNest w = true) : w.onTables = true := by
  cases w <;> first | rfl | cases h
theorem nest_warm1 {w : Cond} (h : isNest w = true) {s U : State} (hW : s.WarmedH U.vm) (hZ : va_Nw w s) : va_Nw w U := by
  cases w <;> first | exact va_Nw.warmF hW hZ | exact va_Nw.warmM hW hZ | cases h
theorem nest_is {w : Cond} (h : w ∈ nestW) : isNest w = true := List.all_eq_true.mp nest_ok w h
/-- what a method finds: the memory in the heap, the tables -/
def GW (D : va_G) (ad : Nat → Nat) (kc : Nat → ClassId) (nm z : Nat) (M : Mem) (U : State) : Prop :=
  va_P D vwCl (wl ad kc nm M) U.heap ∧ va_K D vwCl (tysOf kc) U ∧ z ≤ U.heap.size ∧ ∀ w ∈ nestW, va_Nw w U
theorem gw_blind {D : va_G} {ad : Nat → Nat} {kc : Nat → ClassId} {nm z : Nat} {M : Mem} {av : List Value} : FrameBlind (va_Pc av (GW D ad kc nm z M)) := by
  intro a U g mk q
  obtain ⟨q0, qP, qK, qz, qN⟩ := q
  exact ⟨q0, qP, va_K.moved (u := U) (U := U.calling g mk a) (Vm.Alike.refl U.vm) qK, qz, fun w hw => va_Nw.same (nest_tab (nest_is hw)) (u := U) (U := U.calling g mk a) rfl (qN w hw)⟩
theorem gw_pre {D : va_G} {ad : Nat → Nat} {kc : Nat → ClassId} {nm z : Nat} {M : Mem} {s : State} {H : Heap} (av : List Value) (hK : va_K D vwCl (tysOf kc) s) (hP : va_P D vwCl (wl ad kc nm M) H) (hz : z ≤ H.size) (hN : ∀ w ∈ nestW, va_Nw w s) : ∀ U : State, U.heap = H → s.WarmedH U.vm → va_Pc av (GW D ad kc nm z M) av.toArray U :=
  fun U hU hW => ⟨rfl, by rw [hU]; exact hP, va_K.moved hW.alike hK, by rw [hU]; exact hz, fun w hw => nest_warm1 (nest_is hw) hW (hN w hw)⟩
theorem gw_recv {D : va_G} {ad : Nat → Nat} {kc : Nat → ClassId} {nm : Nat} {M : Mem} {s : State} {H : Heap} {i ci : Nat} {fk : List Nat} {q : vw_C} (ob : Ob nm i ci fk) (hK : va_K D vwCl (tysOf kc) s) (hP : va_P D vwCl (wl ad kc nm M) H) (hc : vwCl[ci]? = some q) : ∃ cell : Cell, H[ad i]? = some cell ∧ cell.vm.isStatics = false ∧ s.vm.findClass q.1 = some cell.cls :=
  va_recv hK hP hc (q0 := i) (fs := fvs ad M i 0 fk) (by rw [wl_at ob.1, ce_ob ob])
section RowQ
variable {p : Program} {l : Launch} {e : Env} {R : Room} {s : State} {m : MethodId} {args : Array Value} {below : List Frame} {meth : Method} {c : Code} {H : Heap} {locs : List Loc} {cells slots : Nat} {Q : State → Prop}
variable {cc : ByteArray} {pc : Nat} {ls : Array Slot} {rest st0 : List Value} {D : va_G} {ad : Nat → Nat} {kc : Nat → ClassId} {nm z : Nat} {M : Mem} {H0 : Heap}
theorem q_getI (hexec : p.tables.exec = Jvm.exec) (hb : c.code = cc) {own ref C : String} {T : u_T} {N ci index : Nat} {Ts : List Cond} (hts : ∀ w ∈ Ts, w.before args s = true) (hin : ∀ w ∈ u_ws C T N, w ∈ Ts) (hown : s.vm.findClass own = some m.cls) (hK : va_K D vwCl (tysOf kc) s) (hP : va_P D vwCl (wl ad kc nm M) H) {i : Nat} {fk : List Nat} (ob : Ob nm i ci fk) (hc : vwCl[ci]? = some (C, T, N)) (k : Nat) (hk : k < N) (hf : fk[k]? = some 0) (hlink : (Cond.fieldLink own index ref (T k).2.1 (T k).2.2.1).before args s = true) (hsame : ∀ x, s.fieldFound? (T k).1 (T k).2.1 (T k).2.2.1 = some x → s.fieldFound? ref (T k).2.1 (T k).2.2.1 = some x) (hdg : decode cc pc = .ok (.getfield index, 3))
    (kk : W p l e R s m args below meth c H locs cells slots Q (F0 m (pc + 3) ls (.int (gI M i k) :: rest))) : W p l e R s m args below meth c H locs cells slots Q (F0 m pc ls (.ref (ad i) :: rest)) :=
  va_get hexec hb hts hin hown hK hP i (fs := fvs ad M i 0 fk) (by rw [wl_at ob.1, ce_ob ob]) hc k hk hlink hsame (v := .int (gI M i k)) (by rw [fvs_get, hf, Nat.zero_add]; rfl) hdg kk
theorem q_getJ (hexec : p.tables.exec = Jvm.exec) (hb : c.code = cc) {own ref C : String} {T : u_T} {N ci index : Nat} {Ts : List Cond} (hts : ∀ w ∈ Ts, w.before args s = true) (hin : ∀ w ∈ u_ws C T N, w ∈ Ts) (hown : s.vm.findClass own = some m.cls) (hK : va_K D vwCl (tysOf kc) s) (hP : va_P D vwCl (wl ad kc nm M) H) {i : Nat} {fk : List Nat} (ob : Ob nm i ci fk) (hc : vwCl[ci]? = some (C, T, N)) (k : Nat) (hk : k < N) (hf : fk[k]? = some 1) (hlink : (Cond.fieldLink own index ref (T k).2.1 (T k).2.2.1).before args s = true) (hsame : ∀ x, s.fieldFound? (T k).1 (T k).2.1 (T k).2.2.1 = some x → s.fieldFound? ref (T k).2.1 (T k).2.2.1 = some x) (hdg : decode cc pc = .ok (.getfield index, 3))
    (kk : W p l e R s m args below meth c H locs cells slots Q (F0 m (pc + 3) ls (.long (gJ M i k) :: rest))) : W p l e R s m args below meth c H locs cells slots Q (F0 m pc ls (.ref (ad i) :: rest)) :=
  va_get hexec hb hts hin hown hK hP i (fs := fvs ad M i 0 fk) (by rw [wl_at ob.1, ce_ob ob]) hc k hk hlink hsame (v := .long (gJ M i k)) (by rw [fvs_get, hf, Nat.zero_add]; rfl) hdg kk
theorem q_getR (hexec : p.tables.exec = Jvm.exec) (hb : c.code = cc) {own ref C : String} {T : u_T} {N ci index : Nat} {Ts : List Cond} (hts : ∀ w ∈ Ts, w.before args s = true) (hin : ∀ w ∈ u_ws C T N, w ∈ Ts) (hown : s.vm.findClass own = some m.cls) (hK : va_K D vwCl (tysOf kc) s) (hP : va_P D vwCl (wl ad kc nm M) H) {i : Nat} {fk : List Nat} (ob : Ob nm i ci fk) (hc : vwCl[ci]? = some (C, T, N)) (k : Nat) (hk : k < N) {r : Nat} (hf : fk[k]? = some (r + 2)) (hlink : (Cond.fieldLink own index ref (T k).2.1 (T k).2.2.1).before args s = true) (hsame : ∀ x, s.fieldFound? (T k).1 (T k).2.1 (T k).2.2.1 = some x → s.fieldFound? ref (T k).2.1 (T k).2.2.1 = some x) (hdg : decode cc pc = .ok (.getfield index, 3))
    (kk : W p l e R s m args below meth c H locs cells slots Q (F0 m (pc + 3) ls (.ref (ad r) :: rest))) : W p l e R s m args below meth c H locs cells slots Q (F0 m pc ls (.ref (ad i) :: rest)) :=
  va_get hexec hb hts hin hown hK hP i (fs := fvs ad M i 0 fk) (by rw [wl_at ob.1, ce_ob ob]) hc k hk hlink hsame (v := .ref (ad r)) (by rw [fvs_get, hf]; rfl) hdg kk
theorem q_getIN (hexec : p.tables.exec = Jvm.exec) (hb : c.code = cc) {own ref C host : String} {T : u_T} {N ci index : Nat} {Ts : List Cond} (hts : ∀ w ∈ Ts, w.before args s = true) (hin : ∀ w ∈ u_ws C T N, w ∈ Ts) (hown : s.vm.findClass own = some m.cls) (hK : va_K D vwCl (tysOf kc) s) (hP : va_P D vwCl (wl ad kc nm M) H) {i : Nat} {fk : List Nat} (ob : Ob nm i ci fk) (hc : vwCl[ci]? = some (C, T, N)) (k : Nat) (hk : k < N) (hf : fk[k]? = some 0) (hlink : va_Nw (Cond.fieldLinkNest own index ref (T k).2.1 (T k).2.2.1 host) s) (hsame : ∀ x, s.fieldFound? (T k).1 (T k).2.1 (T k).2.2.1 = some x → s.fieldFound? ref (T k).2.1 (T k).2.2.1 = some x) (hdg : decode cc pc = .ok (.getfield index, 3))
    (kk : W p l e R s m args below meth c H locs cells slots Q (F0 m (pc + 3) ls (.int (gI M i k) :: rest))) : W p l e R s m args below meth c H locs cells slots Q (F0 m pc ls (.ref (ad i) :: rest)) :=
  va_getN hexec hb hts hin hown hK hP i (fs := fvs ad M i 0 fk) (by rw [wl_at ob.1, ce_ob ob]) hc k hk (va_Nw.use rfl hlink) hsame (v := .int (gI M i k)) (by rw [fvs_get, hf, Nat.zero_add]; rfl) hdg kk
theorem q_getJN (hexec : p.tables.exec = Jvm.exec) (hb : c.code = cc) {own ref C host : String} {T : u_T} {N ci index : Nat} {Ts : List Cond} (hts : ∀ w ∈ Ts, w.before args s = true) (hin : ∀ w ∈ u_ws C T N, w ∈ Ts) (hown : s.vm.findClass own = some m.cls) (hK : va_K D vwCl (tysOf kc) s) (hP : va_P D vwCl (wl ad kc nm M) H) {i : Nat} {fk : List Nat} (ob : Ob nm i ci fk) (hc : vwCl[ci]? = some (C, T, N)) (k : Nat) (hk : k < N) (hf : fk[k]? = some 1) (hlink : va_Nw (Cond.fieldLinkNest own index ref (T k).2.1 (T k).2.2.1 host) s) (hsame : ∀ x, s.fieldFound? (T k).1 (T k).2.1 (T k).2.2.1 = some x → s.fieldFound? ref (T k).2.1 (T k).2.2.1 = some x) (hdg : decode cc pc = .ok (.getfield index, 3))
    (kk : W p l e R s m args below meth c H locs cells slots Q (F0 m (pc + 3) ls (.long (gJ M i k) :: rest))) : W p l e R s m args below meth c H locs cells slots Q (F0 m pc ls (.ref (ad i) :: rest)) :=
  va_getN hexec hb hts hin hown hK hP i (fs := fvs ad M i 0 fk) (by rw [wl_at ob.1, ce_ob ob]) hc k hk (va_Nw.use rfl hlink) hsame (v := .long (gJ M i k)) (by rw [fvs_get, hf, Nat.zero_add]; rfl) hdg kk
theorem q_putI (hexec : p.tables.exec = Jvm.exec) (hb : c.code = cc) {own ref C : String} {T : u_T} {N ci index : Nat} {Ts : List Cond} (hts : ∀ w ∈ Ts, w.before args s = true) (hin : ∀ w ∈ u_ws C T N, w ∈ Ts) (ty0 : Nat → FieldType) (hty : ∀ k, k < N → parseFieldDescriptor (T k).2.2.1 = some (ty0 k)) (hnm : ∀ a, a < N → ∀ b, b < N → a ≠ b → (T a).2.1 ≠ (T b).2.1) (hown : s.vm.findClass own = some m.cls) (hK : va_K D vwCl (tysOf kc) s) (hP : va_P D vwCl (wl ad kc nm M) H) (hAD : AD ad nm z) (hS0 : va_S (fun q => z ≤ q) H0 H locs) {i : Nat} {fk : List Nat} (ob : Ob nm i ci fk) (hc : vwCl[ci]? = some (C, T, N)) (k : Nat) (hk : k < N) (hf : fk[k]? = some 0) (hlink : (Cond.fieldLink own index ref (T k).2.1 (T k).2.2.1).before args s = true) (hsame : ∀ x, s.fieldFound? (T k).1 (T k).2.1 (T k).2.2.1 = some x → s.fieldFound? ref (T k).2.1 (T k).2.2.1 = some x) (hfin : (T k).2.2.2 = false) {ty : FieldType} {v : Int32} (hd : parseFieldDescriptor (T k).2.2.1 = some ty) (hn : narrow ty (.int v) = .int v) (hfit : fits ty (.int v) = true)
    (hdg : decode cc pc = .ok (.putfield index, 3)) (kk : ∀ (H1 : Heap) (locs1 : List Loc), va_P D vwCl (wl ad kc nm (sI M i k v)) H1 → va_S (fun q => z ≤ q) H0 H1 locs1 → W p l e R s m args below meth c H1 locs1 cells slots Q (F0 m (pc + 3) ls rest)) : W p l e R s m args below meth c H locs cells slots Q (F0 m pc ls (.int v :: .ref (ad i) :: rest)) := by
  have hkl : k < fk.length := (List.getElem?_eq_some_iff.mp hf).1
  refine va_put hexec hb hts hin ty0 hty hnm hown hK hP (wl_D hAD kc M) hS0 i (fs := fvs ad M i 0 fk) (by rw [wl_at ob.1, ce_ob ob]) hc k hk hlink hsame hfin hd hn hfit (by rw [fvs_len]; exact hkl) hdg fun H1 locs1 hP1 _ hS1 => ?_
  rw [fvs_setI v hf, wl_setI (j := k) (v := v) (ce_ob ob)] at hP1
  exact kk H1 locs1 hP1 hS1
theorem q_putJ (hexec : p.tables.exec = Jvm.exec) (hb : c.code = cc) {own ref C : String} {T : u_T} {N ci index : Nat} {Ts : List Cond} (hts : ∀ w ∈ Ts, w.before args s = true) (hin : ∀ w ∈ u_ws C T N, w ∈ Ts) (ty0 : Nat → FieldType) (hty : ∀ k, k < N → parseFieldDescriptor (T k).2.2.1 = some (ty0 k)) (hnm : ∀ a, a < N → ∀ b, b < N → a ≠ b → (T a).2.1 ≠ (T b).2.1) (hown : s.vm.findClass own = some m.cls) (hK : va_K D vwCl (tysOf kc) s) (hP : va_P D vwCl (wl ad kc nm M) H) (hAD : AD ad nm z) (hS0 : va_S (fun q => z ≤ q) H0 H locs) {i : Nat} {fk : List Nat} (ob : Ob nm i ci fk) (hc : vwCl[ci]? = some (C, T, N)) (k : Nat) (hk : k < N) (hf : fk[k]? = some 1) (hlink : (Cond.fieldLink own index ref (T k).2.1 (T k).2.2.1).before args s = true) (hsame : ∀ x, s.fieldFound? (T k).1 (T k).2.1 (T k).2.2.1 = some x → s.fieldFound? ref (T k).2.1 (T k).2.2.1 = some x) (hfin : (T k).2.2.2 = false) {v : Int64} (hd : parseFieldDescriptor (T k).2.2.1 = some .long)
    (hdg : decode cc pc = .ok (.putfield index, 3)) (kk : ∀ (H1 : Heap) (locs1 : List Loc), va_P D vwCl (wl ad kc nm (sJ M i k v)) H1 → va_S (fun q => z ≤ q) H0 H1 locs1 → W p l e R s m args below meth c H1 locs1 cells slots Q (F0 m (pc + 3) ls rest)) : W p l e R s m args below meth c H locs cells slots Q (F0 m pc ls (.long v :: .ref (ad i) :: rest)) := by
  have hkl : k < fk.length := (List.getElem?_eq_some_iff.mp hf).1
  refine va_put hexec hb hts hin ty0 hty hnm hown hK hP (wl_D hAD kc M) hS0 i (fs := fvs ad M i 0 fk) (by rw [wl_at ob.1, ce_ob ob]) hc k hk hlink hsame hfin hd (v := .long v) rfl rfl (by rw [fvs_len]; exact hkl) hdg fun H1 locs1 hP1 _ hS1 => ?_
  rw [fvs_setJ v hf, wl_setJ (j := k) (v := v) (ce_ob ob)] at hP1
  exact kk H1 locs1 hP1 hS1
theorem q_putIN (hexec : p.tables.exec = Jvm.exec) (hb : c.code = cc) {own ref C host : String} {T : u_T} {N ci index : Nat} {Ts : List Cond} (hts : ∀ w ∈ Ts, w.before args s = true) (hin : ∀ w ∈ u_ws C T N, w ∈ Ts) (ty0 : Nat → FieldType) (hty : ∀ k, k < N → parseFieldDescriptor (T k).2.2.1 = some (ty0 k)) (hnm : ∀ a, a < N → ∀ b, b < N → a ≠ b → (T a).2.1 ≠ (T b).2.1) (hown : s.vm.findClass own = some m.cls) (hK : va_K D vwCl (tysOf kc) s) (hP : va_P D vwCl (wl ad kc nm M) H) (hAD : AD ad nm z) (hS0 : va_S (fun q => z ≤ q) H0 H locs) {i : Nat} {fk : List Nat} (ob : Ob nm i ci fk) (hc : vwCl[ci]? = some (C, T, N)) (k : Nat) (hk : k < N) (hf : fk[k]? = some 0) (hlink : va_Nw (Cond.fieldLinkNest own index ref (T k).2.1 (T k).2.2.1 host) s) (hsame : ∀ x, s.fieldFound? (T k).1 (T k).2.1 (T k).2.2.1 = some x → s.fieldFound? ref (T k).2.1 (T k).2.2.1 = some x) (hfin : (T k).2.2.2 = false) {ty : FieldType} {v : Int32} (hd : parseFieldDescriptor (T k).2.2.1 = some ty) (hn : narrow ty (.int v) = .int v) (hfit : fits ty (.int v) = true)
    (hdg : decode cc pc = .ok (.putfield index, 3)) (kk : ∀ (H1 : Heap) (locs1 : List Loc), va_P D vwCl (wl ad kc nm (sI M i k v)) H1 → va_S (fun q => z ≤ q) H0 H1 locs1 → W p l e R s m args below meth c H1 locs1 cells slots Q (F0 m (pc + 3) ls rest)) : W p l e R s m args below meth c H locs cells slots Q (F0 m pc ls (.int v :: .ref (ad i) :: rest)) := by
  have hkl : k < fk.length := (List.getElem?_eq_some_iff.mp hf).1
  refine va_putN hexec hb hts hin ty0 hty hnm hown hK hP (wl_D hAD kc M) hS0 i (fs := fvs ad M i 0 fk) (by rw [wl_at ob.1, ce_ob ob]) hc k hk (va_Nw.use rfl hlink) hsame hfin hd hn hfit (by rw [fvs_len]; exact hkl) hdg fun H1 locs1 hP1 _ hS1 => ?_
  rw [fvs_setI v hf, wl_setI (j := k) (v := v) (ce_ob ob)] at hP1
  exact kk H1 locs1 hP1 hS1
theorem q_iald (hexec : p.tables.exec = Jvm.exec) (hb : c.code = cc) (hK : va_K D vwCl (tysOf kc) s) (hP : va_P D vwCl (wl ad kc nm M) H) {i n : Nat} (ar : Ar nm i 7 n) {j : Int32} (hin : ok j n = true) (hdg : decode cc pc = .ok (.iaload, 1))
    (kk : W p l e R s m args below meth c H locs cells slots Q (F0 m (pc + 1) ls (.int (gI M i (ix j)) :: rest))) : W p l e R s m args below meth c H locs cells slots Q (F0 m pc ls (.int j :: .ref (ad i) :: rest)) :=
  va_iald hexec hb hK hP i 0 (cA := kc 0) (n := n) (f := M.1 i) (by rw [wl_at ar.1, ce_ar7 ar]) rfl (ok_in hin) hdg kk
theorem q_zald (hexec : p.tables.exec = Jvm.exec) (hb : c.code = cc) (hK : va_K D vwCl (tysOf kc) s) (hP : va_P D vwCl (wl ad kc nm M) H) {i n : Nat} (ar : Ar nm i 9 n) {j : Int32} (hin : ok j n = true) (hdg : decode cc pc = .ok (.baload, 1))
    (kk : W p l e R s m args below meth c H locs cells slots Q (F0 m (pc + 1) ls (.int (gI M i (ix j)) :: rest))) : W p l e R s m args below meth c H locs cells slots Q (F0 m pc ls (.int j :: .ref (ad i) :: rest)) :=
  va_zald hexec hb hK hP i 2 (cA := kc 2) (n := n) (f := M.1 i) (by rw [wl_at ar.1, ce_ar9 ar]) rfl (ok_in hin) hdg kk
theorem q_lald (hexec : p.tables.exec = Jvm.exec) (hb : c.code = cc) (hK : va_K D vwCl (tysOf kc) s) (hP : va_P D vwCl (wl ad kc nm M) H) {i n : Nat} (ar : Ar nm i 8 n) {j : Int32} (hin : ok j n = true) (hdg : decode cc pc = .ok (.laload, 1))
    (kk : W p l e R s m args below meth c H locs cells slots Q (F0 m (pc + 1) ls (.long (gJ M i (ix j)) :: rest))) : W p l e R s m args below meth c H locs cells slots Q (F0 m pc ls (.int j :: .ref (ad i) :: rest)) :=
  va_lald hexec hb hK hP i 1 (cA := kc 1) (n := n) (f := M.2 i) (by rw [wl_at ar.1, ce_ar8 ar]) rfl (ok_in hin) hdg kk
theorem q_iast (hexec : p.tables.exec = Jvm.exec) (hb : c.code = cc) (hK : va_K D vwCl (tysOf kc) s) (hP : va_P D vwCl (wl ad kc nm M) H) (hAD : AD ad nm z) (hS : va_S (fun q => z ≤ q) H0 H locs) {i n : Nat} (ar : Ar nm i 7 n) {j x : Int32} (hin : ok j n = true) (hdg : decode cc pc = .ok (.iastore, 1))
    (kk : ∀ (H1 : Heap) (locs1 : List Loc), va_P D vwCl (wl ad kc nm (sI M i (ix j) x)) H1 → va_S (fun q => z ≤ q) H0 H1 locs1 → W p l e R s m args below meth c H1 locs1 cells slots Q (F0 m (pc + 1) ls rest)) : W p l e R s m args below meth c H locs cells slots Q (F0 m pc ls (.int x :: .int j :: .ref (ad i) :: rest)) := by
  refine va_iast hexec hb hK hP (wl_D hAD kc M) hS i 0 (cA := kc 0) (n := n) (f := M.1 i) (by rw [wl_at ar.1, ce_ar7 ar]) rfl (ok_in hin) hdg fun H1 locs1 hP1 _ hS1 => ?_
  rw [wl_setI (j := ix j) (v := x) (by rw [ce_ar7 ar, sI_row]; rfl)] at hP1
  exact kk H1 locs1 hP1 hS1
theorem q_zast (hexec : p.tables.exec = Jvm.exec) (hb : c.code = cc) (hK : va_K D vwCl (tysOf kc) s) (hP : va_P D vwCl (wl ad kc nm M) H) (hAD : AD ad nm z) (hS : va_S (fun q => z ≤ q) H0 H locs) {i n : Nat} (ar : Ar nm i 9 n) {j x : Int32} (hin : ok j n = true) (hdg : decode cc pc = .ok (.bastore, 1))
    (kk : ∀ (H1 : Heap) (locs1 : List Loc), va_P D vwCl (wl ad kc nm (sI M i (ix j) (zb x))) H1 → va_S (fun q => z ≤ q) H0 H1 locs1 → W p l e R s m args below meth c H1 locs1 cells slots Q (F0 m (pc + 1) ls rest)) : W p l e R s m args below meth c H locs cells slots Q (F0 m pc ls (.int x :: .int j :: .ref (ad i) :: rest)) := by
  refine va_zast hexec hb hK hP (wl_D hAD kc M) hS i 2 (cA := kc 2) (n := n) (f := M.1 i) (by rw [wl_at ar.1, ce_ar9 ar]) rfl (ok_in hin) hdg fun H1 locs1 hP1 _ hS1 => ?_
  rw [wl_setI (j := ix j) (v := zb x) (by rw [ce_ar9 ar, sI_row]; rfl)] at hP1
  exact kk H1 locs1 hP1 hS1
theorem q_last (hexec : p.tables.exec = Jvm.exec) (hb : c.code = cc) (hK : va_K D vwCl (tysOf kc) s) (hP : va_P D vwCl (wl ad kc nm M) H) (hAD : AD ad nm z) (hS : va_S (fun q => z ≤ q) H0 H locs) {i n : Nat} (ar : Ar nm i 8 n) {j : Int32} {x : Int64} (hin : ok j n = true) (hdg : decode cc pc = .ok (.lastore, 1))
    (kk : ∀ (H1 : Heap) (locs1 : List Loc), va_P D vwCl (wl ad kc nm (sJ M i (ix j) x)) H1 → va_S (fun q => z ≤ q) H0 H1 locs1 → W p l e R s m args below meth c H1 locs1 cells slots Q (F0 m (pc + 1) ls rest)) : W p l e R s m args below meth c H locs cells slots Q (F0 m pc ls (.long x :: .int j :: .ref (ad i) :: rest)) := by
  refine va_last hexec hb hK hP (wl_D hAD kc M) hS i 1 (cA := kc 1) (n := n) (f := M.2 i) (by rw [wl_at ar.1, ce_ar8 ar]) rfl (ok_in hin) hdg fun H1 locs1 hP1 _ hS1 => ?_
  rw [wl_setJ (j := ix j) (v := x) (by rw [ce_ar8 ar, sJ_row]; rfl)] at hP1
  exact kk H1 locs1 hP1 hS1
theorem q_aldM (hexec : p.tables.exec = Jvm.exec) (hb : c.code = cc) (hK : va_K D vwCl (tysOf kc) s) (hP : va_P D vwCl (wl ad kc nm M) H) {i n : Nat} (ar : Ar nm i 10 n) {j : Int32} (hin : ok j n = true) (hdg : decode cc pc = .ok (.aaload, 1))
    (kn : mr nm j = none → W p l e R s m args below meth c H locs cells slots Q (F0 m (pc + 1) ls (.null :: rest)))
    (ks : ∀ q : Nat, mr nm j = some q → q < nm → W p l e R s m args below meth c H locs cells slots Q (F0 m (pc + 1) ls (.ref (ad (62 + 2 * q)) :: rest))) : W p l e R s m args below meth c H locs cells slots Q (F0 m pc ls (.int j :: .ref (ad i) :: rest)) := by
  refine va_aldq hexec hb hK hP i 3 (cA := kc 3) (n := n) (C := "MirrorNet$Mirror") (f := fun j => if j < nm then some (ad (62 + 2 * j)) else none) (by rw [wl_at ar.1, ce_ar10 ar]) rfl (ok_in hin) hdg ?_
  by_cases h : ix j < nm
  · have hi : j.toNatClampNeg < nm := h
    simp only [hi, if_true]
    exact ks (ix j) (by simp [mr, h]) h
  · have hi : ¬ j.toNatClampNeg < nm := h
    simp only [hi, if_false]
    exact kn (by simp [mr, h])
theorem q_aldA (hexec : p.tables.exec = Jvm.exec) (hb : c.code = cc) (hK : va_K D vwCl (tysOf kc) s) (hP : va_P D vwCl (wl ad kc nm M) H) {i n : Nat} (ar : Ar nm i 11 n) {j : Int32} (hin : ok j n = true) (hdg : decode cc pc = .ok (.aaload, 1))
    (kk : W p l e R s m args below meth c H locs cells slots Q (F0 m (pc + 1) ls (.ref (ad (13 + 3 * ix j)) :: rest))) : W p l e R s m args below meth c H locs cells slots Q (F0 m pc ls (.int j :: .ref (ad i) :: rest)) :=
  va_aldq hexec hb hK hP i 4 (cA := kc 4) (n := n) (C := "MirrorNet$Asker") (f := fun j => some (ad (13 + 3 * j))) (by rw [wl_at ar.1, ce_ar11 ar]) rfl (ok_in hin) hdg kk
theorem okc_spec {sp dp n : Int32} {len : Nat} (h : okc sp dp n len = true) : ¬ sp < 0 ∧ ¬ dp < 0 ∧ ¬ n < 0 ∧ ix sp + ix n ≤ len ∧ ix dp + ix n ≤ len := by
  simpa only [okc, Bool.and_eq_true, decide_eq_true_eq] using h
theorem cpI_row (M : Mem) (i sp dp n : Nat) : (cpI M i sp dp n).1 i = va_cpy (M.1 i) (M.1 i) sp dp n := by
  funext k
  simp [cpI, va_cpy]
theorem cpI_ne (M : Mem) (i sp dp n : Nat) {a : Nat} (h : a ≠ i) : (cpI M i sp dp n).1 a = M.1 a := by
  funext k
  simp [cpI, h]
theorem q_copy (hexec : p.tables.exec = Jvm.exec) (hb : c.code = cc) (hml : c.maxLocals = ls.size) {own : String} {index : Nat} (hown : s.vm.findClass own = some m.cls) (hlink : (Cond.methodLink own index arraycopyName).before args s = true) (hnat : (Cond.native arraycopyName).before args s = true) (hstat : (Cond.static arraycopyName).before args s = true) (hini : (Cond.initialized "java/lang/System").before args s = true) (hK : va_K D vwCl (tysOf kc) s) (hP : va_P D vwCl (wl ad kc nm M) H) (hAD : AD ad nm z) (hS : va_S (fun q => z ≤ q) H0 H locs) {i len : Nat} (ar : Ar nm i 7 len) {sp dp n : Int32} (hin : okc sp dp n len = true)
    (hframes : 1 ≤ R.frames) (hlocals : (rest.map fun v => v.category).sum + (nativeFrameWords "java/lang/System" "arraycopy" 5 + 11) ≤ R.locals) (hdg : decode cc pc = .ok (.invokestatic index, 3))
    (kk : ∀ (H1 : Heap) (locs1 : List Loc), va_P D vwCl (wl ad kc nm (cpI M i (ix sp) (ix dp) (ix n))) H1 → va_S (fun q => z ≤ q) H0 H1 locs1 → W p l e R s m args below meth c H1 locs1 cells slots Q (F0 m (pc + 3) ls rest)) : W p l e R s m args below meth c H locs cells slots Q (F0 m pc ls (.int n :: .int dp :: .ref (ad i) :: .int sp :: .ref (ad i) :: rest)) := by
  obtain ⟨h1, h2, h3, h4, h5⟩ := okc_spec hin
  refine va_copyi hexec hb hml hown hlink hnat hstat hini hK hP (wl_D hAD kc M) hS i i 0 0 (c0 := kc 0) (c1 := kc 0) (n0 := len) (n1 := len) (f := M.1 i) (g := M.1 i) (ty := .int) (by rw [wl_at ar.1, ce_ar7 ar]) (by rw [wl_at ar.1, ce_ar7 ar]) rfl rfl rfl h1 h2 h3 h4 h5 (fun _ _ => rfl) hframes hlocals hdg fun H1 locs1 hP1 _ hS1 => ?_
  rw [wl_set (M' := cpI M i (ix sp) (ix dp) (ix n)) (by rw [ce_ar7 ar, cpI_row]; rfl) (fun a ha => ce_congr (cpI_ne M i _ _ _ ha) rfl)] at hP1
  exact kk H1 locs1 hP1 hS1
/-! answers -/
def QRi (r : Int32) : Array Value → State → Outcome → State → Prop := vp_Si (fun x => x = r)
def QRz (r : Int32) : Array Value → State → Outcome → State → Prop := vp_Si (fun x => x = r ∧ (x = 0 ∨ x = 1))
def QRl (r : Int64) : Array Value → State → Outcome → State → Prop := vp_Sl (fun x => x = r)
def QRm (ad : Nat → Nat) (nm : Nat) (r : Option Nat) : Array Value → State → Outcome → State → Prop := va_Sq (fun x => x = r.map (fun q => ad (62 + 2 * q)) ∧ ∀ q, r = some q → q < nm)
def QRa (ad : Nat → Nat) (r : Option Nat) : Array Value → State → Outcome → State → Prop := va_Sq (fun x => x = r.map (fun q => ad (13 + 3 * q)) ∧ ∀ q, r = some q → q < 6)
def QWi (D : va_G) (ad : Nat → Nat) (kc : Nat → ClassId) (nm z : Nat) (r : Int32) (M : Mem) : Array Value → State → Outcome → State → Prop := va_Qi (fun x (_ : Unit) => x = r) (fun _ t => va_P D vwCl (wl ad kc nm M) t.heap) (fun q => z ≤ q)
def QWz (D : va_G) (ad : Nat → Nat) (kc : Nat → ClassId) (nm z : Nat) (r : Int32) (M : Mem) : Array Value → State → Outcome → State → Prop := va_Qi (fun x (_ : Unit) => x = r ∧ (x = 0 ∨ x = 1)) (fun _ t => va_P D vwCl (wl ad kc nm M) t.heap) (fun q => z ≤ q)
def QWv (D : va_G) (ad : Nat → Nat) (kc : Nat → ClassId) (nm z : Nat) (M : Mem) : Array Value → State → Outcome → State → Prop := va_Qv (fun (_ : Unit) => True) (fun _ t => va_P D vwCl (wl ad kc nm M) t.heap) (fun q => z ≤ q)
theorem q_cRi {r : Int32} {a : Array Value} (hr : va_Run p l e R s m args below meth c H locs cells slots 0 0 (F0 m pc ls st0) rest (QRi r a) (fun _ => False)) (kk : W p l e R s m args below meth c H locs cells slots Q (F0 m (pc + 3) ls (.int r :: rest))) : W p l e R s m args below meth c H locs cells slots Q (F0 m pc ls st0) :=
  vp_callSi hr.run (fun _ h => by subst h; exact kk)
theorem q_cRz {r : Int32} {a : Array Value} (hr : va_Run p l e R s m args below meth c H locs cells slots 0 0 (F0 m pc ls st0) rest (QRz r a) (fun _ => False)) (kk : (r = 0 ∨ r = 1) → W p l e R s m args below meth c H locs cells slots Q (F0 m (pc + 3) ls (.int r :: rest))) : W p l e R s m args below meth c H locs cells slots Q (F0 m pc ls st0) :=
  vp_callSi hr.run (fun _ h => by obtain ⟨h, h2⟩ := h; subst h; exact kk h2)
theorem q_cRl {r : Int64} {a : Array Value} (hr : va_Run p l e R s m args below meth c H locs cells slots 0 0 (F0 m pc ls st0) rest (QRl r a) (fun _ => False)) (kk : W p l e R s m args below meth c H locs cells slots Q (F0 m (pc + 3) ls (.long r :: rest))) : W p l e R s m args below meth c H locs cells slots Q (F0 m pc ls st0) :=
  vp_callSl hr.run (fun _ h => by subst h; exact kk)
theorem q_cRm {r : Option Nat} {a : Array Value} (hr : va_Run p l e R s m args below meth c H locs cells slots 0 0 (F0 m pc ls st0) rest (QRm ad nm r a) (fun _ => False)) (kn : r = none → W p l e R s m args below meth c H locs cells slots Q (F0 m (pc + 3) ls (.null :: rest))) (ks : ∀ q : Nat, r = some q → q < nm → W p l e R s m args below meth c H locs cells slots Q (F0 m (pc + 3) ls (.ref (ad (62 + 2 * q)) :: rest))) : W p l e R s m args below meth c H locs cells slots Q (F0 m pc ls st0) :=
  va_csq hr.run (fun x h => by
    obtain ⟨h1, h2⟩ := h
    subst h1
    cases r with
    | none => exact kn rfl
    | some q => exact ks q rfl (h2 q rfl))
theorem q_cRa {r : Option Nat} {a : Array Value} (hr : va_Run p l e R s m args below meth c H locs cells slots 0 0 (F0 m pc ls st0) rest (QRa ad r a) (fun _ => False)) (kn : r = none → W p l e R s m args below meth c H locs cells slots Q (F0 m (pc + 3) ls (.null :: rest))) (ks : ∀ q : Nat, r = some q → q < 6 → W p l e R s m args below meth c H locs cells slots Q (F0 m (pc + 3) ls (.ref (ad (13 + 3 * q)) :: rest))) : W p l e R s m args below meth c H locs cells slots Q (F0 m pc ls st0) :=
  va_csq hr.run (fun x h => by
    obtain ⟨h1, h2⟩ := h
    subst h1
    cases r with
    | none => exact kn rfl
    | some q => exact ks q rfl (h2 q rfl))
theorem q_cWi {r : Int32} {M1 : Mem} {a : Array Value} (hr : va_Run p l e R s m args below meth c H locs cells slots 0 0 (F0 m pc ls st0) rest (QWi D ad kc nm z r M1 a) (fun q => z ≤ q)) (hS : va_S (fun q => z ≤ q) H0 H locs) (kk : ∀ (H1 : Heap) (locs1 : List Loc), va_P D vwCl (wl ad kc nm M1) H1 → va_S (fun q => z ≤ q) H0 H1 locs1 → W p l e R s m args below meth c H1 locs1 cells slots Q (F0 m (pc + 3) ls (.int r :: rest))) : W p l e R s m args below meth c H locs cells slots Q (F0 m pc ls st0) :=
  va_calli hr hS (fun _ _ h => h) (fun _ h => h) (fun _ _ t H1 locs1 ht _ hw hB _ _ hS1 => by subst hw; exact kk H1 locs1 (by rw [← ht]; exact hB) hS1)
theorem q_cWz {r : Int32} {M1 : Mem} {a : Array Value} (hr : va_Run p l e R s m args below meth c H locs cells slots 0 0 (F0 m pc ls st0) rest (QWz D ad kc nm z r M1 a) (fun q => z ≤ q)) (hS : va_S (fun q => z ≤ q) H0 H locs) (kk : ∀ (H1 : Heap) (locs1 : List Loc), (r = 0 ∨ r = 1) → va_P D vwCl (wl ad kc nm M1) H1 → va_S (fun q => z ≤ q) H0 H1 locs1 → W p l e R s m args below meth c H1 locs1 cells slots Q (F0 m (pc + 3) ls (.int r :: rest))) : W p l e R s m args below meth c H locs cells slots Q (F0 m pc ls st0) :=
  va_calli hr hS (fun _ _ h => h) (fun _ h => h) (fun _ _ t H1 locs1 ht _ hw hB _ _ hS1 => by obtain ⟨hw, hw2⟩ := hw; subst hw; exact kk H1 locs1 hw2 (by rw [← ht]; exact hB) hS1)
theorem q_cWv {M1 : Mem} {a : Array Value} (hr : va_Run p l e R s m args below meth c H locs cells slots 0 0 (F0 m pc ls st0) rest (QWv D ad kc nm z M1 a) (fun q => z ≤ q)) (hS : va_S (fun q => z ≤ q) H0 H locs) (kk : ∀ (H1 : Heap) (locs1 : List Loc), va_P D vwCl (wl ad kc nm M1) H1 → va_S (fun q => z ≤ q) H0 H1 locs1 → W p l e R s m args below meth c H1 locs1 cells slots Q (F0 m (pc + 3) ls rest)) : W p l e R s m args below meth c H locs cells slots Q (F0 m pc ls st0) :=
  va_callv hr hS (fun _ _ h => h) (fun _ h => h) (fun _ t H1 locs1 ht _ _ hB _ _ hS1 => kk H1 locs1 (by rw [← ht]; exact hB) hS1)
/-! returns -/
theorem q_rRi {r v : Int32} (hQ : Q = MQ below (QRi r) args s 0 0 (fun _ => False)) (hexec : p.tables.exec = Jvm.exec) (hb : c.code = cc) (hr : meth.sig.returnType = some .int) (hlk : meth.locks = false) (hv : some v = some r) (hdg : decode cc pc = .ok (.ireturn, 1)) : W p l e R s m args below meth c s.heap [] 0 0 Q (F0 m pc ls [.int v]) := by
  subst hQ
  exact W.iret hexec hb hr (fun t ht _ => ⟨v, rfl, Option.some.inj hv, ht⟩) (fun q h => by cases h) hdg hlk
theorem q_rRz {r v : Int32} (hQ : Q = MQ below (QRz r) args s 0 0 (fun _ => False)) (hexec : p.tables.exec = Jvm.exec) (hb : c.code = cc) (hr : meth.sig.returnType = some .boolean) (hlk : meth.locks = false) (hv : some v = some r) (hz : v = 0 ∨ v = 1) (hdg : decode cc pc = .ok (.ireturn, 1)) : W p l e R s m args below meth c s.heap [] 0 0 Q (F0 m pc ls [.int v]) := by
  subst hQ
  exact W.zret hexec hb hr (nar_b hz) (fun t ht _ => ⟨v, rfl, ⟨Option.some.inj hv, hz⟩, ht⟩) (fun q h => by cases h) hdg hlk
theorem q_rRl {r v : Int64} (hQ : Q = MQ below (QRl r) args s 0 0 (fun _ => False)) (hexec : p.tables.exec = Jvm.exec) (hb : c.code = cc) (hr : meth.sig.returnType = some .long) (hlk : meth.locks = false) (hv : some v = some r) (hdg : decode cc pc = .ok (.lreturn, 1)) : W p l e R s m args below meth c s.heap [] 0 0 Q (F0 m pc ls [.long v]) := by
  subst hQ
  exact W.lret hexec hb hr (fun t ht _ => ⟨v, rfl, Option.some.inj hv, ht⟩) (fun q h => by cases h) hdg hlk
theorem q_rRmN {r : Option Nat} {rt : String} (hQ : Q = MQ below (QRm ad nm r) args s 0 0 (fun _ => False)) (hexec : p.tables.exec = Jvm.exec) (hb : c.code = cc) (hr : meth.sig.returnType = some (.object rt)) (hlk : meth.locks = false) (hv : some (none : Option Nat) = some r) (hdg : decode cc pc = .ok (.areturn, 1)) : W p l e R s m args below meth c s.heap [] 0 0 Q (F0 m pc ls [.null]) := by
  subst hQ
  cases hv
  exact W.aret hexec hb hr (Or.inl ⟨_, rfl⟩) (Or.inl rfl) (fun t ht _ => ⟨none, rfl, ⟨rfl, fun q h => by cases h⟩, ht⟩) (fun q h => by cases h) hdg hlk
theorem q_rRmS {r : Option Nat} {rt : String} {v : Nat} (hQ : Q = MQ below (QRm ad nm r) args s 0 0 (fun _ => False)) (hexec : p.tables.exec = Jvm.exec) (hb : c.code = cc) (hr : meth.sig.returnType = some (.object rt)) (hlk : meth.locks = false) (hv : some (some v) = some r) (hz : v < nm) (hdg : decode cc pc = .ok (.areturn, 1)) : W p l e R s m args below meth c s.heap [] 0 0 Q (F0 m pc ls [.ref (ad (62 + 2 * v))]) := by
  subst hQ
  cases hv
  exact W.aret hexec hb hr (Or.inl ⟨_, rfl⟩) (Or.inr ⟨_, rfl⟩) (fun t ht _ => ⟨some (ad (62 + 2 * v)), rfl, ⟨rfl, fun q h => by cases h; exact hz⟩, ht⟩) (fun q h => by cases h) hdg hlk
theorem q_rRaN {r : Option Nat} {rt : String} (hQ : Q = MQ below (QRa ad r) args s 0 0 (fun _ => False)) (hexec : p.tables.exec = Jvm.exec) (hb : c.code = cc) (hr : meth.sig.returnType = some (.object rt)) (hlk : meth.locks = false) (hv : some (none : Option Nat) = some r) (hdg : decode cc pc = .ok (.areturn, 1)) : W p l e R s m args below meth c s.heap [] 0 0 Q (F0 m pc ls [.null]) := by
  subst hQ
  cases hv
  exact W.aret hexec hb hr (Or.inl ⟨_, rfl⟩) (Or.inl rfl) (fun t ht _ => ⟨none, rfl, ⟨rfl, fun q h => by cases h⟩, ht⟩) (fun q h => by cases h) hdg hlk
theorem q_rRaS {r : Option Nat} {rt : String} {v : Nat} (hQ : Q = MQ below (QRa ad r) args s 0 0 (fun _ => False)) (hexec : p.tables.exec = Jvm.exec) (hb : c.code = cc) (hr : meth.sig.returnType = some (.object rt)) (hlk : meth.locks = false) (hv : some (some v) = some r) (hz : v < 6) (hdg : decode cc pc = .ok (.areturn, 1)) : W p l e R s m args below meth c s.heap [] 0 0 Q (F0 m pc ls [.ref (ad (13 + 3 * v))]) := by
  subst hQ
  cases hv
  exact W.aret hexec hb hr (Or.inl ⟨_, rfl⟩) (Or.inr ⟨_, rfl⟩) (fun t ht _ => ⟨some (ad (13 + 3 * v)), rfl, ⟨rfl, fun q h => by cases h; exact hz⟩, ht⟩) (fun q h => by cases h) hdg hlk
theorem q_rWi {r v : Int32} {M1 : Mem} (hQ : Q = MQ below (QWi D ad kc nm z r M1) args s 0 0 (fun q => z ≤ q)) (hexec : p.tables.exec = Jvm.exec) (hb : c.code = cc) (hr : meth.sig.returnType = some .int) (hlk : meth.locks = false) (hP : va_P D vwCl (wl ad kc nm M) H) (hS : va_S (fun q => z ≤ q) s.heap H locs) (hv : some (v, M) = some (r, M1)) (hdg : decode cc pc = .ok (.ireturn, 1)) : W p l e R s m args below meth c H locs 0 0 Q (F0 m pc ls [.int v]) := by
  subst hQ
  cases hv
  exact W.iret hexec hb hr (fun t ht _ => ⟨⟨v, (), rfl, rfl, by rw [ht]; exact hP⟩, hS.F ht⟩) hS.2.2 hdg hlk
theorem q_rWz {r v : Int32} {M1 : Mem} (hQ : Q = MQ below (QWz D ad kc nm z r M1) args s 0 0 (fun q => z ≤ q)) (hexec : p.tables.exec = Jvm.exec) (hb : c.code = cc) (hr : meth.sig.returnType = some .boolean) (hlk : meth.locks = false) (hP : va_P D vwCl (wl ad kc nm M) H) (hS : va_S (fun q => z ≤ q) s.heap H locs) (hv : some (v, M) = some (r, M1)) (hz : v = 0 ∨ v = 1) (hdg : decode cc pc = .ok (.ireturn, 1)) : W p l e R s m args below meth c H locs 0 0 Q (F0 m pc ls [.int v]) := by
  subst hQ
  cases hv
  exact W.zret hexec hb hr (nar_b hz) (fun t ht _ => ⟨⟨v, (), rfl, ⟨rfl, hz⟩, by rw [ht]; exact hP⟩, hS.F ht⟩) hS.2.2 hdg hlk
theorem q_rWv {M1 : Mem} (hQ : Q = MQ below (QWv D ad kc nm z M1) args s 0 0 (fun q => z ≤ q)) (hexec : p.tables.exec = Jvm.exec) (hb : c.code = cc) (hr : meth.sig.returnType = none) (hlk : meth.locks = false) (hP : va_P D vwCl (wl ad kc nm M) H) (hS : va_S (fun q => z ≤ q) s.heap H locs) (hv : some M = some M1) (hdg : decode cc pc = .ok (.return_, 1)) : W p l e R s m args below meth c H locs 0 0 Q (F0 m pc ls []) := by
  subst hQ
  cases hv
  exact W.vret hexec hb hr (fun t ht _ => ⟨⟨(), rfl, trivial, by rw [ht]; exact hP⟩, hS.F ht⟩) hS.2.2 hdg hlk
end RowQ
/-- a contract out of a walk from pc 0 -/
theorem q_met {l : Launch} {y : MethodName} {ws ws' : List Cond} {rm : Room} {av : List Value} {B : State → Prop} {Qc : Array Value → State → Outcome → State → Prop} {mc ms : Nat} {free : Addr → Prop} {cc : ByteArray} {maxL : Nat} {ret : Option FieldType}
    (hy : plainName y.cls = true) (hw : ws = Cond.code y cc maxL ret :: ws') (hlen : (lg_sl av).length ≤ maxL)
    (body : ∀ (p : Program) (e : Env) (s : State) (m : MethodId) (args : Array Value) (below : List Frame) (meth : Method) (c : Code) (Q : State → Prop) (ls : Array Slot), p.tables.exec = Jvm.exec → c.code = cc → meth.sig.returnType = ret → meth.locks = false → c.maxLocals = maxL → s.vm.findClass y.cls = some m.cls → (∀ w ∈ ws, w.before args s = true) → B s → Q = MQ below Qc args s mc ms free → lv_has ls maxL (lv_args 0 av) →
      W p l e rm s m args below meth c s.heap [] 0 0 Q (F0 m 0 ls [])) : Met l y ws rm (va_Pc av B) Qc mc ms free := by
  refine Met.ofW (cc := cc) (maxL := maxL) (ret := ret) hy hw ?_
  intro p e s m args below meth c s₁ B0 hml hv
  obtain ⟨ha, hB⟩ := hv
  have hl := lv_entry av (n := maxL) hlen
  refine W.eq (g2 := F0 m 0 ((lg_sl av ++ List.replicate (maxL - (lg_sl av).length) Slot.unset).toArray) []) ?_ ?_
  · rw [ha, lg_entry_eq]
  · exact body p e s m args below meth c _ _ B0.exec B0.bytes B0.returns B0.notSynchronized hml (findClass_of_methodNamed B0.named) (atoms_spec (ws := ws) B0.pre) hB rfl hl
end
