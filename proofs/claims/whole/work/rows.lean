section
-- ===== PART A: goes FIRST, ahead of the names: the tables' words, and 'selects' of the private methods out of them =====
/-- a private method of a class that the tables say can be made, by its rows of tables_1 -/
def lw_okq (q : MethodName × Nat) : Prop := (q.1.cls ≠ "java/lang/invoke/MethodHandle" ∧ q.1.cls ≠ "java/lang/invoke/VarHandle") ∧ Cond.instantiable q.1.cls q.2 ∈ tables_1 ∧ Cond.privateMethod q.1 ∈ tables_1 ∧ Cond.instanceMethod q.1 ∈ tables_1
theorem lw_p0 : lw_okq (⟨"AvoidColours$Task", "start", "(II)V"⟩, 7) := ⟨⟨by decide +kernel, by decide +kernel⟩, List.mem_of_getElem? (i := 40) (by decide +kernel), List.mem_of_getElem? (i := 196) (by decide +kernel), List.mem_of_getElem? (i := 197) (by decide +kernel)⟩
theorem lw_p1 : lw_okq (⟨"AvoidColours$Task", "unpin", "()V"⟩, 7) := ⟨⟨by decide +kernel, by decide +kernel⟩, List.mem_of_getElem? (i := 40) (by decide +kernel), List.mem_of_getElem? (i := 200) (by decide +kernel), List.mem_of_getElem? (i := 201) (by decide +kernel)⟩
theorem lw_p2 : lw_okq (⟨"AvoidColours", "settle", "(LAvoidColours$Task;)I"⟩, 9) := ⟨⟨by decide +kernel, by decide +kernel⟩, List.mem_of_getElem? (i := 14) (by decide +kernel), List.mem_of_getElem? (i := 207) (by decide +kernel), List.mem_of_getElem? (i := 208) (by decide +kernel)⟩
theorem lw_p3 : lw_okq (⟨"AvoidColours$Walk", "survey", "(LAvoidColours$Task;I)V"⟩, 15) := ⟨⟨by decide +kernel, by decide +kernel⟩, List.mem_of_getElem? (i := 100) (by decide +kernel), List.mem_of_getElem? (i := 211) (by decide +kernel), List.mem_of_getElem? (i := 212) (by decide +kernel)⟩
theorem lw_p4 : lw_okq (⟨"AvoidColours$Walk", "begin", "(LAvoidColours$Task;)V"⟩, 15) := ⟨⟨by decide +kernel, by decide +kernel⟩, List.mem_of_getElem? (i := 100) (by decide +kernel), List.mem_of_getElem? (i := 215) (by decide +kernel), List.mem_of_getElem? (i := 216) (by decide +kernel)⟩
theorem lw_p5 : lw_okq (⟨"AvoidColours$Task", "copy", "(LAvoidColours$Task;)V"⟩, 7) := ⟨⟨by decide +kernel, by decide +kernel⟩, List.mem_of_getElem? (i := 40) (by decide +kernel), List.mem_of_getElem? (i := 219) (by decide +kernel), List.mem_of_getElem? (i := 220) (by decide +kernel)⟩
theorem lw_p6 : lw_okq (⟨"AvoidColours$Clashes", "fit", "(LAvoidColours$Task;)V"⟩, 2) := ⟨⟨by decide +kernel, by decide +kernel⟩, List.mem_of_getElem? (i := 124) (by decide +kernel), List.mem_of_getElem? (i := 226) (by decide +kernel), List.mem_of_getElem? (i := 227) (by decide +kernel)⟩
theorem lw_p7 : lw_okq (⟨"AvoidColours$Clashes", "sameEquations", "(LAvoidColours$Task;)Z"⟩, 2) := ⟨⟨by decide +kernel, by decide +kernel⟩, List.mem_of_getElem? (i := 124) (by decide +kernel), List.mem_of_getElem? (i := 230) (by decide +kernel), List.mem_of_getElem? (i := 231) (by decide +kernel)⟩
theorem lw_p8 : lw_okq (⟨"AvoidColours$Task", "third", "(IIII)I"⟩, 7) := ⟨⟨by decide +kernel, by decide +kernel⟩, List.mem_of_getElem? (i := 40) (by decide +kernel), List.mem_of_getElem? (i := 236) (by decide +kernel), List.mem_of_getElem? (i := 237) (by decide +kernel)⟩
theorem lw_p9 : lw_okq (⟨"AvoidColours$Clashes", "spread", "()V"⟩, 2) := ⟨⟨by decide +kernel, by decide +kernel⟩, List.mem_of_getElem? (i := 124) (by decide +kernel), List.mem_of_getElem? (i := 240) (by decide +kernel), List.mem_of_getElem? (i := 241) (by decide +kernel)⟩
theorem lw_p10 : lw_okq (⟨"AvoidColours$Task", "has", "(I)Z"⟩, 7) := ⟨⟨by decide +kernel, by decide +kernel⟩, List.mem_of_getElem? (i := 40) (by decide +kernel), List.mem_of_getElem? (i := 251) (by decide +kernel), List.mem_of_getElem? (i := 252) (by decide +kernel)⟩
theorem lw_p11 : lw_okq (⟨"AvoidColours$Walk", "arrive", "()V"⟩, 15) := ⟨⟨by decide +kernel, by decide +kernel⟩, List.mem_of_getElem? (i := 100) (by decide +kernel), List.mem_of_getElem? (i := 255) (by decide +kernel), List.mem_of_getElem? (i := 256) (by decide +kernel)⟩
theorem lw_p12 : lw_okq (⟨"AvoidColours$Task", "hasClasses", "([I)Z"⟩, 7) := ⟨⟨by decide +kernel, by decide +kernel⟩, List.mem_of_getElem? (i := 40) (by decide +kernel), List.mem_of_getElem? (i := 260) (by decide +kernel), List.mem_of_getElem? (i := 261) (by decide +kernel)⟩
theorem lw_p13 : lw_okq (⟨"AvoidColours$Sightings", "agree", "([II)Z"⟩, 3) := ⟨⟨by decide +kernel, by decide +kernel⟩, List.mem_of_getElem? (i := 106) (by decide +kernel), List.mem_of_getElem? (i := 264) (by decide +kernel), List.mem_of_getElem? (i := 265) (by decide +kernel)⟩
theorem lw_p14 : lw_okq (⟨"AvoidColours$Walk", "put", "(II)Z"⟩, 15) := ⟨⟨by decide +kernel, by decide +kernel⟩, List.mem_of_getElem? (i := 100) (by decide +kernel), List.mem_of_getElem? (i := 268) (by decide +kernel), List.mem_of_getElem? (i := 269) (by decide +kernel)⟩
theorem lw_p15 : lw_okq (⟨"AvoidColours$Task", "allows", "(II)Z"⟩, 7) := ⟨⟨by decide +kernel, by decide +kernel⟩, List.mem_of_getElem? (i := 40) (by decide +kernel), List.mem_of_getElem? (i := 272) (by decide +kernel), List.mem_of_getElem? (i := 273) (by decide +kernel)⟩
def lw_privs_1 : List (MethodName × Nat) := [(⟨"AvoidColours$Task", "start", "(II)V"⟩, 7), (⟨"AvoidColours$Task", "unpin", "()V"⟩, 7), (⟨"AvoidColours", "settle", "(LAvoidColours$Task;)I"⟩, 9), (⟨"AvoidColours$Walk", "survey", "(LAvoidColours$Task;I)V"⟩, 15), (⟨"AvoidColours$Walk", "begin", "(LAvoidColours$Task;)V"⟩, 15), (⟨"AvoidColours$Task", "copy", "(LAvoidColours$Task;)V"⟩, 7), (⟨"AvoidColours$Clashes", "fit", "(LAvoidColours$Task;)V"⟩, 2), (⟨"AvoidColours$Clashes", "sameEquations", "(LAvoidColours$Task;)Z"⟩, 2), (⟨"AvoidColours$Task", "third", "(IIII)I"⟩, 7), (⟨"AvoidColours$Clashes", "spread", "()V"⟩, 2), (⟨"AvoidColours$Task", "has", "(I)Z"⟩, 7), (⟨"AvoidColours$Walk", "arrive", "()V"⟩, 15), (⟨"AvoidColours$Task", "hasClasses", "([I)Z"⟩, 7), (⟨"AvoidColours$Sightings", "agree", "([II)Z"⟩, 3), (⟨"AvoidColours$Walk", "put", "(II)Z"⟩, 15), (⟨"AvoidColours$Task", "allows", "(II)Z"⟩, 7)]
theorem lw_r1 : ∀ q ∈ lw_privs_1, lw_okq q := List.forall_mem_cons.mpr ⟨lw_p0, List.forall_mem_cons.mpr ⟨lw_p1, List.forall_mem_cons.mpr ⟨lw_p2, List.forall_mem_cons.mpr ⟨lw_p3, List.forall_mem_cons.mpr ⟨lw_p4, List.forall_mem_cons.mpr ⟨lw_p5, List.forall_mem_cons.mpr ⟨lw_p6, List.forall_mem_cons.mpr ⟨lw_p7, List.forall_mem_cons.mpr ⟨lw_p8, List.forall_mem_cons.mpr ⟨lw_p9, List.forall_mem_cons.mpr ⟨lw_p10, List.forall_mem_cons.mpr ⟨lw_p11, List.forall_mem_cons.mpr ⟨lw_p12, List.forall_mem_cons.mpr ⟨lw_p13, List.forall_mem_cons.mpr ⟨lw_p14, List.forall_mem_cons.mpr ⟨lw_p15, fun _ h => absurd h List.not_mem_nil⟩⟩⟩⟩⟩⟩⟩⟩⟩⟩⟩⟩⟩⟩⟩⟩
theorem lw_p16 : lw_okq (⟨"AvoidColours$Clashes", "in", "(I)I"⟩, 2) := ⟨⟨by decide +kernel, by decide +kernel⟩, List.mem_of_getElem? (i := 124) (by decide +kernel), List.mem_of_getElem? (i := 276) (by decide +kernel), List.mem_of_getElem? (i := 277) (by decide +kernel)⟩
theorem lw_p17 : lw_okq (⟨"AvoidColours$Walk", "lift", "(II)V"⟩, 15) := ⟨⟨by decide +kernel, by decide +kernel⟩, List.mem_of_getElem? (i := 100) (by decide +kernel), List.mem_of_getElem? (i := 280) (by decide +kernel), List.mem_of_getElem? (i := 281) (by decide +kernel)⟩
theorem lw_p18 : lw_okq (⟨"AvoidColours$Walk", "allow", "(IIZ)V"⟩, 15) := ⟨⟨by decide +kernel, by decide +kernel⟩, List.mem_of_getElem? (i := 100) (by decide +kernel), List.mem_of_getElem? (i := 284) (by decide +kernel), List.mem_of_getElem? (i := 285) (by decide +kernel)⟩
theorem lw_p19 : lw_okq (⟨"AvoidColours$Task", "recolour", "([IZ)V"⟩, 7) := ⟨⟨by decide +kernel, by decide +kernel⟩, List.mem_of_getElem? (i := 40) (by decide +kernel), List.mem_of_getElem? (i := 288) (by decide +kernel), List.mem_of_getElem? (i := 289) (by decide +kernel)⟩
theorem lw_p20 : lw_okq (⟨"AvoidColours$Text", "append", "(I)Z"⟩, 3) := ⟨⟨by decide +kernel, by decide +kernel⟩, List.mem_of_getElem? (i := 22) (by decide +kernel), List.mem_of_getElem? (i := 324) (by decide +kernel), List.mem_of_getElem? (i := 325) (by decide +kernel)⟩
theorem lw_p21 : lw_okq (⟨"AvoidColours$Text", "read", "(LAvoidColours$Task;)I"⟩, 3) := ⟨⟨by decide +kernel, by decide +kernel⟩, List.mem_of_getElem? (i := 22) (by decide +kernel), List.mem_of_getElem? (i := 336) (by decide +kernel), List.mem_of_getElem? (i := 337) (by decide +kernel)⟩
theorem lw_p22 : lw_okq (⟨"AvoidColours$Text", "readHead", "(LAvoidColours$Task;)Z"⟩, 3) := ⟨⟨by decide +kernel, by decide +kernel⟩, List.mem_of_getElem? (i := 22) (by decide +kernel), List.mem_of_getElem? (i := 340) (by decide +kernel), List.mem_of_getElem? (i := 341) (by decide +kernel)⟩
theorem lw_p23 : lw_okq (⟨"AvoidColours$Text", "accept", "(II)I"⟩, 3) := ⟨⟨by decide +kernel, by decide +kernel⟩, List.mem_of_getElem? (i := 22) (by decide +kernel), List.mem_of_getElem? (i := 344) (by decide +kernel), List.mem_of_getElem? (i := 345) (by decide +kernel)⟩
theorem lw_p24 : lw_okq (⟨"AvoidColours$Text", "readPart", "(LAvoidColours$Task;)Z"⟩, 3) := ⟨⟨by decide +kernel, by decide +kernel⟩, List.mem_of_getElem? (i := 22) (by decide +kernel), List.mem_of_getElem? (i := 349) (by decide +kernel), List.mem_of_getElem? (i := 350) (by decide +kernel)⟩
theorem lw_p25 : lw_okq (⟨"AvoidColours$Text", "readEquation", "(LAvoidColours$Task;)Z"⟩, 3) := ⟨⟨by decide +kernel, by decide +kernel⟩, List.mem_of_getElem? (i := 22) (by decide +kernel), List.mem_of_getElem? (i := 353) (by decide +kernel), List.mem_of_getElem? (i := 354) (by decide +kernel)⟩
theorem lw_p26 : lw_okq (⟨"AvoidColours$Text", "readFactor", "()I"⟩, 3) := ⟨⟨by decide +kernel, by decide +kernel⟩, List.mem_of_getElem? (i := 22) (by decide +kernel), List.mem_of_getElem? (i := 357) (by decide +kernel), List.mem_of_getElem? (i := 358) (by decide +kernel)⟩
theorem lw_p27 : lw_okq (⟨"AvoidColours$Task", "append", "(IIII)V"⟩, 7) := ⟨⟨by decide +kernel, by decide +kernel⟩, List.mem_of_getElem? (i := 40) (by decide +kernel), List.mem_of_getElem? (i := 361) (by decide +kernel), List.mem_of_getElem? (i := 362) (by decide +kernel)⟩
theorem lw_p28 : lw_okq (⟨"AvoidColours$Task", "pinned", "()I"⟩, 7) := ⟨⟨by decide +kernel, by decide +kernel⟩, List.mem_of_getElem? (i := 40) (by decide +kernel), List.mem_of_getElem? (i := 365) (by decide +kernel), List.mem_of_getElem? (i := 366) (by decide +kernel)⟩
theorem lw_p29 : lw_okq (⟨"AvoidColours$Task", "pinOf", "(I)I"⟩, 7) := ⟨⟨by decide +kernel, by decide +kernel⟩, List.mem_of_getElem? (i := 40) (by decide +kernel), List.mem_of_getElem? (i := 369) (by decide +kernel), List.mem_of_getElem? (i := 370) (by decide +kernel)⟩
theorem lw_p30 : lw_okq (⟨"AvoidColours$Text", "readPin", "(LAvoidColours$Task;)Z"⟩, 3) := ⟨⟨by decide +kernel, by decide +kernel⟩, List.mem_of_getElem? (i := 22) (by decide +kernel), List.mem_of_getElem? (i := 373) (by decide +kernel), List.mem_of_getElem? (i := 374) (by decide +kernel)⟩
theorem lw_p31 : lw_okq (⟨"AvoidColours$Text", "readNumber", "(LAvoidColours$Task;)I"⟩, 3) := ⟨⟨by decide +kernel, by decide +kernel⟩, List.mem_of_getElem? (i := 22) (by decide +kernel), List.mem_of_getElem? (i := 377) (by decide +kernel), List.mem_of_getElem? (i := 378) (by decide +kernel)⟩
def lw_privs_2 : List (MethodName × Nat) := [(⟨"AvoidColours$Clashes", "in", "(I)I"⟩, 2), (⟨"AvoidColours$Walk", "lift", "(II)V"⟩, 15), (⟨"AvoidColours$Walk", "allow", "(IIZ)V"⟩, 15), (⟨"AvoidColours$Task", "recolour", "([IZ)V"⟩, 7), (⟨"AvoidColours$Text", "append", "(I)Z"⟩, 3), (⟨"AvoidColours$Text", "read", "(LAvoidColours$Task;)I"⟩, 3), (⟨"AvoidColours$Text", "readHead", "(LAvoidColours$Task;)Z"⟩, 3), (⟨"AvoidColours$Text", "accept", "(II)I"⟩, 3), (⟨"AvoidColours$Text", "readPart", "(LAvoidColours$Task;)Z"⟩, 3), (⟨"AvoidColours$Text", "readEquation", "(LAvoidColours$Task;)Z"⟩, 3), (⟨"AvoidColours$Text", "readFactor", "()I"⟩, 3), (⟨"AvoidColours$Task", "append", "(IIII)V"⟩, 7), (⟨"AvoidColours$Task", "pinned", "()I"⟩, 7), (⟨"AvoidColours$Task", "pinOf", "(I)I"⟩, 7), (⟨"AvoidColours$Text", "readPin", "(LAvoidColours$Task;)Z"⟩, 3), (⟨"AvoidColours$Text", "readNumber", "(LAvoidColours$Task;)I"⟩, 3)]
theorem lw_r2 : ∀ q ∈ lw_privs_2, lw_okq q := List.forall_mem_cons.mpr ⟨lw_p16, List.forall_mem_cons.mpr ⟨lw_p17, List.forall_mem_cons.mpr ⟨lw_p18, List.forall_mem_cons.mpr ⟨lw_p19, List.forall_mem_cons.mpr ⟨lw_p20, List.forall_mem_cons.mpr ⟨lw_p21, List.forall_mem_cons.mpr ⟨lw_p22, List.forall_mem_cons.mpr ⟨lw_p23, List.forall_mem_cons.mpr ⟨lw_p24, List.forall_mem_cons.mpr ⟨lw_p25, List.forall_mem_cons.mpr ⟨lw_p26, List.forall_mem_cons.mpr ⟨lw_p27, List.forall_mem_cons.mpr ⟨lw_p28, List.forall_mem_cons.mpr ⟨lw_p29, List.forall_mem_cons.mpr ⟨lw_p30, List.forall_mem_cons.mpr ⟨lw_p31, fun _ h => absurd h List.not_mem_nil⟩⟩⟩⟩⟩⟩⟩⟩⟩⟩⟩⟩⟩⟩⟩⟩
theorem lw_p32 : lw_okq (⟨"AvoidColours$Task", "free", "(I)Z"⟩, 7) := ⟨⟨by decide +kernel, by decide +kernel⟩, List.mem_of_getElem? (i := 40) (by decide +kernel), List.mem_of_getElem? (i := 384) (by decide +kernel), List.mem_of_getElem? (i := 385) (by decide +kernel)⟩
theorem lw_p33 : lw_okq (⟨"AvoidColours$Task", "setPin", "(II)V"⟩, 7) := ⟨⟨by decide +kernel, by decide +kernel⟩, List.mem_of_getElem? (i := 40) (by decide +kernel), List.mem_of_getElem? (i := 388) (by decide +kernel), List.mem_of_getElem? (i := 389) (by decide +kernel)⟩
theorem lw_p34 : lw_okq (⟨"AvoidColours$Task", "hasColour", "(I)Z"⟩, 7) := ⟨⟨by decide +kernel, by decide +kernel⟩, List.mem_of_getElem? (i := 40) (by decide +kernel), List.mem_of_getElem? (i := 393) (by decide +kernel), List.mem_of_getElem? (i := 394) (by decide +kernel)⟩
theorem lw_p35 : lw_okq (⟨"AvoidColours$History", "forget", "()V"⟩, 3) := ⟨⟨by decide +kernel, by decide +kernel⟩, List.mem_of_getElem? (i := 81) (by decide +kernel), List.mem_of_getElem? (i := 402) (by decide +kernel), List.mem_of_getElem? (i := 403) (by decide +kernel)⟩
theorem lw_p36 : lw_okq (⟨"AvoidColours", "slotAt", "(I)LAvoidColours$Task;"⟩, 9) := ⟨⟨by decide +kernel, by decide +kernel⟩, List.mem_of_getElem? (i := 14) (by decide +kernel), List.mem_of_getElem? (i := 406) (by decide +kernel), List.mem_of_getElem? (i := 407) (by decide +kernel)⟩
theorem lw_p37 : lw_okq (⟨"AvoidColours$Task", "hasEquation", "(I)Z"⟩, 7) := ⟨⟨by decide +kernel, by decide +kernel⟩, List.mem_of_getElem? (i := 40) (by decide +kernel), List.mem_of_getElem? (i := 417) (by decide +kernel), List.mem_of_getElem? (i := 418) (by decide +kernel)⟩
theorem lw_p38 : lw_okq (⟨"AvoidColours$Task", "part", "(II)I"⟩, 7) := ⟨⟨by decide +kernel, by decide +kernel⟩, List.mem_of_getElem? (i := 40) (by decide +kernel), List.mem_of_getElem? (i := 421) (by decide +kernel), List.mem_of_getElem? (i := 422) (by decide +kernel)⟩
theorem lw_p39 : lw_okq (⟨"AvoidColours$Task", "regular", "(I)Z"⟩, 7) := ⟨⟨by decide +kernel, by decide +kernel⟩, List.mem_of_getElem? (i := 40) (by decide +kernel), List.mem_of_getElem? (i := 426) (by decide +kernel), List.mem_of_getElem? (i := 427) (by decide +kernel)⟩
theorem lw_p40 : lw_okq (⟨"AvoidColours$Task", "solutions", "(I)I"⟩, 7) := ⟨⟨by decide +kernel, by decide +kernel⟩, List.mem_of_getElem? (i := 40) (by decide +kernel), List.mem_of_getElem? (i := 431) (by decide +kernel), List.mem_of_getElem? (i := 432) (by decide +kernel)⟩
theorem lw_p41 : lw_okq (⟨"AvoidColours$Task", "solutionAt", "(II)I"⟩, 7) := ⟨⟨by decide +kernel, by decide +kernel⟩, List.mem_of_getElem? (i := 40) (by decide +kernel), List.mem_of_getElem? (i := 440) (by decide +kernel), List.mem_of_getElem? (i := 441) (by decide +kernel)⟩
theorem lw_p42 : lw_okq (⟨"AvoidColours$Task", "colourOf", "(I)I"⟩, 7) := ⟨⟨by decide +kernel, by decide +kernel⟩, List.mem_of_getElem? (i := 40) (by decide +kernel), List.mem_of_getElem? (i := 449) (by decide +kernel), List.mem_of_getElem? (i := 450) (by decide +kernel)⟩
theorem lw_p43 : lw_okq (⟨"AvoidColours$Task", "classOf", "(I)I"⟩, 7) := ⟨⟨by decide +kernel, by decide +kernel⟩, List.mem_of_getElem? (i := 40) (by decide +kernel), List.mem_of_getElem? (i := 453) (by decide +kernel), List.mem_of_getElem? (i := 454) (by decide +kernel)⟩
theorem lw_p44 : lw_okq (⟨"AvoidColours$Walk", "possibleOf", "(I)I"⟩, 15) := ⟨⟨by decide +kernel, by decide +kernel⟩, List.mem_of_getElem? (i := 100) (by decide +kernel), List.mem_of_getElem? (i := 458) (by decide +kernel), List.mem_of_getElem? (i := 459) (by decide +kernel)⟩
theorem lw_p45 : lw_okq (⟨"AvoidColours$Walk", "forces", "(I)Z"⟩, 15) := ⟨⟨by decide +kernel, by decide +kernel⟩, List.mem_of_getElem? (i := 100) (by decide +kernel), List.mem_of_getElem? (i := 462) (by decide +kernel), List.mem_of_getElem? (i := 463) (by decide +kernel)⟩
theorem lw_p46 : lw_okq (⟨"AvoidColours$History", "remember", "(LAvoidColours$Task;)V"⟩, 3) := ⟨⟨by decide +kernel, by decide +kernel⟩, List.mem_of_getElem? (i := 81) (by decide +kernel), List.mem_of_getElem? (i := 477) (by decide +kernel), List.mem_of_getElem? (i := 478) (by decide +kernel)⟩
theorem lw_p47 : lw_okq (⟨"AvoidColours$History", "at", "(I)LAvoidColours$Task;"⟩, 3) := ⟨⟨by decide +kernel, by decide +kernel⟩, List.mem_of_getElem? (i := 81) (by decide +kernel), List.mem_of_getElem? (i := 481) (by decide +kernel), List.mem_of_getElem? (i := 482) (by decide +kernel)⟩
def lw_privs_3 : List (MethodName × Nat) := [(⟨"AvoidColours$Task", "free", "(I)Z"⟩, 7), (⟨"AvoidColours$Task", "setPin", "(II)V"⟩, 7), (⟨"AvoidColours$Task", "hasColour", "(I)Z"⟩, 7), (⟨"AvoidColours$History", "forget", "()V"⟩, 3), (⟨"AvoidColours", "slotAt", "(I)LAvoidColours$Task;"⟩, 9), (⟨"AvoidColours$Task", "hasEquation", "(I)Z"⟩, 7), (⟨"AvoidColours$Task", "part", "(II)I"⟩, 7), (⟨"AvoidColours$Task", "regular", "(I)Z"⟩, 7), (⟨"AvoidColours$Task", "solutions", "(I)I"⟩, 7), (⟨"AvoidColours$Task", "solutionAt", "(II)I"⟩, 7), (⟨"AvoidColours$Task", "colourOf", "(I)I"⟩, 7), (⟨"AvoidColours$Task", "classOf", "(I)I"⟩, 7), (⟨"AvoidColours$Walk", "possibleOf", "(I)I"⟩, 15), (⟨"AvoidColours$Walk", "forces", "(I)Z"⟩, 15), (⟨"AvoidColours$History", "remember", "(LAvoidColours$Task;)V"⟩, 3), (⟨"AvoidColours$History", "at", "(I)LAvoidColours$Task;"⟩, 3)]
theorem lw_r3 : ∀ q ∈ lw_privs_3, lw_okq q := List.forall_mem_cons.mpr ⟨lw_p32, List.forall_mem_cons.mpr ⟨lw_p33, List.forall_mem_cons.mpr ⟨lw_p34, List.forall_mem_cons.mpr ⟨lw_p35, List.forall_mem_cons.mpr ⟨lw_p36, List.forall_mem_cons.mpr ⟨lw_p37, List.forall_mem_cons.mpr ⟨lw_p38, List.forall_mem_cons.mpr ⟨lw_p39, List.forall_mem_cons.mpr ⟨lw_p40, List.forall_mem_cons.mpr ⟨lw_p41, List.forall_mem_cons.mpr ⟨lw_p42, List.forall_mem_cons.mpr ⟨lw_p43, List.forall_mem_cons.mpr ⟨lw_p44, List.forall_mem_cons.mpr ⟨lw_p45, List.forall_mem_cons.mpr ⟨lw_p46, List.forall_mem_cons.mpr ⟨lw_p47, fun _ h => absurd h List.not_mem_nil⟩⟩⟩⟩⟩⟩⟩⟩⟩⟩⟩⟩⟩⟩⟩⟩
theorem lw_p48 : lw_okq (⟨"AvoidColours$Task", "alike", "([I)I"⟩, 7) := ⟨⟨by decide +kernel, by decide +kernel⟩, List.mem_of_getElem? (i := 40) (by decide +kernel), List.mem_of_getElem? (i := 489) (by decide +kernel), List.mem_of_getElem? (i := 490) (by decide +kernel)⟩
theorem lw_p49 : lw_okq (⟨"AvoidColours", "refusalOfPaint", "(LAvoidColours$Task;II)I"⟩, 9) := ⟨⟨by decide +kernel, by decide +kernel⟩, List.mem_of_getElem? (i := 14) (by decide +kernel), List.mem_of_getElem? (i := 498) (by decide +kernel), List.mem_of_getElem? (i := 499) (by decide +kernel)⟩
theorem lw_p50 : lw_okq (⟨"AvoidColours$Task", "repaint", "(II)V"⟩, 7) := ⟨⟨by decide +kernel, by decide +kernel⟩, List.mem_of_getElem? (i := 40) (by decide +kernel), List.mem_of_getElem? (i := 507) (by decide +kernel), List.mem_of_getElem? (i := 508) (by decide +kernel)⟩
theorem lw_p51 : lw_okq (⟨"AvoidColours$Task", "resize", "(I)V"⟩, 7) := ⟨⟨by decide +kernel, by decide +kernel⟩, List.mem_of_getElem? (i := 40) (by decide +kernel), List.mem_of_getElem? (i := 518) (by decide +kernel), List.mem_of_getElem? (i := 519) (by decide +kernel)⟩
theorem lw_p52 : lw_okq (⟨"AvoidColours$History", "restore", "(LAvoidColours$Task;)Z"⟩, 3) := ⟨⟨by decide +kernel, by decide +kernel⟩, List.mem_of_getElem? (i := 81) (by decide +kernel), List.mem_of_getElem? (i := 547) (by decide +kernel), List.mem_of_getElem? (i := 548) (by decide +kernel)⟩
theorem lw_p53 : lw_okq (⟨"AvoidColours", "limit", "(LAvoidColours$Task;)I"⟩, 9) := ⟨⟨by decide +kernel, by decide +kernel⟩, List.mem_of_getElem? (i := 14) (by decide +kernel), List.mem_of_getElem? (i := 555) (by decide +kernel), List.mem_of_getElem? (i := 556) (by decide +kernel)⟩
theorem lw_p54 : lw_okq (⟨"AvoidColours", "forcedNumbers", "()I"⟩, 9) := ⟨⟨by decide +kernel, by decide +kernel⟩, List.mem_of_getElem? (i := 14) (by decide +kernel), List.mem_of_getElem? (i := 560) (by decide +kernel), List.mem_of_getElem? (i := 561) (by decide +kernel)⟩
theorem lw_p55 : lw_okq (⟨"AvoidColours", "paintable", "()I"⟩, 9) := ⟨⟨by decide +kernel, by decide +kernel⟩, List.mem_of_getElem? (i := 14) (by decide +kernel), List.mem_of_getElem? (i := 564) (by decide +kernel), List.mem_of_getElem? (i := 565) (by decide +kernel)⟩
theorem lw_p56 : lw_okq (⟨"AvoidColours$Walk", "countKinds", "(LAvoidColours$Task;)I"⟩, 15) := ⟨⟨by decide +kernel, by decide +kernel⟩, List.mem_of_getElem? (i := 100) (by decide +kernel), List.mem_of_getElem? (i := 568) (by decide +kernel), List.mem_of_getElem? (i := 569) (by decide +kernel)⟩
theorem lw_p57 : lw_okq (⟨"AvoidColours$Walk", "with", "(II)I"⟩, 15) := ⟨⟨by decide +kernel, by decide +kernel⟩, List.mem_of_getElem? (i := 100) (by decide +kernel), List.mem_of_getElem? (i := 575) (by decide +kernel), List.mem_of_getElem? (i := 576) (by decide +kernel)⟩
theorem lw_p58 : lw_okq (⟨"AvoidColours$Walk", "namingsWith", "(II)I"⟩, 15) := ⟨⟨by decide +kernel, by decide +kernel⟩, List.mem_of_getElem? (i := 100) (by decide +kernel), List.mem_of_getElem? (i := 579) (by decide +kernel), List.mem_of_getElem? (i := 580) (by decide +kernel)⟩
theorem lw_p59 : lw_okq (⟨"AvoidColours$Walk", "lay", "(II)V"⟩, 15) := ⟨⟨by decide +kernel, by decide +kernel⟩, List.mem_of_getElem? (i := 100) (by decide +kernel), List.mem_of_getElem? (i := 586) (by decide +kernel), List.mem_of_getElem? (i := 587) (by decide +kernel)⟩
theorem lw_p60 : lw_okq (⟨"AvoidColours", "stands", "(I)Z"⟩, 9) := ⟨⟨by decide +kernel, by decide +kernel⟩, List.mem_of_getElem? (i := 14) (by decide +kernel), List.mem_of_getElem? (i := 602) (by decide +kernel), List.mem_of_getElem? (i := 603) (by decide +kernel)⟩
theorem lw_p61 : lw_okq (⟨"AvoidColours$Sightings", "note", "(IZ)Z"⟩, 3) := ⟨⟨by decide +kernel, by decide +kernel⟩, List.mem_of_getElem? (i := 106) (by decide +kernel), List.mem_of_getElem? (i := 610) (by decide +kernel), List.mem_of_getElem? (i := 611) (by decide +kernel)⟩
theorem lw_p62 : lw_okq (⟨"AvoidColours$Walk", "tally", "(LAvoidColours$Task;)V"⟩, 15) := ⟨⟨by decide +kernel, by decide +kernel⟩, List.mem_of_getElem? (i := 100) (by decide +kernel), List.mem_of_getElem? (i := 626) (by decide +kernel), List.mem_of_getElem? (i := 627) (by decide +kernel)⟩
theorem lw_p63 : lw_okq (⟨"AvoidColours$Walk", "mark", "()V"⟩, 15) := ⟨⟨by decide +kernel, by decide +kernel⟩, List.mem_of_getElem? (i := 100) (by decide +kernel), List.mem_of_getElem? (i := 633) (by decide +kernel), List.mem_of_getElem? (i := 634) (by decide +kernel)⟩
def lw_privs_4 : List (MethodName × Nat) := [(⟨"AvoidColours$Task", "alike", "([I)I"⟩, 7), (⟨"AvoidColours", "refusalOfPaint", "(LAvoidColours$Task;II)I"⟩, 9), (⟨"AvoidColours$Task", "repaint", "(II)V"⟩, 7), (⟨"AvoidColours$Task", "resize", "(I)V"⟩, 7), (⟨"AvoidColours$History", "restore", "(LAvoidColours$Task;)Z"⟩, 3), (⟨"AvoidColours", "limit", "(LAvoidColours$Task;)I"⟩, 9), (⟨"AvoidColours", "forcedNumbers", "()I"⟩, 9), (⟨"AvoidColours", "paintable", "()I"⟩, 9), (⟨"AvoidColours$Walk", "countKinds", "(LAvoidColours$Task;)I"⟩, 15), (⟨"AvoidColours$Walk", "with", "(II)I"⟩, 15), (⟨"AvoidColours$Walk", "namingsWith", "(II)I"⟩, 15), (⟨"AvoidColours$Walk", "lay", "(II)V"⟩, 15), (⟨"AvoidColours", "stands", "(I)Z"⟩, 9), (⟨"AvoidColours$Sightings", "note", "(IZ)Z"⟩, 3), (⟨"AvoidColours$Walk", "tally", "(LAvoidColours$Task;)V"⟩, 15), (⟨"AvoidColours$Walk", "mark", "()V"⟩, 15)]
theorem lw_r4 : ∀ q ∈ lw_privs_4, lw_okq q := List.forall_mem_cons.mpr ⟨lw_p48, List.forall_mem_cons.mpr ⟨lw_p49, List.forall_mem_cons.mpr ⟨lw_p50, List.forall_mem_cons.mpr ⟨lw_p51, List.forall_mem_cons.mpr ⟨lw_p52, List.forall_mem_cons.mpr ⟨lw_p53, List.forall_mem_cons.mpr ⟨lw_p54, List.forall_mem_cons.mpr ⟨lw_p55, List.forall_mem_cons.mpr ⟨lw_p56, List.forall_mem_cons.mpr ⟨lw_p57, List.forall_mem_cons.mpr ⟨lw_p58, List.forall_mem_cons.mpr ⟨lw_p59, List.forall_mem_cons.mpr ⟨lw_p60, List.forall_mem_cons.mpr ⟨lw_p61, List.forall_mem_cons.mpr ⟨lw_p62, List.forall_mem_cons.mpr ⟨lw_p63, fun _ h => absurd h List.not_mem_nil⟩⟩⟩⟩⟩⟩⟩⟩⟩⟩⟩⟩⟩⟩⟩⟩
theorem lw_p64 : lw_okq (⟨"AvoidColours$Walk", "heeding", "(I)I"⟩, 15) := ⟨⟨by decide +kernel, by decide +kernel⟩, List.mem_of_getElem? (i := 100) (by decide +kernel), List.mem_of_getElem? (i := 641) (by decide +kernel), List.mem_of_getElem? (i := 642) (by decide +kernel)⟩
theorem lw_p65 : lw_okq (⟨"AvoidColours", "drawAll", "()I"⟩, 9) := ⟨⟨by decide +kernel, by decide +kernel⟩, List.mem_of_getElem? (i := 14) (by decide +kernel), List.mem_of_getElem? (i := 667) (by decide +kernel), List.mem_of_getElem? (i := 668) (by decide +kernel)⟩
theorem lw_p66 : lw_okq (⟨"AvoidColours", "draw", "(I)Z"⟩, 9) := ⟨⟨by decide +kernel, by decide +kernel⟩, List.mem_of_getElem? (i := 14) (by decide +kernel), List.mem_of_getElem? (i := 671) (by decide +kernel), List.mem_of_getElem? (i := 672) (by decide +kernel)⟩
theorem lw_p67 : lw_okq (⟨"AvoidColoursModel", "readTask", "()I"⟩, 28) := ⟨⟨by decide +kernel, by decide +kernel⟩, List.mem_of_getElem? (i := 691) (by decide +kernel), List.mem_of_getElem? (i := 799) (by decide +kernel), List.mem_of_getElem? (i := 800) (by decide +kernel)⟩
theorem lw_p68 : lw_okq (⟨"AvoidColoursModel", "figure", "(II)I"⟩, 28) := ⟨⟨by decide +kernel, by decide +kernel⟩, List.mem_of_getElem? (i := 691) (by decide +kernel), List.mem_of_getElem? (i := 803) (by decide +kernel), List.mem_of_getElem? (i := 804) (by decide +kernel)⟩
theorem lw_p69 : lw_okq (⟨"AvoidColoursModel", "readEquation", "()Z"⟩, 28) := ⟨⟨by decide +kernel, by decide +kernel⟩, List.mem_of_getElem? (i := 691) (by decide +kernel), List.mem_of_getElem? (i := 807) (by decide +kernel), List.mem_of_getElem? (i := 808) (by decide +kernel)⟩
theorem lw_p70 : lw_okq (⟨"AvoidColoursModel", "factor", "()I"⟩, 28) := ⟨⟨by decide +kernel, by decide +kernel⟩, List.mem_of_getElem? (i := 691) (by decide +kernel), List.mem_of_getElem? (i := 811) (by decide +kernel), List.mem_of_getElem? (i := 812) (by decide +kernel)⟩
theorem lw_p71 : lw_okq (⟨"AvoidColoursModel", "readPin", "()Z"⟩, 28) := ⟨⟨by decide +kernel, by decide +kernel⟩, List.mem_of_getElem? (i := 691) (by decide +kernel), List.mem_of_getElem? (i := 816) (by decide +kernel), List.mem_of_getElem? (i := 817) (by decide +kernel)⟩
theorem lw_p72 : lw_okq (⟨"AvoidColoursModel", "isBare", "(I)Z"⟩, 28) := ⟨⟨by decide +kernel, by decide +kernel⟩, List.mem_of_getElem? (i := 691) (by decide +kernel), List.mem_of_getElem? (i := 820) (by decide +kernel), List.mem_of_getElem? (i := 821) (by decide +kernel)⟩
theorem lw_p73 : lw_okq (⟨"AvoidColoursModel", "settleOn", "([I)V"⟩, 28) := ⟨⟨by decide +kernel, by decide +kernel⟩, List.mem_of_getElem? (i := 691) (by decide +kernel), List.mem_of_getElem? (i := 829) (by decide +kernel), List.mem_of_getElem? (i := 830) (by decide +kernel)⟩
theorem lw_p74 : lw_okq (⟨"AvoidColoursModel", "numberOf", "([I)I"⟩, 28) := ⟨⟨by decide +kernel, by decide +kernel⟩, List.mem_of_getElem? (i := 691) (by decide +kernel), List.mem_of_getElem? (i := 833) (by decide +kernel), List.mem_of_getElem? (i := 834) (by decide +kernel)⟩
theorem lw_p75 : lw_okq (⟨"AvoidColoursModel", "beginAll", "([I)V"⟩, 28) := ⟨⟨by decide +kernel, by decide +kernel⟩, List.mem_of_getElem? (i := 691) (by decide +kernel), List.mem_of_getElem? (i := 837) (by decide +kernel), List.mem_of_getElem? (i := 838) (by decide +kernel)⟩
theorem lw_p76 : lw_okq (⟨"AvoidColoursModel", "begin", "([IIIZ)V"⟩, 28) := ⟨⟨by decide +kernel, by decide +kernel⟩, List.mem_of_getElem? (i := 691) (by decide +kernel), List.mem_of_getElem? (i := 844) (by decide +kernel), List.mem_of_getElem? (i := 845) (by decide +kernel)⟩
theorem lw_p77 : lw_okq (⟨"AvoidColoursModel", "laySets", "([II)V"⟩, 28) := ⟨⟨by decide +kernel, by decide +kernel⟩, List.mem_of_getElem? (i := 691) (by decide +kernel), List.mem_of_getElem? (i := 848) (by decide +kernel), List.mem_of_getElem? (i := 849) (by decide +kernel)⟩
theorem lw_p78 : lw_okq (⟨"AvoidColoursModel", "more", "()Z"⟩, 28) := ⟨⟨by decide +kernel, by decide +kernel⟩, List.mem_of_getElem? (i := 691) (by decide +kernel), List.mem_of_getElem? (i := 861) (by decide +kernel), List.mem_of_getElem? (i := 862) (by decide +kernel)⟩
theorem lw_p79 : lw_okq (⟨"AvoidColoursModel", "next", "(I)Z"⟩, 28) := ⟨⟨by decide +kernel, by decide +kernel⟩, List.mem_of_getElem? (i := 691) (by decide +kernel), List.mem_of_getElem? (i := 865) (by decide +kernel), List.mem_of_getElem? (i := 866) (by decide +kernel)⟩
def lw_privs_5 : List (MethodName × Nat) := [(⟨"AvoidColours$Walk", "heeding", "(I)I"⟩, 15), (⟨"AvoidColours", "drawAll", "()I"⟩, 9), (⟨"AvoidColours", "draw", "(I)Z"⟩, 9), (⟨"AvoidColoursModel", "readTask", "()I"⟩, 28), (⟨"AvoidColoursModel", "figure", "(II)I"⟩, 28), (⟨"AvoidColoursModel", "readEquation", "()Z"⟩, 28), (⟨"AvoidColoursModel", "factor", "()I"⟩, 28), (⟨"AvoidColoursModel", "readPin", "()Z"⟩, 28), (⟨"AvoidColoursModel", "isBare", "(I)Z"⟩, 28), (⟨"AvoidColoursModel", "settleOn", "([I)V"⟩, 28), (⟨"AvoidColoursModel", "numberOf", "([I)I"⟩, 28), (⟨"AvoidColoursModel", "beginAll", "([I)V"⟩, 28), (⟨"AvoidColoursModel", "begin", "([IIIZ)V"⟩, 28), (⟨"AvoidColoursModel", "laySets", "([II)V"⟩, 28), (⟨"AvoidColoursModel", "more", "()Z"⟩, 28), (⟨"AvoidColoursModel", "next", "(I)Z"⟩, 28)]
theorem lw_r5 : ∀ q ∈ lw_privs_5, lw_okq q := List.forall_mem_cons.mpr ⟨lw_p64, List.forall_mem_cons.mpr ⟨lw_p65, List.forall_mem_cons.mpr ⟨lw_p66, List.forall_mem_cons.mpr ⟨lw_p67, List.forall_mem_cons.mpr ⟨lw_p68, List.forall_mem_cons.mpr ⟨lw_p69, List.forall_mem_cons.mpr ⟨lw_p70, List.forall_mem_cons.mpr ⟨lw_p71, List.forall_mem_cons.mpr ⟨lw_p72, List.forall_mem_cons.mpr ⟨lw_p73, List.forall_mem_cons.mpr ⟨lw_p74, List.forall_mem_cons.mpr ⟨lw_p75, List.forall_mem_cons.mpr ⟨lw_p76, List.forall_mem_cons.mpr ⟨lw_p77, List.forall_mem_cons.mpr ⟨lw_p78, List.forall_mem_cons.mpr ⟨lw_p79, fun _ h => absurd h List.not_mem_nil⟩⟩⟩⟩⟩⟩⟩⟩⟩⟩⟩⟩⟩⟩⟩⟩
theorem lw_p80 : lw_okq (⟨"AvoidColoursModel", "allows", "(II)Z"⟩, 28) := ⟨⟨by decide +kernel, by decide +kernel⟩, List.mem_of_getElem? (i := 691) (by decide +kernel), List.mem_of_getElem? (i := 869) (by decide +kernel), List.mem_of_getElem? (i := 870) (by decide +kernel)⟩
theorem lw_p81 : lw_okq (⟨"AvoidColoursModel", "may", "(II)Z"⟩, 28) := ⟨⟨by decide +kernel, by decide +kernel⟩, List.mem_of_getElem? (i := 691) (by decide +kernel), List.mem_of_getElem? (i := 873) (by decide +kernel), List.mem_of_getElem? (i := 874) (by decide +kernel)⟩
theorem lw_p82 : lw_okq (⟨"AvoidColoursModel", "isWay", "([I)Z"⟩, 28) := ⟨⟨by decide +kernel, by decide +kernel⟩, List.mem_of_getElem? (i := 691) (by decide +kernel), List.mem_of_getElem? (i := 877) (by decide +kernel), List.mem_of_getElem? (i := 878) (by decide +kernel)⟩
theorem lw_p83 : lw_okq (⟨"AvoidColoursModel", "take", "([IZ)V"⟩, 28) := ⟨⟨by decide +kernel, by decide +kernel⟩, List.mem_of_getElem? (i := 691) (by decide +kernel), List.mem_of_getElem? (i := 881) (by decide +kernel), List.mem_of_getElem? (i := 882) (by decide +kernel)⟩
theorem lw_p84 : lw_okq (⟨"AvoidColoursModel", "manyOf", "([I)I"⟩, 28) := ⟨⟨by decide +kernel, by decide +kernel⟩, List.mem_of_getElem? (i := 691) (by decide +kernel), List.mem_of_getElem? (i := 885) (by decide +kernel), List.mem_of_getElem? (i := 886) (by decide +kernel)⟩
theorem lw_p85 : lw_okq (⟨"AvoidColoursModel", "manyBy", "([II)I"⟩, 28) := ⟨⟨by decide +kernel, by decide +kernel⟩, List.mem_of_getElem? (i := 691) (by decide +kernel), List.mem_of_getElem? (i := 889) (by decide +kernel), List.mem_of_getElem? (i := 890) (by decide +kernel)⟩
theorem lw_p86 : lw_okq (⟨"AvoidColoursModel", "noEquation", "(I)Z"⟩, 28) := ⟨⟨by decide +kernel, by decide +kernel⟩, List.mem_of_getElem? (i := 691) (by decide +kernel), List.mem_of_getElem? (i := 897) (by decide +kernel), List.mem_of_getElem? (i := 898) (by decide +kernel)⟩
theorem lw_p87 : lw_okq (⟨"AvoidColoursModel", "solutionAt", "(II)I"⟩, 28) := ⟨⟨by decide +kernel, by decide +kernel⟩, List.mem_of_getElem? (i := 691) (by decide +kernel), List.mem_of_getElem? (i := 904) (by decide +kernel), List.mem_of_getElem? (i := 905) (by decide +kernel)⟩
theorem lw_p88 : lw_okq (⟨"AvoidColoursModel", "noNumber", "(I)Z"⟩, 28) := ⟨⟨by decide +kernel, by decide +kernel⟩, List.mem_of_getElem? (i := 691) (by decide +kernel), List.mem_of_getElem? (i := 916) (by decide +kernel), List.mem_of_getElem? (i := 917) (by decide +kernel)⟩
theorem lw_p89 : lw_okq (⟨"AvoidColoursModel", "mayBe", "([II)I"⟩, 28) := ⟨⟨by decide +kernel, by decide +kernel⟩, List.mem_of_getElem? (i := 691) (by decide +kernel), List.mem_of_getElem? (i := 920) (by decide +kernel), List.mem_of_getElem? (i := 921) (by decide +kernel)⟩
theorem lw_p90 : lw_okq (⟨"AvoidColoursModel", "note", "()V"⟩, 28) := ⟨⟨by decide +kernel, by decide +kernel⟩, List.mem_of_getElem? (i := 691) (by decide +kernel), List.mem_of_getElem? (i := 931) (by decide +kernel), List.mem_of_getElem? (i := 932) (by decide +kernel)⟩
theorem lw_p91 : lw_okq (⟨"AvoidColoursModel", "layTrial", "()V"⟩, 28) := ⟨⟨by decide +kernel, by decide +kernel⟩, List.mem_of_getElem? (i := 691) (by decide +kernel), List.mem_of_getElem? (i := 939) (by decide +kernel), List.mem_of_getElem? (i := 940) (by decide +kernel)⟩
theorem lw_p92 : lw_okq (⟨"AvoidColoursModel", "paintOn", "([III)Z"⟩, 28) := ⟨⟨by decide +kernel, by decide +kernel⟩, List.mem_of_getElem? (i := 691) (by decide +kernel), List.mem_of_getElem? (i := 943) (by decide +kernel), List.mem_of_getElem? (i := 944) (by decide +kernel)⟩
theorem lw_p93 : lw_okq (⟨"AvoidColoursModel", "reachOn", "([II)V"⟩, 28) := ⟨⟨by decide +kernel, by decide +kernel⟩, List.mem_of_getElem? (i := 691) (by decide +kernel), List.mem_of_getElem? (i := 952) (by decide +kernel), List.mem_of_getElem? (i := 953) (by decide +kernel)⟩
theorem lw_p94 : lw_okq (⟨"AvoidColoursModel", "least", "([I)I"⟩, 28) := ⟨⟨by decide +kernel, by decide +kernel⟩, List.mem_of_getElem? (i := 691) (by decide +kernel), List.mem_of_getElem? (i := 980) (by decide +kernel), List.mem_of_getElem? (i := 981) (by decide +kernel)⟩
theorem lw_p95 : lw_okq (⟨"AvoidColoursModel", "forced", "([I)I"⟩, 28) := ⟨⟨by decide +kernel, by decide +kernel⟩, List.mem_of_getElem? (i := 691) (by decide +kernel), List.mem_of_getElem? (i := 984) (by decide +kernel), List.mem_of_getElem? (i := 985) (by decide +kernel)⟩
def lw_privs_6 : List (MethodName × Nat) := [(⟨"AvoidColoursModel", "allows", "(II)Z"⟩, 28), (⟨"AvoidColoursModel", "may", "(II)Z"⟩, 28), (⟨"AvoidColoursModel", "isWay", "([I)Z"⟩, 28), (⟨"AvoidColoursModel", "take", "([IZ)V"⟩, 28), (⟨"AvoidColoursModel", "manyOf", "([I)I"⟩, 28), (⟨"AvoidColoursModel", "manyBy", "([II)I"⟩, 28), (⟨"AvoidColoursModel", "noEquation", "(I)Z"⟩, 28), (⟨"AvoidColoursModel", "solutionAt", "(II)I"⟩, 28), (⟨"AvoidColoursModel", "noNumber", "(I)Z"⟩, 28), (⟨"AvoidColoursModel", "mayBe", "([II)I"⟩, 28), (⟨"AvoidColoursModel", "note", "()V"⟩, 28), (⟨"AvoidColoursModel", "layTrial", "()V"⟩, 28), (⟨"AvoidColoursModel", "paintOn", "([III)Z"⟩, 28), (⟨"AvoidColoursModel", "reachOn", "([II)V"⟩, 28), (⟨"AvoidColoursModel", "least", "([I)I"⟩, 28), (⟨"AvoidColoursModel", "forced", "([I)I"⟩, 28)]
theorem lw_r6 : ∀ q ∈ lw_privs_6, lw_okq q := List.forall_mem_cons.mpr ⟨lw_p80, List.forall_mem_cons.mpr ⟨lw_p81, List.forall_mem_cons.mpr ⟨lw_p82, List.forall_mem_cons.mpr ⟨lw_p83, List.forall_mem_cons.mpr ⟨lw_p84, List.forall_mem_cons.mpr ⟨lw_p85, List.forall_mem_cons.mpr ⟨lw_p86, List.forall_mem_cons.mpr ⟨lw_p87, List.forall_mem_cons.mpr ⟨lw_p88, List.forall_mem_cons.mpr ⟨lw_p89, List.forall_mem_cons.mpr ⟨lw_p90, List.forall_mem_cons.mpr ⟨lw_p91, List.forall_mem_cons.mpr ⟨lw_p92, List.forall_mem_cons.mpr ⟨lw_p93, List.forall_mem_cons.mpr ⟨lw_p94, List.forall_mem_cons.mpr ⟨lw_p95, fun _ h => absurd h List.not_mem_nil⟩⟩⟩⟩⟩⟩⟩⟩⟩⟩⟩⟩⟩⟩⟩⟩
theorem lw_p96 : lw_okq (⟨"AvoidColoursModel", "paints", "()I"⟩, 28) := ⟨⟨by decide +kernel, by decide +kernel⟩, List.mem_of_getElem? (i := 691) (by decide +kernel), List.mem_of_getElem? (i := 988) (by decide +kernel), List.mem_of_getElem? (i := 989) (by decide +kernel)⟩
theorem lw_p97 : lw_okq (⟨"AvoidColoursModel", "kinds", "()I"⟩, 28) := ⟨⟨by decide +kernel, by decide +kernel⟩, List.mem_of_getElem? (i := 691) (by decide +kernel), List.mem_of_getElem? (i := 992) (by decide +kernel), List.mem_of_getElem? (i := 993) (by decide +kernel)⟩
theorem lw_p98 : lw_okq (⟨"AvoidColoursModel", "codeOf", "()I"⟩, 28) := ⟨⟨by decide +kernel, by decide +kernel⟩, List.mem_of_getElem? (i := 691) (by decide +kernel), List.mem_of_getElem? (i := 996) (by decide +kernel), List.mem_of_getElem? (i := 997) (by decide +kernel)⟩
theorem lw_p99 : lw_okq (⟨"AvoidColoursModel", "ends", "()I"⟩, 28) := ⟨⟨by decide +kernel, by decide +kernel⟩, List.mem_of_getElem? (i := 691) (by decide +kernel), List.mem_of_getElem? (i := 1000) (by decide +kernel), List.mem_of_getElem? (i := 1001) (by decide +kernel)⟩
theorem lw_p100 : lw_okq (⟨"AvoidColoursModel", "does", "(IIII)Z"⟩, 28) := ⟨⟨by decide +kernel, by decide +kernel⟩, List.mem_of_getElem? (i := 691) (by decide +kernel), List.mem_of_getElem? (i := 1016) (by decide +kernel), List.mem_of_getElem? (i := 1017) (by decide +kernel)⟩
theorem lw_p101 : lw_okq (⟨"AvoidColoursModel", "drawFor", "(I)Z"⟩, 28) := ⟨⟨by decide +kernel, by decide +kernel⟩, List.mem_of_getElem? (i := 691) (by decide +kernel), List.mem_of_getElem? (i := 1064) (by decide +kernel), List.mem_of_getElem? (i := 1065) (by decide +kernel)⟩
theorem lw_p102 : lw_okq (⟨"AvoidColoursModel", "pins", "()I"⟩, 28) := ⟨⟨by decide +kernel, by decide +kernel⟩, List.mem_of_getElem? (i := 691) (by decide +kernel), List.mem_of_getElem? (i := 1082) (by decide +kernel), List.mem_of_getElem? (i := 1083) (by decide +kernel)⟩
def lw_privs_7 : List (MethodName × Nat) := [(⟨"AvoidColoursModel", "paints", "()I"⟩, 28), (⟨"AvoidColoursModel", "kinds", "()I"⟩, 28), (⟨"AvoidColoursModel", "codeOf", "()I"⟩, 28), (⟨"AvoidColoursModel", "ends", "()I"⟩, 28), (⟨"AvoidColoursModel", "does", "(IIII)Z"⟩, 28), (⟨"AvoidColoursModel", "drawFor", "(I)Z"⟩, 28), (⟨"AvoidColoursModel", "pins", "()I"⟩, 28)]
theorem lw_r7 : ∀ q ∈ lw_privs_7, lw_okq q := List.forall_mem_cons.mpr ⟨lw_p96, List.forall_mem_cons.mpr ⟨lw_p97, List.forall_mem_cons.mpr ⟨lw_p98, List.forall_mem_cons.mpr ⟨lw_p99, List.forall_mem_cons.mpr ⟨lw_p100, List.forall_mem_cons.mpr ⟨lw_p101, List.forall_mem_cons.mpr ⟨lw_p102, fun _ h => absurd h List.not_mem_nil⟩⟩⟩⟩⟩⟩⟩
def lw_privs : List (MethodName × Nat) := lw_privs_1 ++ (lw_privs_2 ++ (lw_privs_3 ++ (lw_privs_4 ++ (lw_privs_5 ++ (lw_privs_6 ++ (lw_privs_7))))))
def lw_tbl : List Cond := k2_sels lw_privs ++ tables_1
theorem lw_privs_ok : ∀ q ∈ lw_privs, lw_okq q := by
  show ∀ q ∈ lw_privs_1 ++ (lw_privs_2 ++ (lw_privs_3 ++ (lw_privs_4 ++ (lw_privs_5 ++ (lw_privs_6 ++ (lw_privs_7)))))), lw_okq q
  exact List.forall_mem_append.mpr ⟨lw_r1, List.forall_mem_append.mpr ⟨lw_r2, List.forall_mem_append.mpr ⟨lw_r3, List.forall_mem_append.mpr ⟨lw_r4, List.forall_mem_append.mpr ⟨lw_r5, List.forall_mem_append.mpr ⟨lw_r6, lw_r7⟩⟩⟩⟩⟩⟩
end
section
def RX0 : String := "AvoidColours$Clashes"
def TX0 : u_T := fun k => match k with
  | 0 => ("AvoidColours$Clashes", "broken", "[I", true)
  | _ => ("AvoidColours$Clashes", "built", "LAvoidColours$Task;", true)
def tyX0 : Nat → FieldType := fun k => match k with
  | 0 => .array .int
  | _ => .object "AvoidColours$Task"
theorem nmX0 : ∀ a, a < 2 → ∀ b, b < 2 → a ≠ b → (TX0 a).2.1 ≠ (TX0 b).2.1 := by decide +kernel
theorem tyX0_ok : ∀ k, k < 2 → parseFieldDescriptor (TX0 k).2.2.1 = some (tyX0 k) := by decide +kernel
abbrev cX0_init : ByteArray := prog_2_method_1_code
def yX0_init : MethodName := ⟨RX0, "<init>", "()V"⟩
abbrev cX0_fit : ByteArray := prog_2_method_2_code
def yX0_fit : MethodName := ⟨RX0, "fit", "(LAvoidColours$Task;)V"⟩
abbrev cX0_sameEquations : ByteArray := prog_2_method_3_code
def yX0_sameEquations : MethodName := ⟨RX0, "sameEquations", "(LAvoidColours$Task;)Z"⟩
abbrev cX0_spread : ByteArray := prog_2_method_4_code
def yX0_spread : MethodName := ⟨RX0, "spread", "()V"⟩
abbrev cX0_in : ByteArray := prog_2_method_5_code
def yX0_in : MethodName := ⟨RX0, "in", "(I)I"⟩
def RX1 : String := "AvoidColours$History"
def TX1 : u_T := fun k => match k with
  | 0 => ("AvoidColours$History", "past", "[LAvoidColours$Task;", true)
  | 1 => ("AvoidColours$History", "next", "I", false)
  | _ => ("AvoidColours$History", "size", "I", false)
def tyX1 : Nat → FieldType := fun k => match k with
  | 0 => .array (.object "AvoidColours$Task")
  | 1 => .int
  | _ => .int
theorem nmX1 : ∀ a, a < 3 → ∀ b, b < 3 → a ≠ b → (TX1 a).2.1 ≠ (TX1 b).2.1 := by decide +kernel
theorem tyX1_ok : ∀ k, k < 3 → parseFieldDescriptor (TX1 k).2.2.1 = some (tyX1 k) := by decide +kernel
abbrev cX1_init : ByteArray := prog_3_method_1_code
def yX1_init : MethodName := ⟨RX1, "<init>", "()V"⟩
abbrev cX1_remember : ByteArray := prog_3_method_2_code
def yX1_remember : MethodName := ⟨RX1, "remember", "(LAvoidColours$Task;)V"⟩
abbrev cX1_restore : ByteArray := prog_3_method_3_code
def yX1_restore : MethodName := ⟨RX1, "restore", "(LAvoidColours$Task;)Z"⟩
abbrev cX1_forget : ByteArray := prog_3_method_4_code
def yX1_forget : MethodName := ⟨RX1, "forget", "()V"⟩
abbrev cX1_at : ByteArray := prog_3_method_5_code
def yX1_at : MethodName := ⟨RX1, "at", "(I)LAvoidColours$Task;"⟩
def RX2 : String := "AvoidColours$Sightings"
def TX2 : u_T := fun k => match k with
  | 0 => ("AvoidColours$Sightings", "pairs", "[I", true)
  | 1 => ("AvoidColours$Sightings", "same", "[Z", true)
  | _ => ("AvoidColours$Sightings", "size", "I", false)
def tyX2 : Nat → FieldType := fun k => match k with
  | 0 => .array .int
  | 1 => .array .boolean
  | _ => .int
theorem nmX2 : ∀ a, a < 3 → ∀ b, b < 3 → a ≠ b → (TX2 a).2.1 ≠ (TX2 b).2.1 := by decide +kernel
theorem tyX2_ok : ∀ k, k < 3 → parseFieldDescriptor (TX2 k).2.2.1 = some (tyX2 k) := by decide +kernel
abbrev cX2_init : ByteArray := prog_4_method_1_code
def yX2_init : MethodName := ⟨RX2, "<init>", "()V"⟩
abbrev cX2_note : ByteArray := prog_4_method_2_code
def yX2_note : MethodName := ⟨RX2, "note", "(IZ)Z"⟩
abbrev cX2_agree : ByteArray := prog_4_method_3_code
def yX2_agree : MethodName := ⟨RX2, "agree", "([II)Z"⟩
def RX3 : String := "AvoidColours$Task"
def TX3 : u_T := fun k => match k with
  | 0 => ("AvoidColours$Task", "parts", "[I", true)
  | 1 => ("AvoidColours$Task", "pins", "[I", true)
  | 2 => ("AvoidColours$Task", "classes", "[I", true)
  | 3 => ("AvoidColours$Task", "n", "I", false)
  | 4 => ("AvoidColours$Task", "k", "I", false)
  | 5 => ("AvoidColours$Task", "equations", "I", false)
  | _ => ("AvoidColours$Task", "coloured", "Z", false)
def tyX3 : Nat → FieldType := fun k => match k with
  | 0 => .array .int
  | 1 => .array .int
  | 2 => .array .int
  | 3 => .int
  | 4 => .int
  | 5 => .int
  | _ => .boolean
theorem nmX3 : ∀ a, a < 7 → ∀ b, b < 7 → a ≠ b → (TX3 a).2.1 ≠ (TX3 b).2.1 := by decide +kernel
theorem tyX3_ok : ∀ k, k < 7 → parseFieldDescriptor (TX3 k).2.2.1 = some (tyX3 k) := by decide +kernel
abbrev cX3_init : ByteArray := prog_5_method_1_code
def yX3_init : MethodName := ⟨RX3, "<init>", "()V"⟩
abbrev cX3_start : ByteArray := prog_5_method_2_code
def yX3_start : MethodName := ⟨RX3, "start", "(II)V"⟩
abbrev cX3_copy : ByteArray := prog_5_method_3_code
def yX3_copy : MethodName := ⟨RX3, "copy", "(LAvoidColours$Task;)V"⟩
abbrev cX3_has : ByteArray := prog_5_method_4_code
def yX3_has : MethodName := ⟨RX3, "has", "(I)Z"⟩
abbrev cX3_hasColour : ByteArray := prog_5_method_5_code
def yX3_hasColour : MethodName := ⟨RX3, "hasColour", "(I)Z"⟩
abbrev cX3_hasEquation : ByteArray := prog_5_method_6_code
def yX3_hasEquation : MethodName := ⟨RX3, "hasEquation", "(I)Z"⟩
abbrev cX3_part : ByteArray := prog_5_method_7_code
def yX3_part : MethodName := ⟨RX3, "part", "(II)I"⟩
abbrev cX3_append : ByteArray := prog_5_method_8_code
def yX3_append : MethodName := ⟨RX3, "append", "(IIII)V"⟩
abbrev cX3_regular : ByteArray := prog_5_method_9_code
def yX3_regular : MethodName := ⟨RX3, "regular", "(I)Z"⟩
abbrev cX3_third : ByteArray := prog_5_method_10_code
def yX3_third : MethodName := ⟨RX3, "third", "(IIII)I"⟩
abbrev cX3_solutions : ByteArray := prog_5_method_11_code
def yX3_solutions : MethodName := ⟨RX3, "solutions", "(I)I"⟩
abbrev cX3_solutionAt : ByteArray := prog_5_method_12_code
def yX3_solutionAt : MethodName := ⟨RX3, "solutionAt", "(II)I"⟩
abbrev cX3_pinOf : ByteArray := prog_5_method_13_code
def yX3_pinOf : MethodName := ⟨RX3, "pinOf", "(I)I"⟩
abbrev cX3_setPin : ByteArray := prog_5_method_14_code
def yX3_setPin : MethodName := ⟨RX3, "setPin", "(II)V"⟩
abbrev cX3_unpin : ByteArray := prog_5_method_15_code
def yX3_unpin : MethodName := ⟨RX3, "unpin", "()V"⟩
abbrev cX3_pinned : ByteArray := prog_5_method_16_code
def yX3_pinned : MethodName := ⟨RX3, "pinned", "()I"⟩
abbrev cX3_free : ByteArray := prog_5_method_17_code
def yX3_free : MethodName := ⟨RX3, "free", "(I)Z"⟩
abbrev cX3_allows : ByteArray := prog_5_method_18_code
def yX3_allows : MethodName := ⟨RX3, "allows", "(II)Z"⟩
abbrev cX3_resize : ByteArray := prog_5_method_19_code
def yX3_resize : MethodName := ⟨RX3, "resize", "(I)V"⟩
abbrev cX3_classOf : ByteArray := prog_5_method_20_code
def yX3_classOf : MethodName := ⟨RX3, "classOf", "(I)I"⟩
abbrev cX3_colourOf : ByteArray := prog_5_method_21_code
def yX3_colourOf : MethodName := ⟨RX3, "colourOf", "(I)I"⟩
abbrev cX3_repaint : ByteArray := prog_5_method_22_code
def yX3_repaint : MethodName := ⟨RX3, "repaint", "(II)V"⟩
abbrev cX3_recolour : ByteArray := prog_5_method_23_code
def yX3_recolour : MethodName := ⟨RX3, "recolour", "([IZ)V"⟩
abbrev cX3_hasClasses : ByteArray := prog_5_method_24_code
def yX3_hasClasses : MethodName := ⟨RX3, "hasClasses", "([I)Z"⟩
abbrev cX3_alike : ByteArray := prog_5_method_25_code
def yX3_alike : MethodName := ⟨RX3, "alike", "([I)I"⟩
def RX4 : String := "AvoidColours$Text"
def TX4 : u_T := fun k => match k with
  | 0 => ("AvoidColours$Text", "letters", "[I", true)
  | 1 => ("AvoidColours$Text", "length", "I", false)
  | _ => ("AvoidColours$Text", "place", "I", false)
def tyX4 : Nat → FieldType := fun k => match k with
  | 0 => .array .int
  | 1 => .int
  | _ => .int
theorem nmX4 : ∀ a, a < 3 → ∀ b, b < 3 → a ≠ b → (TX4 a).2.1 ≠ (TX4 b).2.1 := by decide +kernel
theorem tyX4_ok : ∀ k, k < 3 → parseFieldDescriptor (TX4 k).2.2.1 = some (tyX4 k) := by decide +kernel
abbrev cX4_init : ByteArray := prog_6_method_1_code
def yX4_init : MethodName := ⟨RX4, "<init>", "()V"⟩
abbrev cX4_append : ByteArray := prog_6_method_2_code
def yX4_append : MethodName := ⟨RX4, "append", "(I)Z"⟩
abbrev cX4_read : ByteArray := prog_6_method_3_code
def yX4_read : MethodName := ⟨RX4, "read", "(LAvoidColours$Task;)I"⟩
abbrev cX4_readPart : ByteArray := prog_6_method_4_code
def yX4_readPart : MethodName := ⟨RX4, "readPart", "(LAvoidColours$Task;)Z"⟩
abbrev cX4_readHead : ByteArray := prog_6_method_5_code
def yX4_readHead : MethodName := ⟨RX4, "readHead", "(LAvoidColours$Task;)Z"⟩
abbrev cX4_readEquation : ByteArray := prog_6_method_6_code
def yX4_readEquation : MethodName := ⟨RX4, "readEquation", "(LAvoidColours$Task;)Z"⟩
abbrev cX4_readFactor : ByteArray := prog_6_method_7_code
def yX4_readFactor : MethodName := ⟨RX4, "readFactor", "()I"⟩
abbrev cX4_readPin : ByteArray := prog_6_method_8_code
def yX4_readPin : MethodName := ⟨RX4, "readPin", "(LAvoidColours$Task;)Z"⟩
abbrev cX4_readNumber : ByteArray := prog_6_method_9_code
def yX4_readNumber : MethodName := ⟨RX4, "readNumber", "(LAvoidColours$Task;)I"⟩
abbrev cX4_lowNumberFree : ByteArray := prog_6_method_10_code
def yX4_lowNumberFree : MethodName := ⟨RX4, "lowNumberFree", "(LAvoidColours$Task;)Z"⟩
abbrev cX4_accept : ByteArray := prog_6_method_11_code
def yX4_accept : MethodName := ⟨RX4, "accept", "(II)I"⟩
def RX5 : String := "AvoidColours$Walk"
def TX5 : u_T := fun k => match k with
  | 0 => ("AvoidColours$Walk", "sightings", "LAvoidColours$Sightings;", true)
  | 1 => ("AvoidColours$Walk", "clashes", "LAvoidColours$Clashes;", true)
  | 2 => ("AvoidColours$Walk", "task", "LAvoidColours$Task;", true)
  | 3 => ("AvoidColours$Walk", "classes", "[I", true)
  | 4 => ("AvoidColours$Walk", "chosen", "[I", true)
  | 5 => ("AvoidColours$Walk", "possible", "[I", true)
  | 6 => ("AvoidColours$Walk", "tallies", "[I", true)
  | 7 => ("AvoidColours$Walk", "wanted", "I", false)
  | 8 => ("AvoidColours$Walk", "found", "I", false)
  | 9 => ("AvoidColours$Walk", "rank", "I", false)
  | 10 => ("AvoidColours$Walk", "deadEnds", "I", false)
  | 11 => ("AvoidColours$Walk", "deepest", "I", false)
  | 12 => ("AvoidColours$Walk", "agreeing", "I", false)
  | 13 => ("AvoidColours$Walk", "lowest", "I", false)
  | _ => ("AvoidColours$Walk", "kinds", "I", false)
def tyX5 : Nat → FieldType := fun k => match k with
  | 0 => .object "AvoidColours$Sightings"
  | 1 => .object "AvoidColours$Clashes"
  | 2 => .object "AvoidColours$Task"
  | 3 => .array .int
  | 4 => .array .int
  | 5 => .array .int
  | 6 => .array .int
  | 7 => .int
  | 8 => .int
  | 9 => .int
  | 10 => .int
  | 11 => .int
  | 12 => .int
  | 13 => .int
  | _ => .int
theorem nmX5 : ∀ a, a < 15 → ∀ b, b < 15 → a ≠ b → (TX5 a).2.1 ≠ (TX5 b).2.1 := by decide +kernel
theorem tyX5_ok : ∀ k, k < 15 → parseFieldDescriptor (TX5 k).2.2.1 = some (tyX5 k) := by decide +kernel
abbrev cX5_init : ByteArray := prog_7_method_1_code
def yX5_init : MethodName := ⟨RX5, "<init>", "()V"⟩
abbrev cX5_begin : ByteArray := prog_7_method_2_code
def yX5_begin : MethodName := ⟨RX5, "begin", "(LAvoidColours$Task;)V"⟩
abbrev cX5_survey : ByteArray := prog_7_method_3_code
def yX5_survey : MethodName := ⟨RX5, "survey", "(LAvoidColours$Task;I)V"⟩
abbrev cX5_extend : ByteArray := prog_7_method_4_code
def yX5_extend : MethodName := ⟨RX5, "extend", "(LAvoidColours$Walk;I)V"⟩
abbrev cX5_arrive : ByteArray := prog_7_method_5_code
def yX5_arrive : MethodName := ⟨RX5, "arrive", "()V"⟩
abbrev cX5_put : ByteArray := prog_7_method_6_code
def yX5_put : MethodName := ⟨RX5, "put", "(II)Z"⟩
abbrev cX5_with : ByteArray := prog_7_method_7_code
def yX5_with : MethodName := ⟨RX5, "with", "(II)I"⟩
abbrev cX5_lay : ByteArray := prog_7_method_8_code
def yX5_lay : MethodName := ⟨RX5, "lay", "(II)V"⟩
abbrev cX5_lift : ByteArray := prog_7_method_9_code
def yX5_lift : MethodName := ⟨RX5, "lift", "(II)V"⟩
abbrev cX5_allow : ByteArray := prog_7_method_10_code
def yX5_allow : MethodName := ⟨RX5, "allow", "(IIZ)V"⟩
abbrev cX5_possibleOf : ByteArray := prog_7_method_11_code
def yX5_possibleOf : MethodName := ⟨RX5, "possibleOf", "(I)I"⟩
abbrev cX5_forces : ByteArray := prog_7_method_12_code
def yX5_forces : MethodName := ⟨RX5, "forces", "(I)Z"⟩
abbrev cX5_countKinds : ByteArray := prog_7_method_13_code
def yX5_countKinds : MethodName := ⟨RX5, "countKinds", "(LAvoidColours$Task;)I"⟩
abbrev cX5_group : ByteArray := prog_7_method_14_code
def yX5_group : MethodName := ⟨RX5, "group", "(LAvoidColours$Walk;III)V"⟩
abbrev cX5_namingsWith : ByteArray := prog_7_method_15_code
def yX5_namingsWith : MethodName := ⟨RX5, "namingsWith", "(II)I"⟩
abbrev cX5_tally : ByteArray := prog_7_method_16_code
def yX5_tally : MethodName := ⟨RX5, "tally", "(LAvoidColours$Task;)V"⟩
abbrev cX5_spread : ByteArray := prog_7_method_17_code
def yX5_spread : MethodName := ⟨RX5, "spread", "(LAvoidColours$Walk;I)V"⟩
abbrev cX5_mark : ByteArray := prog_7_method_18_code
def yX5_mark : MethodName := ⟨RX5, "mark", "()V"⟩
abbrev cX5_heeding : ByteArray := prog_7_method_19_code
def yX5_heeding : MethodName := ⟨RX5, "heeding", "(I)I"⟩
def RX6 : String := "AvoidColours"
def TX6 : u_T := fun k => match k with
  | 0 => ("AvoidColours", "text", "LAvoidColours$Text;", true)
  | 1 => ("AvoidColours", "now", "LAvoidColours$Task;", true)
  | 2 => ("AvoidColours", "draft", "LAvoidColours$Task;", true)
  | 3 => ("AvoidColours", "trial", "LAvoidColours$Task;", true)
  | 4 => ("AvoidColours", "bare", "LAvoidColours$Task;", true)
  | 5 => ("AvoidColours", "slots", "[LAvoidColours$Task;", true)
  | 6 => ("AvoidColours", "history", "LAvoidColours$History;", true)
  | 7 => ("AvoidColours", "walk", "LAvoidColours$Walk;", true)
  | _ => ("AvoidColours", "chance", "J", false)
def tyX6 : Nat → FieldType := fun k => match k with
  | 0 => .object "AvoidColours$Text"
  | 1 => .object "AvoidColours$Task"
  | 2 => .object "AvoidColours$Task"
  | 3 => .object "AvoidColours$Task"
  | 4 => .object "AvoidColours$Task"
  | 5 => .array (.object "AvoidColours$Task")
  | 6 => .object "AvoidColours$History"
  | 7 => .object "AvoidColours$Walk"
  | _ => .long
theorem nmX6 : ∀ a, a < 9 → ∀ b, b < 9 → a ≠ b → (TX6 a).2.1 ≠ (TX6 b).2.1 := by decide +kernel
theorem tyX6_ok : ∀ k, k < 9 → parseFieldDescriptor (TX6 k).2.2.1 = some (tyX6 k) := by decide +kernel
abbrev cX6_init : ByteArray := prog_1_method_1_code
def yX6_init : MethodName := ⟨RX6, "<init>", "()V"⟩
abbrev cX6_write : ByteArray := prog_1_method_2_code
def yX6_write : MethodName := ⟨RX6, "write", "(I)I"⟩
abbrev cX6_wipe : ByteArray := prog_1_method_3_code
def yX6_wipe : MethodName := ⟨RX6, "wipe", "()I"⟩
abbrev cX6_fault : ByteArray := prog_1_method_4_code
def yX6_fault : MethodName := ⟨RX6, "fault", "()I"⟩
abbrev cX6_task : ByteArray := prog_1_method_5_code
def yX6_task : MethodName := ⟨RX6, "task", "()I"⟩
abbrev cX6_equation : ByteArray := prog_1_method_6_code
def yX6_equation : MethodName := ⟨RX6, "equation", "(II)I"⟩
abbrev cX6_solution : ByteArray := prog_1_method_7_code
def yX6_solution : MethodName := ⟨RX6, "solution", "(II)I"⟩
abbrev cX6_number : ByteArray := prog_1_method_8_code
def yX6_number : MethodName := ⟨RX6, "number", "(II)I"⟩
abbrev cX6_go : ByteArray := prog_1_method_9_code
def yX6_go : MethodName := ⟨RX6, "go", "(I)I"⟩
abbrev cX6_paint : ByteArray := prog_1_method_10_code
def yX6_paint : MethodName := ⟨RX6, "paint", "(II)I"⟩
abbrev cX6_reach : ByteArray := prog_1_method_11_code
def yX6_reach : MethodName := ⟨RX6, "reach", "(I)I"⟩
abbrev cX6_add : ByteArray := prog_1_method_12_code
def yX6_add : MethodName := ⟨RX6, "add", "(IIII)I"⟩
abbrev cX6_drop : ByteArray := prog_1_method_13_code
def yX6_drop : MethodName := ⟨RX6, "drop", "()I"⟩
abbrev cX6_pin : ByteArray := prog_1_method_14_code
def yX6_pin : MethodName := ⟨RX6, "pin", "(II)I"⟩
abbrev cX6_undo : ByteArray := prog_1_method_15_code
def yX6_undo : MethodName := ⟨RX6, "undo", "()I"⟩
abbrev cX6_ask : ByteArray := prog_1_method_16_code
def yX6_ask : MethodName := ⟨RX6, "ask", "(I)I"⟩
abbrev cX6_on : ByteArray := prog_1_method_17_code
def yX6_on : MethodName := ⟨RX6, "on", "()I"⟩
abbrev cX6_judge : ByteArray := prog_1_method_18_code
def yX6_judge : MethodName := ⟨RX6, "judge", "(IJ)I"⟩
abbrev cX6_see : ByteArray := prog_1_method_19_code
def yX6_see : MethodName := ⟨RX6, "see", "(III)I"⟩
abbrev cX6_unsee : ByteArray := prog_1_method_20_code
def yX6_unsee : MethodName := ⟨RX6, "unsee", "()I"⟩
abbrev cX6_which : ByteArray := prog_1_method_21_code
def yX6_which : MethodName := ⟨RX6, "which", "(I)I"⟩
abbrev cX6_share : ByteArray := prog_1_method_22_code
def yX6_share : MethodName := ⟨RX6, "share", "(IZ)I"⟩
abbrev cX6_luck : ByteArray := prog_1_method_23_code
def yX6_luck : MethodName := ⟨RX6, "luck", "(Z)I"⟩
abbrev cX6_lost : ByteArray := prog_1_method_24_code
def yX6_lost : MethodName := ⟨RX6, "lost", "(IZ)I"⟩
abbrev cX6_seed : ByteArray := prog_1_method_25_code
def yX6_seed : MethodName := ⟨RX6, "seed", "(J)J"⟩
abbrev cX6_drawn : ByteArray := prog_1_method_26_code
def yX6_drawn : MethodName := ⟨RX6, "drawn", "(I)I"⟩
abbrev cX6_keep : ByteArray := prog_1_method_27_code
def yX6_keep : MethodName := ⟨RX6, "keep", "(I)I"⟩
abbrev cX6_again : ByteArray := prog_1_method_28_code
def yX6_again : MethodName := ⟨RX6, "again", "(I)I"⟩
abbrev cX6_count : ByteArray := prog_1_method_29_code
def yX6_count : MethodName := ⟨RX6, "count", "(I)I"⟩
abbrev cX6_settle : ByteArray := prog_1_method_30_code
def yX6_settle : MethodName := ⟨RX6, "settle", "(LAvoidColours$Task;)I"⟩
abbrev cX6_refusalOfPaint : ByteArray := prog_1_method_31_code
def yX6_refusalOfPaint : MethodName := ⟨RX6, "refusalOfPaint", "(LAvoidColours$Task;II)I"⟩
abbrev cX6_refusalOfPin : ByteArray := prog_1_method_32_code
def yX6_refusalOfPin : MethodName := ⟨RX6, "refusalOfPin", "(LAvoidColours$Task;II)I"⟩
abbrev cX6_reachable : ByteArray := prog_1_method_33_code
def yX6_reachable : MethodName := ⟨RX6, "reachable", "(I)Z"⟩
abbrev cX6_factor : ByteArray := prog_1_method_34_code
def yX6_factor : MethodName := ⟨RX6, "factor", "(I)Z"⟩
abbrev cX6_limit : ByteArray := prog_1_method_35_code
def yX6_limit : MethodName := ⟨RX6, "limit", "(LAvoidColours$Task;)I"⟩
abbrev cX6_forcedNumbers : ByteArray := prog_1_method_36_code
def yX6_forcedNumbers : MethodName := ⟨RX6, "forcedNumbers", "()I"⟩
abbrev cX6_paintable : ByteArray := prog_1_method_37_code
def yX6_paintable : MethodName := ⟨RX6, "paintable", "()I"⟩
abbrev cX6_cutDoings : ByteArray := prog_1_method_38_code
def yX6_cutDoings : MethodName := ⟨RX6, "cutDoings", "(JI)J"⟩
abbrev cX6_stands : ByteArray := prog_1_method_39_code
def yX6_stands : MethodName := ⟨RX6, "stands", "(I)Z"⟩
abbrev cX6_drawAll : ByteArray := prog_1_method_40_code
def yX6_drawAll : MethodName := ⟨RX6, "drawAll", "()I"⟩
abbrev cX6_draw : ByteArray := prog_1_method_41_code
def yX6_draw : MethodName := ⟨RX6, "draw", "(I)Z"⟩
abbrev cX6_slotAt : ByteArray := prog_1_method_42_code
def yX6_slotAt : MethodName := ⟨RX6, "slotAt", "(I)LAvoidColours$Task;"⟩
abbrev cX6_empty : ByteArray := prog_1_method_43_code
def yX6_empty : MethodName := ⟨RX6, "empty", "(LAvoidColours$Task;)V"⟩
abbrev cX6_power : ByteArray := prog_1_method_44_code
def yX6_power : MethodName := ⟨RX6, "power", "(II)J"⟩
abbrev cX6_factorial : ByteArray := prog_1_method_45_code
def yX6_factorial : MethodName := ⟨RX6, "factorial", "(I)J"⟩
abbrev cX6_fraction : ByteArray := prog_1_method_46_code
def yX6_fraction : MethodName := ⟨RX6, "fraction", "(JJZ)I"⟩
def RX7 : String := "AvoidColoursModel"
def TX7 : u_T := fun k => match k with
  | 0 => ("AvoidColoursModel", "thrown", "I", false)
  | 1 => ("AvoidColoursModel", "text", "[I", true)
  | 2 => ("AvoidColoursModel", "textSize", "I", false)
  | 3 => ("AvoidColoursModel", "place", "I", false)
  | 4 => ("AvoidColoursModel", "names", "I", false)
  | 5 => ("AvoidColoursModel", "readNames", "I", false)
  | 6 => ("AvoidColoursModel", "readPage", "[I", true)
  | 7 => ("AvoidColoursModel", "page", "[I", true)
  | 8 => ("AvoidColoursModel", "trial", "[I", true)
  | 9 => ("AvoidColoursModel", "book", "[I", true)
  | 10 => ("AvoidColoursModel", "doings", "I", false)
  | 11 => ("AvoidColoursModel", "kept", "[I", true)
  | 12 => ("AvoidColoursModel", "isKept", "[Z", true)
  | 13 => ("AvoidColoursModel", "seen", "I", false)
  | 14 => ("AvoidColoursModel", "seenOne", "[I", true)
  | 15 => ("AvoidColoursModel", "seenOther", "[I", true)
  | 16 => ("AvoidColoursModel", "seenWas", "[I", true)
  | 17 => ("AvoidColoursModel", "seed", "J", false)
  | 18 => ("AvoidColoursModel", "sets", "[I", true)
  | 19 => ("AvoidColoursModel", "from", "[I", true)
  | 20 => ("AvoidColoursModel", "way", "[I", true)
  | 21 => ("AvoidColoursModel", "of", "[I", true)
  | 22 => ("AvoidColoursModel", "far", "I", false)
  | 23 => ("AvoidColoursModel", "pinned", "Z", false)
  | 24 => ("AvoidColoursModel", "begun", "Z", false)
  | 25 => ("AvoidColoursModel", "by", "[I", false)
  | 26 => ("AvoidColoursModel", "met", "[Z", true)
  | _ => ("AvoidColoursModel", "went", "[Z", true)
def tyX7 : Nat → FieldType := fun k => match k with
  | 0 => .int
  | 1 => .array .int
  | 2 => .int
  | 3 => .int
  | 4 => .int
  | 5 => .int
  | 6 => .array .int
  | 7 => .array .int
  | 8 => .array .int
  | 9 => .array .int
  | 10 => .int
  | 11 => .array .int
  | 12 => .array .boolean
  | 13 => .int
  | 14 => .array .int
  | 15 => .array .int
  | 16 => .array .int
  | 17 => .long
  | 18 => .array .int
  | 19 => .array .int
  | 20 => .array .int
  | 21 => .array .int
  | 22 => .int
  | 23 => .boolean
  | 24 => .boolean
  | 25 => .array .int
  | 26 => .array .boolean
  | _ => .array .boolean
theorem nmX7 : ∀ a, a < 28 → ∀ b, b < 28 → a ≠ b → (TX7 a).2.1 ≠ (TX7 b).2.1 := by decide +kernel
theorem tyX7_ok : ∀ k, k < 28 → parseFieldDescriptor (TX7 k).2.2.1 = some (tyX7 k) := by decide +kernel
abbrev cX7_init : ByteArray := prog_9_method_1_code
def yX7_init : MethodName := ⟨RX7, "<init>", "()V"⟩
abbrev cX7_in : ByteArray := prog_9_method_3_code
def yX7_in : MethodName := ⟨RX7, "in", "(JJJ)Z"⟩
abbrev cX7_has : ByteArray := prog_9_method_4_code
def yX7_has : MethodName := ⟨RX7, "has", "(II)Z"⟩
abbrev cX7_ones : ByteArray := prog_9_method_5_code
def yX7_ones : MethodName := ⟨RX7, "ones", "(I)I"⟩
abbrev cX7_power : ByteArray := prog_9_method_6_code
def yX7_power : MethodName := ⟨RX7, "power", "(II)I"⟩
abbrev cX7_layTrial : ByteArray := prog_9_method_7_code
def yX7_layTrial : MethodName := ⟨RX7, "layTrial", "()V"⟩
abbrev cX7_write : ByteArray := prog_9_method_8_code
def yX7_write : MethodName := ⟨RX7, "write", "(I)I"⟩
abbrev cX7_wipe : ByteArray := prog_9_method_9_code
def yX7_wipe : MethodName := ⟨RX7, "wipe", "()I"⟩
abbrev cX7_figure : ByteArray := prog_9_method_10_code
def yX7_figure : MethodName := ⟨RX7, "figure", "(II)I"⟩
abbrev cX7_factor : ByteArray := prog_9_method_11_code
def yX7_factor : MethodName := ⟨RX7, "factor", "()I"⟩
abbrev cX7_readEquation : ByteArray := prog_9_method_12_code
def yX7_readEquation : MethodName := ⟨RX7, "readEquation", "()Z"⟩
abbrev cX7_isBare : ByteArray := prog_9_method_13_code
def yX7_isBare : MethodName := ⟨RX7, "isBare", "(I)Z"⟩
abbrev cX7_readPin : ByteArray := prog_9_method_14_code
def yX7_readPin : MethodName := ⟨RX7, "readPin", "()Z"⟩
abbrev cX7_readTask : ByteArray := prog_9_method_15_code
def yX7_readTask : MethodName := ⟨RX7, "readTask", "()I"⟩
abbrev cX7_fault : ByteArray := prog_9_method_16_code
def yX7_fault : MethodName := ⟨RX7, "fault", "()I"⟩
abbrev cX7_task : ByteArray := prog_9_method_17_code
def yX7_task : MethodName := ⟨RX7, "task", "()I"⟩
abbrev cX7_third : ByteArray := prog_9_method_18_code
def yX7_third : MethodName := ⟨RX7, "third", "([IIIII)I"⟩
abbrev cX7_greatest : ByteArray := prog_9_method_19_code
def yX7_greatest : MethodName := ⟨RX7, "greatest", "(III)I"⟩
abbrev cX7_laySets : ByteArray := prog_9_method_20_code
def yX7_laySets : MethodName := ⟨RX7, "laySets", "([II)V"⟩
abbrev cX7_may : ByteArray := prog_9_method_21_code
def yX7_may : MethodName := ⟨RX7, "may", "(II)Z"⟩
abbrev cX7_allows : ByteArray := prog_9_method_22_code
def yX7_allows : MethodName := ⟨RX7, "allows", "(II)Z"⟩
abbrev cX7_begin : ByteArray := prog_9_method_23_code
def yX7_begin : MethodName := ⟨RX7, "begin", "([IIIZ)V"⟩
abbrev cX7_all : ByteArray := prog_9_method_24_code
def yX7_all : MethodName := ⟨RX7, "all", "([I)I"⟩
abbrev cX7_next : ByteArray := prog_9_method_25_code
def yX7_next : MethodName := ⟨RX7, "next", "(I)Z"⟩
abbrev cX7_more : ByteArray := prog_9_method_26_code
def yX7_more : MethodName := ⟨RX7, "more", "()Z"⟩
abbrev cX7_beginAll : ByteArray := prog_9_method_27_code
def yX7_beginAll : MethodName := ⟨RX7, "beginAll", "([I)V"⟩
abbrev cX7_manyBy : ByteArray := prog_9_method_28_code
def yX7_manyBy : MethodName := ⟨RX7, "manyBy", "([II)I"⟩
abbrev cX7_manyOf : ByteArray := prog_9_method_29_code
def yX7_manyOf : MethodName := ⟨RX7, "manyOf", "([I)I"⟩
abbrev cX7_isWay : ByteArray := prog_9_method_30_code
def yX7_isWay : MethodName := ⟨RX7, "isWay", "([I)Z"⟩
abbrev cX7_numberOf : ByteArray := prog_9_method_31_code
def yX7_numberOf : MethodName := ⟨RX7, "numberOf", "([I)I"⟩
abbrev cX7_take : ByteArray := prog_9_method_32_code
def yX7_take : MethodName := ⟨RX7, "take", "([IZ)V"⟩
abbrev cX7_settleOn : ByteArray := prog_9_method_33_code
def yX7_settleOn : MethodName := ⟨RX7, "settleOn", "([I)V"⟩
abbrev cX7_isRegular : ByteArray := prog_9_method_34_code
def yX7_isRegular : MethodName := ⟨RX7, "isRegular", "([II)Z"⟩
abbrev cX7_solutionAt : ByteArray := prog_9_method_35_code
def yX7_solutionAt : MethodName := ⟨RX7, "solutionAt", "(II)I"⟩
abbrev cX7_noEquation : ByteArray := prog_9_method_36_code
def yX7_noEquation : MethodName := ⟨RX7, "noEquation", "(I)Z"⟩
abbrev cX7_equation : ByteArray := prog_9_method_37_code
def yX7_equation : MethodName := ⟨RX7, "equation", "(II)I"⟩
abbrev cX7_solution : ByteArray := prog_9_method_38_code
def yX7_solution : MethodName := ⟨RX7, "solution", "(II)I"⟩
abbrev cX7_noNumber : ByteArray := prog_9_method_39_code
def yX7_noNumber : MethodName := ⟨RX7, "noNumber", "(I)Z"⟩
abbrev cX7_mayBe : ByteArray := prog_9_method_40_code
def yX7_mayBe : MethodName := ⟨RX7, "mayBe", "([II)I"⟩
abbrev cX7_number : ByteArray := prog_9_method_41_code
def yX7_number : MethodName := ⟨RX7, "number", "(II)I"⟩
abbrev cX7_note : ByteArray := prog_9_method_42_code
def yX7_note : MethodName := ⟨RX7, "note", "()V"⟩
abbrev cX7_go : ByteArray := prog_9_method_43_code
def yX7_go : MethodName := ⟨RX7, "go", "(I)I"⟩
abbrev cX7_paintOn : ByteArray := prog_9_method_44_code
def yX7_paintOn : MethodName := ⟨RX7, "paintOn", "([III)Z"⟩
abbrev cX7_paint : ByteArray := prog_9_method_45_code
def yX7_paint : MethodName := ⟨RX7, "paint", "(II)I"⟩
abbrev cX7_reachOn : ByteArray := prog_9_method_46_code
def yX7_reachOn : MethodName := ⟨RX7, "reachOn", "([II)V"⟩
abbrev cX7_reach : ByteArray := prog_9_method_47_code
def yX7_reach : MethodName := ⟨RX7, "reach", "(I)I"⟩
abbrev cX7_isFactor : ByteArray := prog_9_method_48_code
def yX7_isFactor : MethodName := ⟨RX7, "isFactor", "(I)Z"⟩
abbrev cX7_add : ByteArray := prog_9_method_49_code
def yX7_add : MethodName := ⟨RX7, "add", "(IIII)I"⟩
abbrev cX7_drop : ByteArray := prog_9_method_50_code
def yX7_drop : MethodName := ⟨RX7, "drop", "()I"⟩
abbrev cX7_pin : ByteArray := prog_9_method_51_code
def yX7_pin : MethodName := ⟨RX7, "pin", "(II)I"⟩
abbrev cX7_undo : ByteArray := prog_9_method_52_code
def yX7_undo : MethodName := ⟨RX7, "undo", "()I"⟩
abbrev cX7_least : ByteArray := prog_9_method_53_code
def yX7_least : MethodName := ⟨RX7, "least", "([I)I"⟩
abbrev cX7_forced : ByteArray := prog_9_method_54_code
def yX7_forced : MethodName := ⟨RX7, "forced", "([I)I"⟩
abbrev cX7_paints : ByteArray := prog_9_method_55_code
def yX7_paints : MethodName := ⟨RX7, "paints", "()I"⟩
abbrev cX7_codeOf : ByteArray := prog_9_method_56_code
def yX7_codeOf : MethodName := ⟨RX7, "codeOf", "()I"⟩
abbrev cX7_kinds : ByteArray := prog_9_method_57_code
def yX7_kinds : MethodName := ⟨RX7, "kinds", "()I"⟩
abbrev cX7_ends : ByteArray := prog_9_method_58_code
def yX7_ends : MethodName := ⟨RX7, "ends", "()I"⟩
abbrev cX7_ask : ByteArray := prog_9_method_59_code
def yX7_ask : MethodName := ⟨RX7, "ask", "(I)I"⟩
abbrev cX7_on : ByteArray := prog_9_method_60_code
def yX7_on : MethodName := ⟨RX7, "on", "()I"⟩
abbrev cX7_does : ByteArray := prog_9_method_61_code
def yX7_does : MethodName := ⟨RX7, "does", "(IIII)Z"⟩
abbrev cX7_longPower : ByteArray := prog_9_method_62_code
def yX7_longPower : MethodName := ⟨RX7, "longPower", "(JI)J"⟩
abbrev cX7_judge : ByteArray := prog_9_method_63_code
def yX7_judge : MethodName := ⟨RX7, "judge", "(IJ)I"⟩
abbrev cX7_see : ByteArray := prog_9_method_64_code
def yX7_see : MethodName := ⟨RX7, "see", "(III)I"⟩
abbrev cX7_unsee : ByteArray := prog_9_method_65_code
def yX7_unsee : MethodName := ⟨RX7, "unsee", "()I"⟩
abbrev cX7_which : ByteArray := prog_9_method_66_code
def yX7_which : MethodName := ⟨RX7, "which", "(I)I"⟩
abbrev cX7_divisor : ByteArray := prog_9_method_67_code
def yX7_divisor : MethodName := ⟨RX7, "divisor", "(II)I"⟩
abbrev cX7_fraction : ByteArray := prog_9_method_68_code
def yX7_fraction : MethodName := ⟨RX7, "fraction", "(IIZ)I"⟩
abbrev cX7_factorial : ByteArray := prog_9_method_69_code
def yX7_factorial : MethodName := ⟨RX7, "factorial", "(I)I"⟩
abbrev cX7_share : ByteArray := prog_9_method_70_code
def yX7_share : MethodName := ⟨RX7, "share", "(IZ)I"⟩
abbrev cX7_luck : ByteArray := prog_9_method_71_code
def yX7_luck : MethodName := ⟨RX7, "luck", "(Z)I"⟩
abbrev cX7_lost : ByteArray := prog_9_method_72_code
def yX7_lost : MethodName := ⟨RX7, "lost", "(IZ)I"⟩
abbrev cX7_seed : ByteArray := prog_9_method_73_code
def yX7_seed : MethodName := ⟨RX7, "seed", "(J)J"⟩
abbrev cX7_drawFor : ByteArray := prog_9_method_74_code
def yX7_drawFor : MethodName := ⟨RX7, "drawFor", "(I)Z"⟩
abbrev cX7_drawn : ByteArray := prog_9_method_75_code
def yX7_drawn : MethodName := ⟨RX7, "drawn", "(I)I"⟩
abbrev cX7_keep : ByteArray := prog_9_method_76_code
def yX7_keep : MethodName := ⟨RX7, "keep", "(I)I"⟩
abbrev cX7_again : ByteArray := prog_9_method_77_code
def yX7_again : MethodName := ⟨RX7, "again", "(I)I"⟩
abbrev cX7_pins : ByteArray := prog_9_method_78_code
def yX7_pins : MethodName := ⟨RX7, "pins", "()I"⟩
abbrev cX7_count : ByteArray := prog_9_method_79_code
def yX7_count : MethodName := ⟨RX7, "count", "(I)I"⟩
def RJ6 : String := "java/lang/Integer"
abbrev cJ6_bitCount_0f7a4 : ByteArray := prog_10_method_49_code
def yJ6_bitCount_0f7a4 : MethodName := ⟨RJ6, "bitCount", "(I)I"⟩
def RJ9 : String := "java/lang/Math"
abbrev cJ9_max_7cf53 : ByteArray := prog_11_method_65_code
def yJ9_max_7cf53 : MethodName := ⟨RJ9, "max", "(II)I"⟩
abbrev cJ9_min_7cf53 : ByteArray := prog_11_method_69_code
def yJ9_min_7cf53 : MethodName := ⟨RJ9, "min", "(II)I"⟩
def RJ10 : String := "java/lang/System"
def RJ7 : String := "java/util/Arrays"
abbrev cJ7_fill_53178 : ByteArray := prog_13_method_103_code
def yJ7_fill_53178 : MethodName := ⟨RJ7, "fill", "([II)V"⟩
def RL : String := "AvoidColoursLaw"
abbrev cL_law : ByteArray := code
def yL_law : MethodName := ⟨RL, "law", "([I)Z"⟩
abbrev vwCl : List vw_C := [(RX0, TX0, 2), (RX1, TX1, 3), (RX2, TX2, 3), (RX3, TX3, 7), (RX4, TX4, 3), (RX5, TX5, 15), (RX6, TX6, 9), (RX7, TX7, 28)]
end
section
theorem dX0_init_0 : decode cX0_init 0 = .ok (.aload_n 0, 1) := by decide +kernel
theorem dX0_init_1 : decode cX0_init 1 = .ok (.invokespecial 3, 3) := by decide +kernel
theorem dX0_init_4 : decode cX0_init 4 = .ok (.aload_n 0, 1) := by decide +kernel
theorem dX0_init_5 : decode cX0_init 5 = .ok (.sipush 2048, 3) := by decide +kernel
theorem dX0_init_8 : decode cX0_init 8 = .ok (.newarray .int, 2) := by decide +kernel
theorem dX0_init_10 : decode cX0_init 10 = .ok (.putfield 11, 3) := by decide +kernel
theorem dX0_init_13 : decode cX0_init 13 = .ok (.aload_n 0, 1) := by decide +kernel
theorem dX0_init_14 : decode cX0_init 14 = .ok (.new 15, 3) := by decide +kernel
theorem dX0_init_17 : decode cX0_init 17 = .ok (.dup, 1) := by decide +kernel
theorem dX0_init_18 : decode cX0_init 18 = .ok (.invokespecial 17, 3) := by decide +kernel
theorem dX0_init_21 : decode cX0_init 21 = .ok (.putfield 18, 3) := by decide +kernel
theorem dX0_init_24 : decode cX0_init 24 = .ok (.return_, 1) := by decide +kernel
theorem dX0_fit_0 : decode cX0_fit 0 = .ok (.aload_n 0, 1) := by decide +kernel
theorem dX0_fit_1 : decode cX0_fit 1 = .ok (.aload_n 1, 1) := by decide +kernel
theorem dX0_fit_2 : decode cX0_fit 2 = .ok (.invokevirtual 22, 3) := by decide +kernel
theorem dX0_fit_5 : decode cX0_fit 5 = .ok (.ifCond .eq 4, 3) := by decide +kernel
theorem dX0_fit_8 : decode cX0_fit 8 = .ok (.return_, 1) := by decide +kernel
theorem dX0_fit_9 : decode cX0_fit 9 = .ok (.aload_n 0, 1) := by decide +kernel
theorem dX0_fit_10 : decode cX0_fit 10 = .ok (.getfield 18, 3) := by decide +kernel
theorem dX0_fit_13 : decode cX0_fit 13 = .ok (.aload_n 1, 1) := by decide +kernel
theorem dX0_fit_14 : decode cX0_fit 14 = .ok (.invokevirtual 26, 3) := by decide +kernel
theorem dX0_fit_17 : decode cX0_fit 17 = .ok (.aload_n 0, 1) := by decide +kernel
theorem dX0_fit_18 : decode cX0_fit 18 = .ok (.getfield 11, 3) := by decide +kernel
theorem dX0_fit_21 : decode cX0_fit 21 = .ok (.iconst 0, 1) := by decide +kernel
theorem dX0_fit_22 : decode cX0_fit 22 = .ok (.invokestatic 30, 3) := by decide +kernel
theorem dX0_fit_25 : decode cX0_fit 25 = .ok (.iconst 0, 1) := by decide +kernel
theorem dX0_fit_26 : decode cX0_fit 26 = .ok (.istore_n 2, 1) := by decide +kernel
theorem dX0_fit_27 : decode cX0_fit 27 = .ok (.iload_n 2, 1) := by decide +kernel
theorem dX0_fit_28 : decode cX0_fit 28 = .ok (.aload_n 0, 1) := by decide +kernel
theorem dX0_fit_29 : decode cX0_fit 29 = .ok (.getfield 18, 3) := by decide +kernel
theorem dX0_fit_32 : decode cX0_fit 32 = .ok (.getfield 36, 3) := by decide +kernel
theorem dX0_fit_35 : decode cX0_fit 35 = .ok (.if_icmp .ge 91, 3) := by decide +kernel
theorem dX0_fit_38 : decode cX0_fit 38 = .ok (.iconst 1, 1) := by decide +kernel
theorem dX0_fit_39 : decode cX0_fit 39 = .ok (.istore_n 3, 1) := by decide +kernel
theorem dX0_fit_40 : decode cX0_fit 40 = .ok (.iload_n 3, 1) := by decide +kernel
theorem dX0_fit_41 : decode cX0_fit 41 = .ok (.bipush 10, 2) := by decide +kernel
theorem dX0_fit_43 : decode cX0_fit 43 = .ok (.if_icmp .gt 77, 3) := by decide +kernel
theorem dX0_fit_46 : decode cX0_fit 46 = .ok (.iconst 1, 1) := by decide +kernel
theorem dX0_fit_47 : decode cX0_fit 47 = .ok (.istore 4, 2) := by decide +kernel
theorem dX0_fit_49 : decode cX0_fit 49 = .ok (.iload 4, 2) := by decide +kernel
theorem dX0_fit_51 : decode cX0_fit 51 = .ok (.bipush 10, 2) := by decide +kernel
theorem dX0_fit_53 : decode cX0_fit 53 = .ok (.if_icmp .gt 61, 3) := by decide +kernel
theorem dX0_fit_56 : decode cX0_fit 56 = .ok (.aload_n 0, 1) := by decide +kernel
theorem dX0_fit_57 : decode cX0_fit 57 = .ok (.getfield 18, 3) := by decide +kernel
theorem dX0_fit_60 : decode cX0_fit 60 = .ok (.iload_n 2, 1) := by decide +kernel
theorem dX0_fit_61 : decode cX0_fit 61 = .ok (.iload_n 3, 1) := by decide +kernel
theorem dX0_fit_62 : decode cX0_fit 62 = .ok (.iload 4, 2) := by decide +kernel
theorem dX0_fit_64 : decode cX0_fit 64 = .ok (.bipush 10, 2) := by decide +kernel
theorem dX0_fit_66 : decode cX0_fit 66 = .ok (.invokevirtual 40, 3) := by decide +kernel
theorem dX0_fit_69 : decode cX0_fit 69 = .ok (.istore 5, 2) := by decide +kernel
theorem dX0_fit_71 : decode cX0_fit 71 = .ok (.iload 5, 2) := by decide +kernel
theorem dX0_fit_73 : decode cX0_fit 73 = .ok (.iconst 1, 1) := by decide +kernel
theorem dX0_fit_74 : decode cX0_fit 74 = .ok (.if_icmp .lt 34, 3) := by decide +kernel
theorem dX0_fit_77 : decode cX0_fit 77 = .ok (.iload 5, 2) := by decide +kernel
theorem dX0_fit_79 : decode cX0_fit 79 = .ok (.bipush 10, 2) := by decide +kernel
theorem dX0_fit_81 : decode cX0_fit 81 = .ok (.if_icmp .gt 27, 3) := by decide +kernel
theorem dX0_fit_84 : decode cX0_fit 84 = .ok (.aload_n 0, 1) := by decide +kernel
theorem dX0_fit_85 : decode cX0_fit 85 = .ok (.getfield 11, 3) := by decide +kernel
theorem dX0_fit_88 : decode cX0_fit 88 = .ok (.iconst 1, 1) := by decide +kernel
theorem dX0_fit_89 : decode cX0_fit 89 = .ok (.iload_n 3, 1) := by decide +kernel
theorem dX0_fit_90 : decode cX0_fit 90 = .ok (.ishl, 1) := by decide +kernel
theorem dX0_fit_91 : decode cX0_fit 91 = .ok (.iconst 1, 1) := by decide +kernel
theorem dX0_fit_92 : decode cX0_fit 92 = .ok (.iload 4, 2) := by decide +kernel
theorem dX0_fit_94 : decode cX0_fit 94 = .ok (.ishl, 1) := by decide +kernel
theorem dX0_fit_95 : decode cX0_fit 95 = .ok (.ior, 1) := by decide +kernel
theorem dX0_fit_96 : decode cX0_fit 96 = .ok (.iconst 1, 1) := by decide +kernel
theorem dX0_fit_97 : decode cX0_fit 97 = .ok (.iload 5, 2) := by decide +kernel
theorem dX0_fit_99 : decode cX0_fit 99 = .ok (.ishl, 1) := by decide +kernel
theorem dX0_fit_100 : decode cX0_fit 100 = .ok (.ior, 1) := by decide +kernel
theorem dX0_fit_101 : decode cX0_fit 101 = .ok (.dup2, 1) := by decide +kernel
theorem dX0_fit_102 : decode cX0_fit 102 = .ok (.iaload, 1) := by decide +kernel
theorem dX0_fit_103 : decode cX0_fit 103 = .ok (.iconst 1, 1) := by decide +kernel
theorem dX0_fit_104 : decode cX0_fit 104 = .ok (.iload_n 2, 1) := by decide +kernel
theorem dX0_fit_105 : decode cX0_fit 105 = .ok (.ishl, 1) := by decide +kernel
theorem dX0_fit_106 : decode cX0_fit 106 = .ok (.ior, 1) := by decide +kernel
theorem dX0_fit_107 : decode cX0_fit 107 = .ok (.iastore, 1) := by decide +kernel
theorem dX0_fit_108 : decode cX0_fit 108 = .ok (.iinc 4 1, 3) := by decide +kernel
theorem dX0_fit_111 : decode cX0_fit 111 = .ok (.goto (-62), 3) := by decide +kernel
theorem dX0_fit_114 : decode cX0_fit 114 = .ok (.iinc 3 1, 3) := by decide +kernel
theorem dX0_fit_117 : decode cX0_fit 117 = .ok (.goto (-77), 3) := by decide +kernel
theorem dX0_fit_120 : decode cX0_fit 120 = .ok (.iinc 2 1, 3) := by decide +kernel
theorem dX0_fit_123 : decode cX0_fit 123 = .ok (.goto (-96), 3) := by decide +kernel
theorem dX0_fit_126 : decode cX0_fit 126 = .ok (.aload_n 0, 1) := by decide +kernel
theorem dX0_fit_127 : decode cX0_fit 127 = .ok (.invokevirtual 44, 3) := by decide +kernel
theorem dX0_fit_130 : decode cX0_fit 130 = .ok (.return_, 1) := by decide +kernel
theorem dX0_sameEquations_0 : decode cX0_sameEquations 0 = .ok (.aload_n 1, 1) := by decide +kernel
theorem dX0_sameEquations_1 : decode cX0_sameEquations 1 = .ok (.getfield 36, 3) := by decide +kernel
theorem dX0_sameEquations_4 : decode cX0_sameEquations 4 = .ok (.aload_n 0, 1) := by decide +kernel
theorem dX0_sameEquations_5 : decode cX0_sameEquations 5 = .ok (.getfield 18, 3) := by decide +kernel
theorem dX0_sameEquations_8 : decode cX0_sameEquations 8 = .ok (.getfield 36, 3) := by decide +kernel
theorem dX0_sameEquations_11 : decode cX0_sameEquations 11 = .ok (.if_icmp .eq 5, 3) := by decide +kernel
theorem dX0_sameEquations_14 : decode cX0_sameEquations 14 = .ok (.iconst 0, 1) := by decide +kernel
theorem dX0_sameEquations_15 : decode cX0_sameEquations 15 = .ok (.ireturn, 1) := by decide +kernel
theorem dX0_sameEquations_16 : decode cX0_sameEquations 16 = .ok (.iconst 4, 1) := by decide +kernel
theorem dX0_sameEquations_17 : decode cX0_sameEquations 17 = .ok (.aload_n 1, 1) := by decide +kernel
theorem dX0_sameEquations_18 : decode cX0_sameEquations 18 = .ok (.getfield 36, 3) := by decide +kernel
theorem dX0_sameEquations_21 : decode cX0_sameEquations 21 = .ok (.imul, 1) := by decide +kernel
theorem dX0_sameEquations_22 : decode cX0_sameEquations 22 = .ok (.istore_n 2, 1) := by decide +kernel
theorem dX0_sameEquations_23 : decode cX0_sameEquations 23 = .ok (.iconst 0, 1) := by decide +kernel
theorem dX0_sameEquations_24 : decode cX0_sameEquations 24 = .ok (.istore_n 3, 1) := by decide +kernel
theorem dX0_sameEquations_25 : decode cX0_sameEquations 25 = .ok (.iload_n 3, 1) := by decide +kernel
theorem dX0_sameEquations_26 : decode cX0_sameEquations 26 = .ok (.iload_n 2, 1) := by decide +kernel
theorem dX0_sameEquations_27 : decode cX0_sameEquations 27 = .ok (.if_icmp .ge 50, 3) := by decide +kernel
theorem dX0_sameEquations_30 : decode cX0_sameEquations 30 = .ok (.iload_n 3, 1) := by decide +kernel
theorem dX0_sameEquations_31 : decode cX0_sameEquations 31 = .ok (.aload_n 1, 1) := by decide +kernel
theorem dX0_sameEquations_32 : decode cX0_sameEquations 32 = .ok (.getfield 47, 3) := by decide +kernel
theorem dX0_sameEquations_35 : decode cX0_sameEquations 35 = .ok (.arraylength, 1) := by decide +kernel
theorem dX0_sameEquations_36 : decode cX0_sameEquations 36 = .ok (.if_icmp .ge 41, 3) := by decide +kernel
theorem dX0_sameEquations_39 : decode cX0_sameEquations 39 = .ok (.iload_n 3, 1) := by decide +kernel
theorem dX0_sameEquations_40 : decode cX0_sameEquations 40 = .ok (.aload_n 0, 1) := by decide +kernel
theorem dX0_sameEquations_41 : decode cX0_sameEquations 41 = .ok (.getfield 18, 3) := by decide +kernel
theorem dX0_sameEquations_44 : decode cX0_sameEquations 44 = .ok (.getfield 47, 3) := by decide +kernel
theorem dX0_sameEquations_47 : decode cX0_sameEquations 47 = .ok (.arraylength, 1) := by decide +kernel
theorem dX0_sameEquations_48 : decode cX0_sameEquations 48 = .ok (.if_icmp .ge 29, 3) := by decide +kernel
theorem dX0_sameEquations_51 : decode cX0_sameEquations 51 = .ok (.aload_n 1, 1) := by decide +kernel
theorem dX0_sameEquations_52 : decode cX0_sameEquations 52 = .ok (.getfield 47, 3) := by decide +kernel
theorem dX0_sameEquations_55 : decode cX0_sameEquations 55 = .ok (.iload_n 3, 1) := by decide +kernel
theorem dX0_sameEquations_56 : decode cX0_sameEquations 56 = .ok (.iaload, 1) := by decide +kernel
theorem dX0_sameEquations_57 : decode cX0_sameEquations 57 = .ok (.aload_n 0, 1) := by decide +kernel
theorem dX0_sameEquations_58 : decode cX0_sameEquations 58 = .ok (.getfield 18, 3) := by decide +kernel
theorem dX0_sameEquations_61 : decode cX0_sameEquations 61 = .ok (.getfield 47, 3) := by decide +kernel
theorem dX0_sameEquations_64 : decode cX0_sameEquations 64 = .ok (.iload_n 3, 1) := by decide +kernel
theorem dX0_sameEquations_65 : decode cX0_sameEquations 65 = .ok (.iaload, 1) := by decide +kernel
theorem dX0_sameEquations_66 : decode cX0_sameEquations 66 = .ok (.if_icmp .eq 5, 3) := by decide +kernel
theorem dX0_sameEquations_69 : decode cX0_sameEquations 69 = .ok (.iconst 0, 1) := by decide +kernel
theorem dX0_sameEquations_70 : decode cX0_sameEquations 70 = .ok (.ireturn, 1) := by decide +kernel
theorem dX0_sameEquations_71 : decode cX0_sameEquations 71 = .ok (.iinc 3 1, 3) := by decide +kernel
theorem dX0_sameEquations_74 : decode cX0_sameEquations 74 = .ok (.goto (-49), 3) := by decide +kernel
theorem dX0_sameEquations_77 : decode cX0_sameEquations 77 = .ok (.iconst 1, 1) := by decide +kernel
theorem dX0_sameEquations_78 : decode cX0_sameEquations 78 = .ok (.ireturn, 1) := by decide +kernel
theorem dX0_spread_0 : decode cX0_spread 0 = .ok (.iconst 0, 1) := by decide +kernel
theorem dX0_spread_1 : decode cX0_spread 1 = .ok (.istore_n 1, 1) := by decide +kernel
theorem dX0_spread_2 : decode cX0_spread 2 = .ok (.iload_n 1, 1) := by decide +kernel
theorem dX0_spread_3 : decode cX0_spread 3 = .ok (.sipush 2048, 3) := by decide +kernel
theorem dX0_spread_6 : decode cX0_spread 6 = .ok (.if_icmp .ge 44, 3) := by decide +kernel
theorem dX0_spread_9 : decode cX0_spread 9 = .ok (.iconst 1, 1) := by decide +kernel
theorem dX0_spread_10 : decode cX0_spread 10 = .ok (.istore_n 2, 1) := by decide +kernel
theorem dX0_spread_11 : decode cX0_spread 11 = .ok (.iload_n 2, 1) := by decide +kernel
theorem dX0_spread_12 : decode cX0_spread 12 = .ok (.bipush 10, 2) := by decide +kernel
theorem dX0_spread_14 : decode cX0_spread 14 = .ok (.if_icmp .gt 30, 3) := by decide +kernel
theorem dX0_spread_17 : decode cX0_spread 17 = .ok (.aload_n 0, 1) := by decide +kernel
theorem dX0_spread_18 : decode cX0_spread 18 = .ok (.getfield 11, 3) := by decide +kernel
theorem dX0_spread_21 : decode cX0_spread 21 = .ok (.iload_n 1, 1) := by decide +kernel
theorem dX0_spread_22 : decode cX0_spread 22 = .ok (.dup2, 1) := by decide +kernel
theorem dX0_spread_23 : decode cX0_spread 23 = .ok (.iaload, 1) := by decide +kernel
theorem dX0_spread_24 : decode cX0_spread 24 = .ok (.aload_n 0, 1) := by decide +kernel
theorem dX0_spread_25 : decode cX0_spread 25 = .ok (.getfield 11, 3) := by decide +kernel
theorem dX0_spread_28 : decode cX0_spread 28 = .ok (.iload_n 1, 1) := by decide +kernel
theorem dX0_spread_29 : decode cX0_spread 29 = .ok (.iconst 1, 1) := by decide +kernel
theorem dX0_spread_30 : decode cX0_spread 30 = .ok (.iload_n 2, 1) := by decide +kernel
theorem dX0_spread_31 : decode cX0_spread 31 = .ok (.ishl, 1) := by decide +kernel
theorem dX0_spread_32 : decode cX0_spread 32 = .ok (.iconst (-1), 1) := by decide +kernel
theorem dX0_spread_33 : decode cX0_spread 33 = .ok (.ixor, 1) := by decide +kernel
theorem dX0_spread_34 : decode cX0_spread 34 = .ok (.iand, 1) := by decide +kernel
theorem dX0_spread_35 : decode cX0_spread 35 = .ok (.iaload, 1) := by decide +kernel
theorem dX0_spread_36 : decode cX0_spread 36 = .ok (.ior, 1) := by decide +kernel
theorem dX0_spread_37 : decode cX0_spread 37 = .ok (.iastore, 1) := by decide +kernel
theorem dX0_spread_38 : decode cX0_spread 38 = .ok (.iinc 2 1, 3) := by decide +kernel
theorem dX0_spread_41 : decode cX0_spread 41 = .ok (.goto (-30), 3) := by decide +kernel
theorem dX0_spread_44 : decode cX0_spread 44 = .ok (.iinc 1 1, 3) := by decide +kernel
theorem dX0_spread_47 : decode cX0_spread 47 = .ok (.goto (-45), 3) := by decide +kernel
theorem dX0_spread_50 : decode cX0_spread 50 = .ok (.return_, 1) := by decide +kernel
theorem dX0_in_0 : decode cX0_in 0 = .ok (.iload_n 1, 1) := by decide +kernel
theorem dX0_in_1 : decode cX0_in 1 = .ok (.ifCond .lt 19, 3) := by decide +kernel
theorem dX0_in_4 : decode cX0_in 4 = .ok (.iload_n 1, 1) := by decide +kernel
theorem dX0_in_5 : decode cX0_in 5 = .ok (.sipush 2048, 3) := by decide +kernel
theorem dX0_in_8 : decode cX0_in 8 = .ok (.if_icmp .ge 12, 3) := by decide +kernel
theorem dX0_in_11 : decode cX0_in 11 = .ok (.aload_n 0, 1) := by decide +kernel
theorem dX0_in_12 : decode cX0_in 12 = .ok (.getfield 11, 3) := by decide +kernel
theorem dX0_in_15 : decode cX0_in 15 = .ok (.iload_n 1, 1) := by decide +kernel
theorem dX0_in_16 : decode cX0_in 16 = .ok (.iaload, 1) := by decide +kernel
theorem dX0_in_17 : decode cX0_in 17 = .ok (.goto 4, 3) := by decide +kernel
theorem dX0_in_20 : decode cX0_in 20 = .ok (.iconst 0, 1) := by decide +kernel
theorem dX0_in_21 : decode cX0_in 21 = .ok (.ireturn, 1) := by decide +kernel
theorem dX1_init_0 : decode cX1_init 0 = .ok (.aload_n 0, 1) := by decide +kernel
theorem dX1_init_1 : decode cX1_init 1 = .ok (.invokespecial 1, 3) := by decide +kernel
theorem dX1_init_4 : decode cX1_init 4 = .ok (.aload_n 0, 1) := by decide +kernel
theorem dX1_init_5 : decode cX1_init 5 = .ok (.bipush 14, 2) := by decide +kernel
theorem dX1_init_7 : decode cX1_init 7 = .ok (.anewarray 9, 3) := by decide +kernel
theorem dX1_init_10 : decode cX1_init 10 = .ok (.putfield 11, 3) := by decide +kernel
theorem dX1_init_13 : decode cX1_init 13 = .ok (.iconst 0, 1) := by decide +kernel
theorem dX1_init_14 : decode cX1_init 14 = .ok (.istore_n 1, 1) := by decide +kernel
theorem dX1_init_15 : decode cX1_init 15 = .ok (.iload_n 1, 1) := by decide +kernel
theorem dX1_init_16 : decode cX1_init 16 = .ok (.bipush 14, 2) := by decide +kernel
theorem dX1_init_18 : decode cX1_init 18 = .ok (.if_icmp .ge 22, 3) := by decide +kernel
theorem dX1_init_21 : decode cX1_init 21 = .ok (.aload_n 0, 1) := by decide +kernel
theorem dX1_init_22 : decode cX1_init 22 = .ok (.getfield 11, 3) := by decide +kernel
theorem dX1_init_25 : decode cX1_init 25 = .ok (.iload_n 1, 1) := by decide +kernel
theorem dX1_init_26 : decode cX1_init 26 = .ok (.new 9, 3) := by decide +kernel
theorem dX1_init_29 : decode cX1_init 29 = .ok (.dup, 1) := by decide +kernel
theorem dX1_init_30 : decode cX1_init 30 = .ok (.invokespecial 15, 3) := by decide +kernel
theorem dX1_init_33 : decode cX1_init 33 = .ok (.aastore, 1) := by decide +kernel
theorem dX1_init_34 : decode cX1_init 34 = .ok (.iinc 1 1, 3) := by decide +kernel
theorem dX1_init_37 : decode cX1_init 37 = .ok (.goto (-22), 3) := by decide +kernel
theorem dX1_init_40 : decode cX1_init 40 = .ok (.return_, 1) := by decide +kernel
theorem dX1_remember_0 : decode cX1_remember 0 = .ok (.aload_n 0, 1) := by decide +kernel
theorem dX1_remember_1 : decode cX1_remember 1 = .ok (.aload_n 0, 1) := by decide +kernel
theorem dX1_remember_2 : decode cX1_remember 2 = .ok (.getfield 16, 3) := by decide +kernel
theorem dX1_remember_5 : decode cX1_remember 5 = .ok (.invokevirtual 20, 3) := by decide +kernel
theorem dX1_remember_8 : decode cX1_remember 8 = .ok (.astore_n 2, 1) := by decide +kernel
theorem dX1_remember_9 : decode cX1_remember 9 = .ok (.aload_n 2, 1) := by decide +kernel
theorem dX1_remember_10 : decode cX1_remember 10 = .ok (.ifnonnull 4, 3) := by decide +kernel
theorem dX1_remember_13 : decode cX1_remember 13 = .ok (.return_, 1) := by decide +kernel
theorem dX1_remember_14 : decode cX1_remember 14 = .ok (.aload_n 2, 1) := by decide +kernel
theorem dX1_remember_15 : decode cX1_remember 15 = .ok (.aload_n 1, 1) := by decide +kernel
theorem dX1_remember_16 : decode cX1_remember 16 = .ok (.invokevirtual 24, 3) := by decide +kernel
theorem dX1_remember_19 : decode cX1_remember 19 = .ok (.aload_n 0, 1) := by decide +kernel
theorem dX1_remember_20 : decode cX1_remember 20 = .ok (.aload_n 0, 1) := by decide +kernel
theorem dX1_remember_21 : decode cX1_remember 21 = .ok (.getfield 16, 3) := by decide +kernel
theorem dX1_remember_24 : decode cX1_remember 24 = .ok (.iconst 1, 1) := by decide +kernel
theorem dX1_remember_25 : decode cX1_remember 25 = .ok (.iadd, 1) := by decide +kernel
theorem dX1_remember_26 : decode cX1_remember 26 = .ok (.bipush 14, 2) := by decide +kernel
theorem dX1_remember_28 : decode cX1_remember 28 = .ok (.irem, 1) := by decide +kernel
theorem dX1_remember_29 : decode cX1_remember 29 = .ok (.putfield 16, 3) := by decide +kernel
theorem dX1_remember_32 : decode cX1_remember 32 = .ok (.aload_n 0, 1) := by decide +kernel
theorem dX1_remember_33 : decode cX1_remember 33 = .ok (.aload_n 0, 1) := by decide +kernel
theorem dX1_remember_34 : decode cX1_remember 34 = .ok (.getfield 28, 3) := by decide +kernel
theorem dX1_remember_37 : decode cX1_remember 37 = .ok (.iconst 1, 1) := by decide +kernel
theorem dX1_remember_38 : decode cX1_remember 38 = .ok (.iadd, 1) := by decide +kernel
theorem dX1_remember_39 : decode cX1_remember 39 = .ok (.bipush 14, 2) := by decide +kernel
theorem dX1_remember_41 : decode cX1_remember 41 = .ok (.invokestatic 31, 3) := by decide +kernel
theorem dX1_remember_44 : decode cX1_remember 44 = .ok (.putfield 28, 3) := by decide +kernel
theorem dX1_remember_47 : decode cX1_remember 47 = .ok (.return_, 1) := by decide +kernel
theorem dX1_restore_0 : decode cX1_restore 0 = .ok (.aload_n 0, 1) := by decide +kernel
theorem dX1_restore_1 : decode cX1_restore 1 = .ok (.getfield 16, 3) := by decide +kernel
theorem dX1_restore_4 : decode cX1_restore 4 = .ok (.bipush 14, 2) := by decide +kernel
theorem dX1_restore_6 : decode cX1_restore 6 = .ok (.iadd, 1) := by decide +kernel
theorem dX1_restore_7 : decode cX1_restore 7 = .ok (.iconst 1, 1) := by decide +kernel
theorem dX1_restore_8 : decode cX1_restore 8 = .ok (.isub, 1) := by decide +kernel
theorem dX1_restore_9 : decode cX1_restore 9 = .ok (.bipush 14, 2) := by decide +kernel
theorem dX1_restore_11 : decode cX1_restore 11 = .ok (.irem, 1) := by decide +kernel
theorem dX1_restore_12 : decode cX1_restore 12 = .ok (.istore_n 2, 1) := by decide +kernel
theorem dX1_restore_13 : decode cX1_restore 13 = .ok (.aload_n 0, 1) := by decide +kernel
theorem dX1_restore_14 : decode cX1_restore 14 = .ok (.getfield 28, 3) := by decide +kernel
theorem dX1_restore_17 : decode cX1_restore 17 = .ok (.ifCond .le 11, 3) := by decide +kernel
theorem dX1_restore_20 : decode cX1_restore 20 = .ok (.aload_n 0, 1) := by decide +kernel
theorem dX1_restore_21 : decode cX1_restore 21 = .ok (.iload_n 2, 1) := by decide +kernel
theorem dX1_restore_22 : decode cX1_restore 22 = .ok (.invokevirtual 20, 3) := by decide +kernel
theorem dX1_restore_25 : decode cX1_restore 25 = .ok (.goto 4, 3) := by decide +kernel
theorem dX1_restore_28 : decode cX1_restore 28 = .ok (.aconst_null, 1) := by decide +kernel
theorem dX1_restore_29 : decode cX1_restore 29 = .ok (.astore_n 3, 1) := by decide +kernel
theorem dX1_restore_30 : decode cX1_restore 30 = .ok (.aload_n 3, 1) := by decide +kernel
theorem dX1_restore_31 : decode cX1_restore 31 = .ok (.ifnonnull 5, 3) := by decide +kernel
theorem dX1_restore_34 : decode cX1_restore 34 = .ok (.iconst 0, 1) := by decide +kernel
theorem dX1_restore_35 : decode cX1_restore 35 = .ok (.ireturn, 1) := by decide +kernel
theorem dX1_restore_36 : decode cX1_restore 36 = .ok (.aload_n 1, 1) := by decide +kernel
theorem dX1_restore_37 : decode cX1_restore 37 = .ok (.aload_n 3, 1) := by decide +kernel
theorem dX1_restore_38 : decode cX1_restore 38 = .ok (.invokevirtual 24, 3) := by decide +kernel
theorem dX1_restore_41 : decode cX1_restore 41 = .ok (.aload_n 0, 1) := by decide +kernel
theorem dX1_restore_42 : decode cX1_restore 42 = .ok (.iload_n 2, 1) := by decide +kernel
theorem dX1_restore_43 : decode cX1_restore 43 = .ok (.putfield 16, 3) := by decide +kernel
theorem dX1_restore_46 : decode cX1_restore 46 = .ok (.aload_n 0, 1) := by decide +kernel
theorem dX1_restore_47 : decode cX1_restore 47 = .ok (.dup, 1) := by decide +kernel
theorem dX1_restore_48 : decode cX1_restore 48 = .ok (.getfield 28, 3) := by decide +kernel
theorem dX1_restore_51 : decode cX1_restore 51 = .ok (.iconst 1, 1) := by decide +kernel
theorem dX1_restore_52 : decode cX1_restore 52 = .ok (.isub, 1) := by decide +kernel
theorem dX1_restore_53 : decode cX1_restore 53 = .ok (.putfield 28, 3) := by decide +kernel
theorem dX1_restore_56 : decode cX1_restore 56 = .ok (.iconst 1, 1) := by decide +kernel
theorem dX1_restore_57 : decode cX1_restore 57 = .ok (.ireturn, 1) := by decide +kernel
theorem dX1_forget_0 : decode cX1_forget 0 = .ok (.aload_n 0, 1) := by decide +kernel
theorem dX1_forget_1 : decode cX1_forget 1 = .ok (.iconst 0, 1) := by decide +kernel
theorem dX1_forget_2 : decode cX1_forget 2 = .ok (.putfield 28, 3) := by decide +kernel
theorem dX1_forget_5 : decode cX1_forget 5 = .ok (.return_, 1) := by decide +kernel
theorem dX1_at_0 : decode cX1_at 0 = .ok (.iload_n 1, 1) := by decide +kernel
theorem dX1_at_1 : decode cX1_at 1 = .ok (.ifCond .lt 18, 3) := by decide +kernel
theorem dX1_at_4 : decode cX1_at 4 = .ok (.iload_n 1, 1) := by decide +kernel
theorem dX1_at_5 : decode cX1_at 5 = .ok (.bipush 14, 2) := by decide +kernel
theorem dX1_at_7 : decode cX1_at 7 = .ok (.if_icmp .ge 12, 3) := by decide +kernel
theorem dX1_at_10 : decode cX1_at 10 = .ok (.aload_n 0, 1) := by decide +kernel
theorem dX1_at_11 : decode cX1_at 11 = .ok (.getfield 11, 3) := by decide +kernel
theorem dX1_at_14 : decode cX1_at 14 = .ok (.iload_n 1, 1) := by decide +kernel
theorem dX1_at_15 : decode cX1_at 15 = .ok (.aaload, 1) := by decide +kernel
theorem dX1_at_16 : decode cX1_at 16 = .ok (.goto 4, 3) := by decide +kernel
theorem dX1_at_19 : decode cX1_at 19 = .ok (.aconst_null, 1) := by decide +kernel
theorem dX1_at_20 : decode cX1_at 20 = .ok (.areturn, 1) := by decide +kernel
theorem dX2_init_0 : decode cX2_init 0 = .ok (.aload_n 0, 1) := by decide +kernel
theorem dX2_init_1 : decode cX2_init 1 = .ok (.invokespecial 1, 3) := by decide +kernel
theorem dX2_init_4 : decode cX2_init 4 = .ok (.aload_n 0, 1) := by decide +kernel
theorem dX2_init_5 : decode cX2_init 5 = .ok (.bipush 6, 2) := by decide +kernel
theorem dX2_init_7 : decode cX2_init 7 = .ok (.newarray .int, 2) := by decide +kernel
theorem dX2_init_9 : decode cX2_init 9 = .ok (.putfield 9, 3) := by decide +kernel
theorem dX2_init_12 : decode cX2_init 12 = .ok (.aload_n 0, 1) := by decide +kernel
theorem dX2_init_13 : decode cX2_init 13 = .ok (.bipush 6, 2) := by decide +kernel
theorem dX2_init_15 : decode cX2_init 15 = .ok (.newarray .boolean, 2) := by decide +kernel
theorem dX2_init_17 : decode cX2_init 17 = .ok (.putfield 13, 3) := by decide +kernel
theorem dX2_init_20 : decode cX2_init 20 = .ok (.return_, 1) := by decide +kernel
theorem dX2_note_0 : decode cX2_note 0 = .ok (.aload_n 0, 1) := by decide +kernel
theorem dX2_note_1 : decode cX2_note 1 = .ok (.getfield 17, 3) := by decide +kernel
theorem dX2_note_4 : decode cX2_note 4 = .ok (.ifCond .lt 12, 3) := by decide +kernel
theorem dX2_note_7 : decode cX2_note 7 = .ok (.aload_n 0, 1) := by decide +kernel
theorem dX2_note_8 : decode cX2_note 8 = .ok (.getfield 17, 3) := by decide +kernel
theorem dX2_note_11 : decode cX2_note 11 = .ok (.bipush 6, 2) := by decide +kernel
theorem dX2_note_13 : decode cX2_note 13 = .ok (.if_icmp .lt 5, 3) := by decide +kernel
theorem dX2_note_16 : decode cX2_note 16 = .ok (.iconst 0, 1) := by decide +kernel
theorem dX2_note_17 : decode cX2_note 17 = .ok (.ireturn, 1) := by decide +kernel
theorem dX2_note_18 : decode cX2_note 18 = .ok (.aload_n 0, 1) := by decide +kernel
theorem dX2_note_19 : decode cX2_note 19 = .ok (.getfield 9, 3) := by decide +kernel
theorem dX2_note_22 : decode cX2_note 22 = .ok (.aload_n 0, 1) := by decide +kernel
theorem dX2_note_23 : decode cX2_note 23 = .ok (.getfield 17, 3) := by decide +kernel
theorem dX2_note_26 : decode cX2_note 26 = .ok (.iload_n 1, 1) := by decide +kernel
theorem dX2_note_27 : decode cX2_note 27 = .ok (.iastore, 1) := by decide +kernel
theorem dX2_note_28 : decode cX2_note 28 = .ok (.aload_n 0, 1) := by decide +kernel
theorem dX2_note_29 : decode cX2_note 29 = .ok (.getfield 13, 3) := by decide +kernel
theorem dX2_note_32 : decode cX2_note 32 = .ok (.aload_n 0, 1) := by decide +kernel
theorem dX2_note_33 : decode cX2_note 33 = .ok (.getfield 17, 3) := by decide +kernel
theorem dX2_note_36 : decode cX2_note 36 = .ok (.iload_n 2, 1) := by decide +kernel
theorem dX2_note_37 : decode cX2_note 37 = .ok (.bastore, 1) := by decide +kernel
theorem dX2_note_38 : decode cX2_note 38 = .ok (.aload_n 0, 1) := by decide +kernel
theorem dX2_note_39 : decode cX2_note 39 = .ok (.dup, 1) := by decide +kernel
theorem dX2_note_40 : decode cX2_note 40 = .ok (.getfield 17, 3) := by decide +kernel
theorem dX2_note_43 : decode cX2_note 43 = .ok (.iconst 1, 1) := by decide +kernel
theorem dX2_note_44 : decode cX2_note 44 = .ok (.iadd, 1) := by decide +kernel
theorem dX2_note_45 : decode cX2_note 45 = .ok (.putfield 17, 3) := by decide +kernel
theorem dX2_note_48 : decode cX2_note 48 = .ok (.iconst 1, 1) := by decide +kernel
theorem dX2_note_49 : decode cX2_note 49 = .ok (.ireturn, 1) := by decide +kernel
theorem dX2_agree_0 : decode cX2_agree 0 = .ok (.iconst 0, 1) := by decide +kernel
theorem dX2_agree_1 : decode cX2_agree 1 = .ok (.istore_n 3, 1) := by decide +kernel
theorem dX2_agree_2 : decode cX2_agree 2 = .ok (.iload_n 3, 1) := by decide +kernel
theorem dX2_agree_3 : decode cX2_agree 3 = .ok (.aload_n 0, 1) := by decide +kernel
theorem dX2_agree_4 : decode cX2_agree 4 = .ok (.getfield 17, 3) := by decide +kernel
theorem dX2_agree_7 : decode cX2_agree 7 = .ok (.if_icmp .ge 117, 3) := by decide +kernel
theorem dX2_agree_10 : decode cX2_agree 10 = .ok (.iload_n 3, 1) := by decide +kernel
theorem dX2_agree_11 : decode cX2_agree 11 = .ok (.bipush 6, 2) := by decide +kernel
theorem dX2_agree_13 : decode cX2_agree 13 = .ok (.if_icmp .ge 111, 3) := by decide +kernel
theorem dX2_agree_16 : decode cX2_agree 16 = .ok (.aload_n 0, 1) := by decide +kernel
theorem dX2_agree_17 : decode cX2_agree 17 = .ok (.getfield 9, 3) := by decide +kernel
theorem dX2_agree_20 : decode cX2_agree 20 = .ok (.iload_n 3, 1) := by decide +kernel
theorem dX2_agree_21 : decode cX2_agree 21 = .ok (.iaload, 1) := by decide +kernel
theorem dX2_agree_22 : decode cX2_agree 22 = .ok (.iload_n 2, 1) := by decide +kernel
theorem dX2_agree_23 : decode cX2_agree 23 = .ok (.iconst 1, 1) := by decide +kernel
theorem dX2_agree_24 : decode cX2_agree 24 = .ok (.iadd, 1) := by decide +kernel
theorem dX2_agree_25 : decode cX2_agree 25 = .ok (.ishr, 1) := by decide +kernel
theorem dX2_agree_26 : decode cX2_agree 26 = .ok (.ifCond .eq 7, 3) := by decide +kernel
theorem dX2_agree_29 : decode cX2_agree 29 = .ok (.iconst 1, 1) := by decide +kernel
theorem dX2_agree_30 : decode cX2_agree 30 = .ok (.goto 4, 3) := by decide +kernel
theorem dX2_agree_33 : decode cX2_agree 33 = .ok (.iconst 0, 1) := by decide +kernel
theorem dX2_agree_34 : decode cX2_agree 34 = .ok (.istore 4, 2) := by decide +kernel
theorem dX2_agree_36 : decode cX2_agree 36 = .ok (.iconst 0, 1) := by decide +kernel
theorem dX2_agree_37 : decode cX2_agree 37 = .ok (.istore 5, 2) := by decide +kernel
theorem dX2_agree_39 : decode cX2_agree 39 = .ok (.aload_n 1, 1) := by decide +kernel
theorem dX2_agree_40 : decode cX2_agree 40 = .ok (.astore 6, 2) := by decide +kernel
theorem dX2_agree_42 : decode cX2_agree 42 = .ok (.aload 6, 2) := by decide +kernel
theorem dX2_agree_44 : decode cX2_agree 44 = .ok (.arraylength, 1) := by decide +kernel
theorem dX2_agree_45 : decode cX2_agree 45 = .ok (.istore 7, 2) := by decide +kernel
theorem dX2_agree_47 : decode cX2_agree 47 = .ok (.iconst 0, 1) := by decide +kernel
theorem dX2_agree_48 : decode cX2_agree 48 = .ok (.istore 8, 2) := by decide +kernel
theorem dX2_agree_50 : decode cX2_agree 50 = .ok (.iload 8, 2) := by decide +kernel
theorem dX2_agree_52 : decode cX2_agree 52 = .ok (.iload 7, 2) := by decide +kernel
theorem dX2_agree_54 : decode cX2_agree 54 = .ok (.if_icmp .ge 46, 3) := by decide +kernel
theorem dX2_agree_57 : decode cX2_agree 57 = .ok (.aload 6, 2) := by decide +kernel
theorem dX2_agree_59 : decode cX2_agree 59 = .ok (.iload 8, 2) := by decide +kernel
theorem dX2_agree_61 : decode cX2_agree 61 = .ok (.iaload, 1) := by decide +kernel
theorem dX2_agree_62 : decode cX2_agree 62 = .ok (.istore 9, 2) := by decide +kernel
theorem dX2_agree_64 : decode cX2_agree 64 = .ok (.iload 5, 2) := by decide +kernel
theorem dX2_agree_66 : decode cX2_agree 66 = .ok (.ifCond .ne 21, 3) := by decide +kernel
theorem dX2_agree_69 : decode cX2_agree 69 = .ok (.iload 9, 2) := by decide +kernel
theorem dX2_agree_71 : decode cX2_agree 71 = .ok (.aload_n 0, 1) := by decide +kernel
theorem dX2_agree_72 : decode cX2_agree 72 = .ok (.getfield 9, 3) := by decide +kernel
theorem dX2_agree_75 : decode cX2_agree 75 = .ok (.iload_n 3, 1) := by decide +kernel
theorem dX2_agree_76 : decode cX2_agree 76 = .ok (.iaload, 1) := by decide +kernel
theorem dX2_agree_77 : decode cX2_agree 77 = .ok (.iand, 1) := by decide +kernel
theorem dX2_agree_78 : decode cX2_agree 78 = .ok (.aload_n 0, 1) := by decide +kernel
theorem dX2_agree_79 : decode cX2_agree 79 = .ok (.getfield 9, 3) := by decide +kernel
theorem dX2_agree_82 : decode cX2_agree 82 = .ok (.iload_n 3, 1) := by decide +kernel
theorem dX2_agree_83 : decode cX2_agree 83 = .ok (.iaload, 1) := by decide +kernel
theorem dX2_agree_84 : decode cX2_agree 84 = .ok (.if_icmp .ne 7, 3) := by decide +kernel
theorem dX2_agree_87 : decode cX2_agree 87 = .ok (.iconst 1, 1) := by decide +kernel
theorem dX2_agree_88 : decode cX2_agree 88 = .ok (.goto 4, 3) := by decide +kernel
theorem dX2_agree_91 : decode cX2_agree 91 = .ok (.iconst 0, 1) := by decide +kernel
theorem dX2_agree_92 : decode cX2_agree 92 = .ok (.istore 5, 2) := by decide +kernel
theorem dX2_agree_94 : decode cX2_agree 94 = .ok (.iinc 8 1, 3) := by decide +kernel
theorem dX2_agree_97 : decode cX2_agree 97 = .ok (.goto (-47), 3) := by decide +kernel
theorem dX2_agree_100 : decode cX2_agree 100 = .ok (.iload 4, 2) := by decide +kernel
theorem dX2_agree_102 : decode cX2_agree 102 = .ok (.ifCond .ne 16, 3) := by decide +kernel
theorem dX2_agree_105 : decode cX2_agree 105 = .ok (.iload 5, 2) := by decide +kernel
theorem dX2_agree_107 : decode cX2_agree 107 = .ok (.aload_n 0, 1) := by decide +kernel
theorem dX2_agree_108 : decode cX2_agree 108 = .ok (.getfield 13, 3) := by decide +kernel
theorem dX2_agree_111 : decode cX2_agree 111 = .ok (.iload_n 3, 1) := by decide +kernel
theorem dX2_agree_112 : decode cX2_agree 112 = .ok (.baload, 1) := by decide +kernel
theorem dX2_agree_113 : decode cX2_agree 113 = .ok (.if_icmp .eq 5, 3) := by decide +kernel
theorem dX2_agree_116 : decode cX2_agree 116 = .ok (.iconst 0, 1) := by decide +kernel
theorem dX2_agree_117 : decode cX2_agree 117 = .ok (.ireturn, 1) := by decide +kernel
theorem dX2_agree_118 : decode cX2_agree 118 = .ok (.iinc 3 1, 3) := by decide +kernel
theorem dX2_agree_121 : decode cX2_agree 121 = .ok (.goto (-119), 3) := by decide +kernel
theorem dX2_agree_124 : decode cX2_agree 124 = .ok (.iconst 1, 1) := by decide +kernel
theorem dX2_agree_125 : decode cX2_agree 125 = .ok (.ireturn, 1) := by decide +kernel
theorem dX3_init_0 : decode cX3_init 0 = .ok (.aload_n 0, 1) := by decide +kernel
theorem dX3_init_1 : decode cX3_init 1 = .ok (.invokespecial 3, 3) := by decide +kernel
theorem dX3_init_4 : decode cX3_init 4 = .ok (.aload_n 0, 1) := by decide +kernel
theorem dX3_init_5 : decode cX3_init 5 = .ok (.bipush 16, 2) := by decide +kernel
theorem dX3_init_7 : decode cX3_init 7 = .ok (.newarray .int, 2) := by decide +kernel
theorem dX3_init_9 : decode cX3_init 9 = .ok (.putfield 11, 3) := by decide +kernel
theorem dX3_init_12 : decode cX3_init 12 = .ok (.aload_n 0, 1) := by decide +kernel
theorem dX3_init_13 : decode cX3_init 13 = .ok (.bipush 11, 2) := by decide +kernel
theorem dX3_init_15 : decode cX3_init 15 = .ok (.newarray .int, 2) := by decide +kernel
theorem dX3_init_17 : decode cX3_init 17 = .ok (.putfield 15, 3) := by decide +kernel
theorem dX3_init_20 : decode cX3_init 20 = .ok (.aload_n 0, 1) := by decide +kernel
theorem dX3_init_21 : decode cX3_init 21 = .ok (.iconst 3, 1) := by decide +kernel
theorem dX3_init_22 : decode cX3_init 22 = .ok (.newarray .int, 2) := by decide +kernel
theorem dX3_init_24 : decode cX3_init 24 = .ok (.putfield 18, 3) := by decide +kernel
theorem dX3_init_27 : decode cX3_init 27 = .ok (.return_, 1) := by decide +kernel
theorem dX3_start_0 : decode cX3_start 0 = .ok (.aload_n 0, 1) := by decide +kernel
theorem dX3_start_1 : decode cX3_start 1 = .ok (.iload_n 1, 1) := by decide +kernel
theorem dX3_start_2 : decode cX3_start 2 = .ok (.putfield 21, 3) := by decide +kernel
theorem dX3_start_5 : decode cX3_start 5 = .ok (.aload_n 0, 1) := by decide +kernel
theorem dX3_start_6 : decode cX3_start 6 = .ok (.iload_n 2, 1) := by decide +kernel
theorem dX3_start_7 : decode cX3_start 7 = .ok (.putfield 25, 3) := by decide +kernel
theorem dX3_start_10 : decode cX3_start 10 = .ok (.aload_n 0, 1) := by decide +kernel
theorem dX3_start_11 : decode cX3_start 11 = .ok (.iconst 0, 1) := by decide +kernel
theorem dX3_start_12 : decode cX3_start 12 = .ok (.putfield 28, 3) := by decide +kernel
theorem dX3_start_15 : decode cX3_start 15 = .ok (.aload_n 0, 1) := by decide +kernel
theorem dX3_start_16 : decode cX3_start 16 = .ok (.iconst 0, 1) := by decide +kernel
theorem dX3_start_17 : decode cX3_start 17 = .ok (.putfield 31, 3) := by decide +kernel
theorem dX3_start_20 : decode cX3_start 20 = .ok (.aload_n 0, 1) := by decide +kernel
theorem dX3_start_21 : decode cX3_start 21 = .ok (.invokevirtual 35, 3) := by decide +kernel
theorem dX3_start_24 : decode cX3_start 24 = .ok (.aload_n 0, 1) := by decide +kernel
theorem dX3_start_25 : decode cX3_start 25 = .ok (.getfield 18, 3) := by decide +kernel
theorem dX3_start_28 : decode cX3_start 28 = .ok (.iconst 0, 1) := by decide +kernel
theorem dX3_start_29 : decode cX3_start 29 = .ok (.invokestatic 38, 3) := by decide +kernel
theorem dX3_start_32 : decode cX3_start 32 = .ok (.return_, 1) := by decide +kernel
theorem dX3_copy_0 : decode cX3_copy 0 = .ok (.aload_n 0, 1) := by decide +kernel
theorem dX3_copy_1 : decode cX3_copy 1 = .ok (.aload_n 1, 1) := by decide +kernel
theorem dX3_copy_2 : decode cX3_copy 2 = .ok (.getfield 21, 3) := by decide +kernel
theorem dX3_copy_5 : decode cX3_copy 5 = .ok (.putfield 21, 3) := by decide +kernel
theorem dX3_copy_8 : decode cX3_copy 8 = .ok (.aload_n 0, 1) := by decide +kernel
theorem dX3_copy_9 : decode cX3_copy 9 = .ok (.aload_n 1, 1) := by decide +kernel
theorem dX3_copy_10 : decode cX3_copy 10 = .ok (.getfield 25, 3) := by decide +kernel
theorem dX3_copy_13 : decode cX3_copy 13 = .ok (.putfield 25, 3) := by decide +kernel
theorem dX3_copy_16 : decode cX3_copy 16 = .ok (.aload_n 0, 1) := by decide +kernel
theorem dX3_copy_17 : decode cX3_copy 17 = .ok (.aload_n 1, 1) := by decide +kernel
theorem dX3_copy_18 : decode cX3_copy 18 = .ok (.getfield 28, 3) := by decide +kernel
theorem dX3_copy_21 : decode cX3_copy 21 = .ok (.putfield 28, 3) := by decide +kernel
theorem dX3_copy_24 : decode cX3_copy 24 = .ok (.aload_n 0, 1) := by decide +kernel
theorem dX3_copy_25 : decode cX3_copy 25 = .ok (.aload_n 1, 1) := by decide +kernel
theorem dX3_copy_26 : decode cX3_copy 26 = .ok (.getfield 31, 3) := by decide +kernel
theorem dX3_copy_29 : decode cX3_copy 29 = .ok (.putfield 31, 3) := by decide +kernel
theorem dX3_copy_32 : decode cX3_copy 32 = .ok (.aload_n 1, 1) := by decide +kernel
theorem dX3_copy_33 : decode cX3_copy 33 = .ok (.getfield 11, 3) := by decide +kernel
theorem dX3_copy_36 : decode cX3_copy 36 = .ok (.iconst 0, 1) := by decide +kernel
theorem dX3_copy_37 : decode cX3_copy 37 = .ok (.aload_n 0, 1) := by decide +kernel
theorem dX3_copy_38 : decode cX3_copy 38 = .ok (.getfield 11, 3) := by decide +kernel
theorem dX3_copy_41 : decode cX3_copy 41 = .ok (.iconst 0, 1) := by decide +kernel
theorem dX3_copy_42 : decode cX3_copy 42 = .ok (.bipush 16, 2) := by decide +kernel
theorem dX3_copy_44 : decode cX3_copy 44 = .ok (.invokestatic 44, 3) := by decide +kernel
theorem dX3_copy_47 : decode cX3_copy 47 = .ok (.aload_n 1, 1) := by decide +kernel
theorem dX3_copy_48 : decode cX3_copy 48 = .ok (.getfield 15, 3) := by decide +kernel
theorem dX3_copy_51 : decode cX3_copy 51 = .ok (.iconst 0, 1) := by decide +kernel
theorem dX3_copy_52 : decode cX3_copy 52 = .ok (.aload_n 0, 1) := by decide +kernel
theorem dX3_copy_53 : decode cX3_copy 53 = .ok (.getfield 15, 3) := by decide +kernel
theorem dX3_copy_56 : decode cX3_copy 56 = .ok (.iconst 0, 1) := by decide +kernel
theorem dX3_copy_57 : decode cX3_copy 57 = .ok (.bipush 11, 2) := by decide +kernel
theorem dX3_copy_59 : decode cX3_copy 59 = .ok (.invokestatic 44, 3) := by decide +kernel
theorem dX3_copy_62 : decode cX3_copy 62 = .ok (.aload_n 1, 1) := by decide +kernel
theorem dX3_copy_63 : decode cX3_copy 63 = .ok (.getfield 18, 3) := by decide +kernel
theorem dX3_copy_66 : decode cX3_copy 66 = .ok (.iconst 0, 1) := by decide +kernel
theorem dX3_copy_67 : decode cX3_copy 67 = .ok (.aload_n 0, 1) := by decide +kernel
theorem dX3_copy_68 : decode cX3_copy 68 = .ok (.getfield 18, 3) := by decide +kernel
theorem dX3_copy_71 : decode cX3_copy 71 = .ok (.iconst 0, 1) := by decide +kernel
theorem dX3_copy_72 : decode cX3_copy 72 = .ok (.iconst 3, 1) := by decide +kernel
theorem dX3_copy_73 : decode cX3_copy 73 = .ok (.invokestatic 44, 3) := by decide +kernel
theorem dX3_copy_76 : decode cX3_copy 76 = .ok (.return_, 1) := by decide +kernel
theorem dX3_has_0 : decode cX3_has 0 = .ok (.iload_n 1, 1) := by decide +kernel
theorem dX3_has_1 : decode cX3_has 1 = .ok (.iconst 1, 1) := by decide +kernel
theorem dX3_has_2 : decode cX3_has 2 = .ok (.if_icmp .lt 21, 3) := by decide +kernel
theorem dX3_has_5 : decode cX3_has 5 = .ok (.iload_n 1, 1) := by decide +kernel
theorem dX3_has_6 : decode cX3_has 6 = .ok (.aload_n 0, 1) := by decide +kernel
theorem dX3_has_7 : decode cX3_has 7 = .ok (.getfield 21, 3) := by decide +kernel
theorem dX3_has_10 : decode cX3_has 10 = .ok (.if_icmp .gt 13, 3) := by decide +kernel
theorem dX3_has_13 : decode cX3_has 13 = .ok (.iload_n 1, 1) := by decide +kernel
theorem dX3_has_14 : decode cX3_has 14 = .ok (.bipush 10, 2) := by decide +kernel
theorem dX3_has_16 : decode cX3_has 16 = .ok (.if_icmp .gt 7, 3) := by decide +kernel
theorem dX3_has_19 : decode cX3_has 19 = .ok (.iconst 1, 1) := by decide +kernel
theorem dX3_has_20 : decode cX3_has 20 = .ok (.goto 4, 3) := by decide +kernel
theorem dX3_has_23 : decode cX3_has 23 = .ok (.iconst 0, 1) := by decide +kernel
theorem dX3_has_24 : decode cX3_has 24 = .ok (.ireturn, 1) := by decide +kernel
theorem dX3_hasColour_0 : decode cX3_hasColour 0 = .ok (.iload_n 1, 1) := by decide +kernel
theorem dX3_hasColour_1 : decode cX3_hasColour 1 = .ok (.ifCond .lt 20, 3) := by decide +kernel
theorem dX3_hasColour_4 : decode cX3_hasColour 4 = .ok (.iload_n 1, 1) := by decide +kernel
theorem dX3_hasColour_5 : decode cX3_hasColour 5 = .ok (.aload_n 0, 1) := by decide +kernel
theorem dX3_hasColour_6 : decode cX3_hasColour 6 = .ok (.getfield 25, 3) := by decide +kernel
theorem dX3_hasColour_9 : decode cX3_hasColour 9 = .ok (.if_icmp .ge 12, 3) := by decide +kernel
theorem dX3_hasColour_12 : decode cX3_hasColour 12 = .ok (.iload_n 1, 1) := by decide +kernel
theorem dX3_hasColour_13 : decode cX3_hasColour 13 = .ok (.iconst 3, 1) := by decide +kernel
theorem dX3_hasColour_14 : decode cX3_hasColour 14 = .ok (.if_icmp .ge 7, 3) := by decide +kernel
theorem dX3_hasColour_17 : decode cX3_hasColour 17 = .ok (.iconst 1, 1) := by decide +kernel
theorem dX3_hasColour_18 : decode cX3_hasColour 18 = .ok (.goto 4, 3) := by decide +kernel
theorem dX3_hasColour_21 : decode cX3_hasColour 21 = .ok (.iconst 0, 1) := by decide +kernel
theorem dX3_hasColour_22 : decode cX3_hasColour 22 = .ok (.ireturn, 1) := by decide +kernel
theorem dX3_hasEquation_0 : decode cX3_hasEquation 0 = .ok (.iload_n 1, 1) := by decide +kernel
theorem dX3_hasEquation_1 : decode cX3_hasEquation 1 = .ok (.ifCond .lt 20, 3) := by decide +kernel
theorem dX3_hasEquation_4 : decode cX3_hasEquation 4 = .ok (.iload_n 1, 1) := by decide +kernel
theorem dX3_hasEquation_5 : decode cX3_hasEquation 5 = .ok (.aload_n 0, 1) := by decide +kernel
theorem dX3_hasEquation_6 : decode cX3_hasEquation 6 = .ok (.getfield 28, 3) := by decide +kernel
theorem dX3_hasEquation_9 : decode cX3_hasEquation 9 = .ok (.if_icmp .ge 12, 3) := by decide +kernel
theorem dX3_hasEquation_12 : decode cX3_hasEquation 12 = .ok (.iload_n 1, 1) := by decide +kernel
theorem dX3_hasEquation_13 : decode cX3_hasEquation 13 = .ok (.iconst 4, 1) := by decide +kernel
theorem dX3_hasEquation_14 : decode cX3_hasEquation 14 = .ok (.if_icmp .ge 7, 3) := by decide +kernel
theorem dX3_hasEquation_17 : decode cX3_hasEquation 17 = .ok (.iconst 1, 1) := by decide +kernel
theorem dX3_hasEquation_18 : decode cX3_hasEquation 18 = .ok (.goto 4, 3) := by decide +kernel
theorem dX3_hasEquation_21 : decode cX3_hasEquation 21 = .ok (.iconst 0, 1) := by decide +kernel
theorem dX3_hasEquation_22 : decode cX3_hasEquation 22 = .ok (.ireturn, 1) := by decide +kernel
theorem dX3_part_0 : decode cX3_part 0 = .ok (.aload_n 0, 1) := by decide +kernel
theorem dX3_part_1 : decode cX3_part 1 = .ok (.iload_n 1, 1) := by decide +kernel
theorem dX3_part_2 : decode cX3_part 2 = .ok (.invokevirtual 50, 3) := by decide +kernel
theorem dX3_part_5 : decode cX3_part 5 = .ok (.ifCond .eq 16, 3) := by decide +kernel
theorem dX3_part_8 : decode cX3_part 8 = .ok (.iload_n 2, 1) := by decide +kernel
theorem dX3_part_9 : decode cX3_part 9 = .ok (.ifCond .lt 12, 3) := by decide +kernel
theorem dX3_part_12 : decode cX3_part 12 = .ok (.iload_n 2, 1) := by decide +kernel
theorem dX3_part_13 : decode cX3_part 13 = .ok (.iconst 4, 1) := by decide +kernel
theorem dX3_part_14 : decode cX3_part 14 = .ok (.if_icmp .ge 7, 3) := by decide +kernel
theorem dX3_part_17 : decode cX3_part 17 = .ok (.iconst 1, 1) := by decide +kernel
theorem dX3_part_18 : decode cX3_part 18 = .ok (.goto 4, 3) := by decide +kernel
theorem dX3_part_21 : decode cX3_part 21 = .ok (.iconst 0, 1) := by decide +kernel
theorem dX3_part_22 : decode cX3_part 22 = .ok (.istore_n 3, 1) := by decide +kernel
theorem dX3_part_23 : decode cX3_part 23 = .ok (.iload_n 3, 1) := by decide +kernel
theorem dX3_part_24 : decode cX3_part 24 = .ok (.ifCond .eq 16, 3) := by decide +kernel
theorem dX3_part_27 : decode cX3_part 27 = .ok (.aload_n 0, 1) := by decide +kernel
theorem dX3_part_28 : decode cX3_part 28 = .ok (.getfield 11, 3) := by decide +kernel
theorem dX3_part_31 : decode cX3_part 31 = .ok (.iconst 4, 1) := by decide +kernel
theorem dX3_part_32 : decode cX3_part 32 = .ok (.iload_n 1, 1) := by decide +kernel
theorem dX3_part_33 : decode cX3_part 33 = .ok (.imul, 1) := by decide +kernel
theorem dX3_part_34 : decode cX3_part 34 = .ok (.iload_n 2, 1) := by decide +kernel
theorem dX3_part_35 : decode cX3_part 35 = .ok (.iadd, 1) := by decide +kernel
theorem dX3_part_36 : decode cX3_part 36 = .ok (.iaload, 1) := by decide +kernel
theorem dX3_part_37 : decode cX3_part 37 = .ok (.goto 4, 3) := by decide +kernel
theorem dX3_part_40 : decode cX3_part 40 = .ok (.iconst 0, 1) := by decide +kernel
theorem dX3_part_41 : decode cX3_part 41 = .ok (.ireturn, 1) := by decide +kernel
theorem dX3_append_0 : decode cX3_append 0 = .ok (.aload_n 0, 1) := by decide +kernel
theorem dX3_append_1 : decode cX3_append 1 = .ok (.getfield 28, 3) := by decide +kernel
theorem dX3_append_4 : decode cX3_append 4 = .ok (.ifCond .lt 11, 3) := by decide +kernel
theorem dX3_append_7 : decode cX3_append 7 = .ok (.aload_n 0, 1) := by decide +kernel
theorem dX3_append_8 : decode cX3_append 8 = .ok (.getfield 28, 3) := by decide +kernel
theorem dX3_append_11 : decode cX3_append 11 = .ok (.iconst 4, 1) := by decide +kernel
theorem dX3_append_12 : decode cX3_append 12 = .ok (.if_icmp .lt 4, 3) := by decide +kernel
theorem dX3_append_15 : decode cX3_append 15 = .ok (.return_, 1) := by decide +kernel
theorem dX3_append_16 : decode cX3_append 16 = .ok (.iconst 4, 1) := by decide +kernel
theorem dX3_append_17 : decode cX3_append 17 = .ok (.aload_n 0, 1) := by decide +kernel
theorem dX3_append_18 : decode cX3_append 18 = .ok (.getfield 28, 3) := by decide +kernel
theorem dX3_append_21 : decode cX3_append 21 = .ok (.imul, 1) := by decide +kernel
theorem dX3_append_22 : decode cX3_append 22 = .ok (.istore 5, 2) := by decide +kernel
theorem dX3_append_24 : decode cX3_append 24 = .ok (.aload_n 0, 1) := by decide +kernel
theorem dX3_append_25 : decode cX3_append 25 = .ok (.getfield 11, 3) := by decide +kernel
theorem dX3_append_28 : decode cX3_append 28 = .ok (.iload 5, 2) := by decide +kernel
theorem dX3_append_30 : decode cX3_append 30 = .ok (.iload_n 1, 1) := by decide +kernel
theorem dX3_append_31 : decode cX3_append 31 = .ok (.iastore, 1) := by decide +kernel
theorem dX3_append_32 : decode cX3_append 32 = .ok (.aload_n 0, 1) := by decide +kernel
theorem dX3_append_33 : decode cX3_append 33 = .ok (.getfield 11, 3) := by decide +kernel
theorem dX3_append_36 : decode cX3_append 36 = .ok (.iload 5, 2) := by decide +kernel
theorem dX3_append_38 : decode cX3_append 38 = .ok (.iconst 1, 1) := by decide +kernel
theorem dX3_append_39 : decode cX3_append 39 = .ok (.iadd, 1) := by decide +kernel
theorem dX3_append_40 : decode cX3_append 40 = .ok (.iload_n 2, 1) := by decide +kernel
theorem dX3_append_41 : decode cX3_append 41 = .ok (.iastore, 1) := by decide +kernel
theorem dX3_append_42 : decode cX3_append 42 = .ok (.aload_n 0, 1) := by decide +kernel
theorem dX3_append_43 : decode cX3_append 43 = .ok (.getfield 11, 3) := by decide +kernel
theorem dX3_append_46 : decode cX3_append 46 = .ok (.iload 5, 2) := by decide +kernel
theorem dX3_append_48 : decode cX3_append 48 = .ok (.iconst 2, 1) := by decide +kernel
theorem dX3_append_49 : decode cX3_append 49 = .ok (.iadd, 1) := by decide +kernel
theorem dX3_append_50 : decode cX3_append 50 = .ok (.iload_n 3, 1) := by decide +kernel
theorem dX3_append_51 : decode cX3_append 51 = .ok (.iastore, 1) := by decide +kernel
theorem dX3_append_52 : decode cX3_append 52 = .ok (.aload_n 0, 1) := by decide +kernel
theorem dX3_append_53 : decode cX3_append 53 = .ok (.getfield 11, 3) := by decide +kernel
theorem dX3_append_56 : decode cX3_append 56 = .ok (.iload 5, 2) := by decide +kernel
theorem dX3_append_58 : decode cX3_append 58 = .ok (.iconst 3, 1) := by decide +kernel
theorem dX3_append_59 : decode cX3_append 59 = .ok (.iadd, 1) := by decide +kernel
theorem dX3_append_60 : decode cX3_append 60 = .ok (.iload 4, 2) := by decide +kernel
theorem dX3_append_62 : decode cX3_append 62 = .ok (.iastore, 1) := by decide +kernel
theorem dX3_append_63 : decode cX3_append 63 = .ok (.aload_n 0, 1) := by decide +kernel
theorem dX3_append_64 : decode cX3_append 64 = .ok (.dup, 1) := by decide +kernel
theorem dX3_append_65 : decode cX3_append 65 = .ok (.getfield 28, 3) := by decide +kernel
theorem dX3_append_68 : decode cX3_append 68 = .ok (.iconst 1, 1) := by decide +kernel
theorem dX3_append_69 : decode cX3_append 69 = .ok (.iadd, 1) := by decide +kernel
theorem dX3_append_70 : decode cX3_append 70 = .ok (.putfield 28, 3) := by decide +kernel
theorem dX3_append_73 : decode cX3_append 73 = .ok (.return_, 1) := by decide +kernel
theorem dX3_regular_0 : decode cX3_regular 0 = .ok (.aload_n 0, 1) := by decide +kernel
theorem dX3_regular_1 : decode cX3_regular 1 = .ok (.iload_n 1, 1) := by decide +kernel
theorem dX3_regular_2 : decode cX3_regular 2 = .ok (.iconst 0, 1) := by decide +kernel
theorem dX3_regular_3 : decode cX3_regular 3 = .ok (.invokevirtual 54, 3) := by decide +kernel
theorem dX3_regular_6 : decode cX3_regular 6 = .ok (.istore_n 2, 1) := by decide +kernel
theorem dX3_regular_7 : decode cX3_regular 7 = .ok (.aload_n 0, 1) := by decide +kernel
theorem dX3_regular_8 : decode cX3_regular 8 = .ok (.iload_n 1, 1) := by decide +kernel
theorem dX3_regular_9 : decode cX3_regular 9 = .ok (.iconst 1, 1) := by decide +kernel
theorem dX3_regular_10 : decode cX3_regular 10 = .ok (.invokevirtual 54, 3) := by decide +kernel
theorem dX3_regular_13 : decode cX3_regular 13 = .ok (.istore_n 3, 1) := by decide +kernel
theorem dX3_regular_14 : decode cX3_regular 14 = .ok (.aload_n 0, 1) := by decide +kernel
theorem dX3_regular_15 : decode cX3_regular 15 = .ok (.iload_n 1, 1) := by decide +kernel
theorem dX3_regular_16 : decode cX3_regular 16 = .ok (.iconst 2, 1) := by decide +kernel
theorem dX3_regular_17 : decode cX3_regular 17 = .ok (.invokevirtual 54, 3) := by decide +kernel
theorem dX3_regular_20 : decode cX3_regular 20 = .ok (.istore 4, 2) := by decide +kernel
theorem dX3_regular_22 : decode cX3_regular 22 = .ok (.iload_n 2, 1) := by decide +kernel
theorem dX3_regular_23 : decode cX3_regular 23 = .ok (.iload_n 3, 1) := by decide +kernel
theorem dX3_regular_24 : decode cX3_regular 24 = .ok (.iadd, 1) := by decide +kernel
theorem dX3_regular_25 : decode cX3_regular 25 = .ok (.ifCond .eq 26, 3) := by decide +kernel
theorem dX3_regular_28 : decode cX3_regular 28 = .ok (.iload_n 2, 1) := by decide +kernel
theorem dX3_regular_29 : decode cX3_regular 29 = .ok (.iload 4, 2) := by decide +kernel
theorem dX3_regular_31 : decode cX3_regular 31 = .ok (.isub, 1) := by decide +kernel
theorem dX3_regular_32 : decode cX3_regular 32 = .ok (.ifCond .eq 19, 3) := by decide +kernel
theorem dX3_regular_35 : decode cX3_regular 35 = .ok (.iload_n 3, 1) := by decide +kernel
theorem dX3_regular_36 : decode cX3_regular 36 = .ok (.iload 4, 2) := by decide +kernel
theorem dX3_regular_38 : decode cX3_regular 38 = .ok (.isub, 1) := by decide +kernel
theorem dX3_regular_39 : decode cX3_regular 39 = .ok (.ifCond .eq 12, 3) := by decide +kernel
theorem dX3_regular_42 : decode cX3_regular 42 = .ok (.iload_n 2, 1) := by decide +kernel
theorem dX3_regular_43 : decode cX3_regular 43 = .ok (.iload_n 3, 1) := by decide +kernel
theorem dX3_regular_44 : decode cX3_regular 44 = .ok (.iadd, 1) := by decide +kernel
theorem dX3_regular_45 : decode cX3_regular 45 = .ok (.iload 4, 2) := by decide +kernel
theorem dX3_regular_47 : decode cX3_regular 47 = .ok (.isub, 1) := by decide +kernel
theorem dX3_regular_48 : decode cX3_regular 48 = .ok (.ifCond .ne 7, 3) := by decide +kernel
theorem dX3_regular_51 : decode cX3_regular 51 = .ok (.iconst 1, 1) := by decide +kernel
theorem dX3_regular_52 : decode cX3_regular 52 = .ok (.goto 4, 3) := by decide +kernel
theorem dX3_regular_55 : decode cX3_regular 55 = .ok (.iconst 0, 1) := by decide +kernel
theorem dX3_regular_56 : decode cX3_regular 56 = .ok (.ireturn, 1) := by decide +kernel
theorem dX3_third_0 : decode cX3_third 0 = .ok (.iload_n 1, 1) := by decide +kernel
theorem dX3_third_1 : decode cX3_third 1 = .ok (.ifCond .lt 8, 3) := by decide +kernel
theorem dX3_third_4 : decode cX3_third 4 = .ok (.iload_n 1, 1) := by decide +kernel
theorem dX3_third_5 : decode cX3_third 5 = .ok (.iconst 4, 1) := by decide +kernel
theorem dX3_third_6 : decode cX3_third 6 = .ok (.if_icmp .lt 5, 3) := by decide +kernel
theorem dX3_third_9 : decode cX3_third 9 = .ok (.iconst 0, 1) := by decide +kernel
theorem dX3_third_10 : decode cX3_third 10 = .ok (.ireturn, 1) := by decide +kernel
theorem dX3_third_11 : decode cX3_third 11 = .ok (.iconst 4, 1) := by decide +kernel
theorem dX3_third_12 : decode cX3_third 12 = .ok (.iload_n 1, 1) := by decide +kernel
theorem dX3_third_13 : decode cX3_third 13 = .ok (.imul, 1) := by decide +kernel
theorem dX3_third_14 : decode cX3_third 14 = .ok (.istore 5, 2) := by decide +kernel
theorem dX3_third_16 : decode cX3_third 16 = .ok (.aload_n 0, 1) := by decide +kernel
theorem dX3_third_17 : decode cX3_third 17 = .ok (.getfield 11, 3) := by decide +kernel
theorem dX3_third_20 : decode cX3_third 20 = .ok (.iload 5, 2) := by decide +kernel
theorem dX3_third_22 : decode cX3_third 22 = .ok (.iconst 2, 1) := by decide +kernel
theorem dX3_third_23 : decode cX3_third 23 = .ok (.iadd, 1) := by decide +kernel
theorem dX3_third_24 : decode cX3_third 24 = .ok (.iaload, 1) := by decide +kernel
theorem dX3_third_25 : decode cX3_third 25 = .ok (.istore 6, 2) := by decide +kernel
theorem dX3_third_27 : decode cX3_third 27 = .ok (.aload_n 0, 1) := by decide +kernel
theorem dX3_third_28 : decode cX3_third 28 = .ok (.getfield 11, 3) := by decide +kernel
theorem dX3_third_31 : decode cX3_third 31 = .ok (.iload 5, 2) := by decide +kernel
theorem dX3_third_33 : decode cX3_third 33 = .ok (.iaload, 1) := by decide +kernel
theorem dX3_third_34 : decode cX3_third 34 = .ok (.iload_n 2, 1) := by decide +kernel
theorem dX3_third_35 : decode cX3_third 35 = .ok (.imul, 1) := by decide +kernel
theorem dX3_third_36 : decode cX3_third 36 = .ok (.aload_n 0, 1) := by decide +kernel
theorem dX3_third_37 : decode cX3_third 37 = .ok (.getfield 11, 3) := by decide +kernel
theorem dX3_third_40 : decode cX3_third 40 = .ok (.iload 5, 2) := by decide +kernel
theorem dX3_third_42 : decode cX3_third 42 = .ok (.iconst 1, 1) := by decide +kernel
theorem dX3_third_43 : decode cX3_third 43 = .ok (.iadd, 1) := by decide +kernel
theorem dX3_third_44 : decode cX3_third 44 = .ok (.iaload, 1) := by decide +kernel
theorem dX3_third_45 : decode cX3_third 45 = .ok (.iload_n 3, 1) := by decide +kernel
theorem dX3_third_46 : decode cX3_third 46 = .ok (.imul, 1) := by decide +kernel
theorem dX3_third_47 : decode cX3_third 47 = .ok (.iadd, 1) := by decide +kernel
theorem dX3_third_48 : decode cX3_third 48 = .ok (.istore 7, 2) := by decide +kernel
theorem dX3_third_50 : decode cX3_third 50 = .ok (.iload 6, 2) := by decide +kernel
theorem dX3_third_52 : decode cX3_third 52 = .ok (.ifCond .eq 11, 3) := by decide +kernel
theorem dX3_third_55 : decode cX3_third 55 = .ok (.iload 7, 2) := by decide +kernel
theorem dX3_third_57 : decode cX3_third 57 = .ok (.iload 6, 2) := by decide +kernel
theorem dX3_third_59 : decode cX3_third 59 = .ok (.irem, 1) := by decide +kernel
theorem dX3_third_60 : decode cX3_third 60 = .ok (.ifCond .eq 5, 3) := by decide +kernel
theorem dX3_third_63 : decode cX3_third 63 = .ok (.iconst 0, 1) := by decide +kernel
theorem dX3_third_64 : decode cX3_third 64 = .ok (.ireturn, 1) := by decide +kernel
theorem dX3_third_65 : decode cX3_third 65 = .ok (.iload 7, 2) := by decide +kernel
theorem dX3_third_67 : decode cX3_third 67 = .ok (.iload 6, 2) := by decide +kernel
theorem dX3_third_69 : decode cX3_third 69 = .ok (.idiv, 1) := by decide +kernel
theorem dX3_third_70 : decode cX3_third 70 = .ok (.istore 8, 2) := by decide +kernel
theorem dX3_third_72 : decode cX3_third 72 = .ok (.iload_n 2, 1) := by decide +kernel
theorem dX3_third_73 : decode cX3_third 73 = .ok (.iload_n 3, 1) := by decide +kernel
theorem dX3_third_74 : decode cX3_third 74 = .ok (.if_icmp .eq 15, 3) := by decide +kernel
theorem dX3_third_77 : decode cX3_third 77 = .ok (.iload_n 2, 1) := by decide +kernel
theorem dX3_third_78 : decode cX3_third 78 = .ok (.iload 8, 2) := by decide +kernel
theorem dX3_third_80 : decode cX3_third 80 = .ok (.if_icmp .eq 9, 3) := by decide +kernel
theorem dX3_third_83 : decode cX3_third 83 = .ok (.iload_n 3, 1) := by decide +kernel
theorem dX3_third_84 : decode cX3_third 84 = .ok (.iload 8, 2) := by decide +kernel
theorem dX3_third_86 : decode cX3_third 86 = .ok (.if_icmp .ne 7, 3) := by decide +kernel
theorem dX3_third_89 : decode cX3_third 89 = .ok (.iconst 1, 1) := by decide +kernel
theorem dX3_third_90 : decode cX3_third 90 = .ok (.goto 4, 3) := by decide +kernel
theorem dX3_third_93 : decode cX3_third 93 = .ok (.iconst 0, 1) := by decide +kernel
theorem dX3_third_94 : decode cX3_third 94 = .ok (.istore 9, 2) := by decide +kernel
theorem dX3_third_96 : decode cX3_third 96 = .ok (.iload 8, 2) := by decide +kernel
theorem dX3_third_98 : decode cX3_third 98 = .ok (.iconst 1, 1) := by decide +kernel
theorem dX3_third_99 : decode cX3_third 99 = .ok (.if_icmp .lt 28, 3) := by decide +kernel
theorem dX3_third_102 : decode cX3_third 102 = .ok (.iload 8, 2) := by decide +kernel
theorem dX3_third_104 : decode cX3_third 104 = .ok (.iload 4, 2) := by decide +kernel
theorem dX3_third_106 : decode cX3_third 106 = .ok (.if_icmp .gt 21, 3) := by decide +kernel
theorem dX3_third_109 : decode cX3_third 109 = .ok (.iload 9, 2) := by decide +kernel
theorem dX3_third_111 : decode cX3_third 111 = .ok (.ifCond .eq 18, 3) := by decide +kernel
theorem dX3_third_114 : decode cX3_third 114 = .ok (.aload_n 0, 1) := by decide +kernel
theorem dX3_third_115 : decode cX3_third 115 = .ok (.getfield 11, 3) := by decide +kernel
theorem dX3_third_118 : decode cX3_third 118 = .ok (.iload 5, 2) := by decide +kernel
theorem dX3_third_120 : decode cX3_third 120 = .ok (.iconst 3, 1) := by decide +kernel
theorem dX3_third_121 : decode cX3_third 121 = .ok (.iadd, 1) := by decide +kernel
theorem dX3_third_122 : decode cX3_third 122 = .ok (.iaload, 1) := by decide +kernel
theorem dX3_third_123 : decode cX3_third 123 = .ok (.iconst 1, 1) := by decide +kernel
theorem dX3_third_124 : decode cX3_third 124 = .ok (.if_icmp .ne 5, 3) := by decide +kernel
theorem dX3_third_127 : decode cX3_third 127 = .ok (.iconst 0, 1) := by decide +kernel
theorem dX3_third_128 : decode cX3_third 128 = .ok (.ireturn, 1) := by decide +kernel
theorem dX3_third_129 : decode cX3_third 129 = .ok (.iload 8, 2) := by decide +kernel
theorem dX3_third_131 : decode cX3_third 131 = .ok (.ireturn, 1) := by decide +kernel
theorem dX3_solutions_0 : decode cX3_solutions 0 = .ok (.iconst 0, 1) := by decide +kernel
theorem dX3_solutions_1 : decode cX3_solutions 1 = .ok (.istore_n 2, 1) := by decide +kernel
theorem dX3_solutions_2 : decode cX3_solutions 2 = .ok (.iconst 1, 1) := by decide +kernel
theorem dX3_solutions_3 : decode cX3_solutions 3 = .ok (.istore_n 3, 1) := by decide +kernel
theorem dX3_solutions_4 : decode cX3_solutions 4 = .ok (.iload_n 3, 1) := by decide +kernel
theorem dX3_solutions_5 : decode cX3_solutions 5 = .ok (.aload_n 0, 1) := by decide +kernel
theorem dX3_solutions_6 : decode cX3_solutions 6 = .ok (.getfield 21, 3) := by decide +kernel
theorem dX3_solutions_9 : decode cX3_solutions 9 = .ok (.if_icmp .gt 45, 3) := by decide +kernel
theorem dX3_solutions_12 : decode cX3_solutions 12 = .ok (.iconst 1, 1) := by decide +kernel
theorem dX3_solutions_13 : decode cX3_solutions 13 = .ok (.istore 4, 2) := by decide +kernel
theorem dX3_solutions_15 : decode cX3_solutions 15 = .ok (.iload 4, 2) := by decide +kernel
theorem dX3_solutions_17 : decode cX3_solutions 17 = .ok (.aload_n 0, 1) := by decide +kernel
theorem dX3_solutions_18 : decode cX3_solutions 18 = .ok (.getfield 21, 3) := by decide +kernel
theorem dX3_solutions_21 : decode cX3_solutions 21 = .ok (.if_icmp .gt 27, 3) := by decide +kernel
theorem dX3_solutions_24 : decode cX3_solutions 24 = .ok (.aload_n 0, 1) := by decide +kernel
theorem dX3_solutions_25 : decode cX3_solutions 25 = .ok (.iload_n 1, 1) := by decide +kernel
theorem dX3_solutions_26 : decode cX3_solutions 26 = .ok (.iload_n 3, 1) := by decide +kernel
theorem dX3_solutions_27 : decode cX3_solutions 27 = .ok (.iload 4, 2) := by decide +kernel
theorem dX3_solutions_29 : decode cX3_solutions 29 = .ok (.aload_n 0, 1) := by decide +kernel
theorem dX3_solutions_30 : decode cX3_solutions 30 = .ok (.getfield 21, 3) := by decide +kernel
theorem dX3_solutions_33 : decode cX3_solutions 33 = .ok (.invokevirtual 58, 3) := by decide +kernel
theorem dX3_solutions_36 : decode cX3_solutions 36 = .ok (.ifCond .le 6, 3) := by decide +kernel
theorem dX3_solutions_39 : decode cX3_solutions 39 = .ok (.iinc 2 1, 3) := by decide +kernel
theorem dX3_solutions_42 : decode cX3_solutions 42 = .ok (.iinc 4 1, 3) := by decide +kernel
theorem dX3_solutions_45 : decode cX3_solutions 45 = .ok (.goto (-30), 3) := by decide +kernel
theorem dX3_solutions_48 : decode cX3_solutions 48 = .ok (.iinc 3 1, 3) := by decide +kernel
theorem dX3_solutions_51 : decode cX3_solutions 51 = .ok (.goto (-47), 3) := by decide +kernel
theorem dX3_solutions_54 : decode cX3_solutions 54 = .ok (.iload_n 2, 1) := by decide +kernel
theorem dX3_solutions_55 : decode cX3_solutions 55 = .ok (.ireturn, 1) := by decide +kernel
theorem dX3_solutionAt_0 : decode cX3_solutionAt 0 = .ok (.iconst 0, 1) := by decide +kernel
theorem dX3_solutionAt_1 : decode cX3_solutionAt 1 = .ok (.istore_n 3, 1) := by decide +kernel
theorem dX3_solutionAt_2 : decode cX3_solutionAt 2 = .ok (.iconst 1, 1) := by decide +kernel
theorem dX3_solutionAt_3 : decode cX3_solutionAt 3 = .ok (.istore 4, 2) := by decide +kernel
theorem dX3_solutionAt_5 : decode cX3_solutionAt 5 = .ok (.iload 4, 2) := by decide +kernel
theorem dX3_solutionAt_7 : decode cX3_solutionAt 7 = .ok (.aload_n 0, 1) := by decide +kernel
theorem dX3_solutionAt_8 : decode cX3_solutionAt 8 = .ok (.getfield 21, 3) := by decide +kernel
theorem dX3_solutionAt_11 : decode cX3_solutionAt 11 = .ok (.if_icmp .gt 71, 3) := by decide +kernel
theorem dX3_solutionAt_14 : decode cX3_solutionAt 14 = .ok (.iconst 1, 1) := by decide +kernel
theorem dX3_solutionAt_15 : decode cX3_solutionAt 15 = .ok (.istore 5, 2) := by decide +kernel
theorem dX3_solutionAt_17 : decode cX3_solutionAt 17 = .ok (.iload 5, 2) := by decide +kernel
theorem dX3_solutionAt_19 : decode cX3_solutionAt 19 = .ok (.aload_n 0, 1) := by decide +kernel
theorem dX3_solutionAt_20 : decode cX3_solutionAt 20 = .ok (.getfield 21, 3) := by decide +kernel
theorem dX3_solutionAt_23 : decode cX3_solutionAt 23 = .ok (.if_icmp .gt 53, 3) := by decide +kernel
theorem dX3_solutionAt_26 : decode cX3_solutionAt 26 = .ok (.aload_n 0, 1) := by decide +kernel
theorem dX3_solutionAt_27 : decode cX3_solutionAt 27 = .ok (.iload_n 1, 1) := by decide +kernel
theorem dX3_solutionAt_28 : decode cX3_solutionAt 28 = .ok (.iload 4, 2) := by decide +kernel
theorem dX3_solutionAt_30 : decode cX3_solutionAt 30 = .ok (.iload 5, 2) := by decide +kernel
theorem dX3_solutionAt_32 : decode cX3_solutionAt 32 = .ok (.aload_n 0, 1) := by decide +kernel
theorem dX3_solutionAt_33 : decode cX3_solutionAt 33 = .ok (.getfield 21, 3) := by decide +kernel
theorem dX3_solutionAt_36 : decode cX3_solutionAt 36 = .ok (.invokevirtual 58, 3) := by decide +kernel
theorem dX3_solutionAt_39 : decode cX3_solutionAt 39 = .ok (.istore 6, 2) := by decide +kernel
theorem dX3_solutionAt_41 : decode cX3_solutionAt 41 = .ok (.iload 6, 2) := by decide +kernel
theorem dX3_solutionAt_43 : decode cX3_solutionAt 43 = .ok (.ifCond .le 27, 3) := by decide +kernel
theorem dX3_solutionAt_46 : decode cX3_solutionAt 46 = .ok (.iload_n 3, 1) := by decide +kernel
theorem dX3_solutionAt_47 : decode cX3_solutionAt 47 = .ok (.iload_n 2, 1) := by decide +kernel
theorem dX3_solutionAt_48 : decode cX3_solutionAt 48 = .ok (.if_icmp .ne 19, 3) := by decide +kernel
theorem dX3_solutionAt_51 : decode cX3_solutionAt 51 = .ok (.sipush 10000, 3) := by decide +kernel
theorem dX3_solutionAt_54 : decode cX3_solutionAt 54 = .ok (.iload 4, 2) := by decide +kernel
theorem dX3_solutionAt_56 : decode cX3_solutionAt 56 = .ok (.imul, 1) := by decide +kernel
theorem dX3_solutionAt_57 : decode cX3_solutionAt 57 = .ok (.bipush 100, 2) := by decide +kernel
theorem dX3_solutionAt_59 : decode cX3_solutionAt 59 = .ok (.iload 5, 2) := by decide +kernel
theorem dX3_solutionAt_61 : decode cX3_solutionAt 61 = .ok (.imul, 1) := by decide +kernel
theorem dX3_solutionAt_62 : decode cX3_solutionAt 62 = .ok (.iadd, 1) := by decide +kernel
theorem dX3_solutionAt_63 : decode cX3_solutionAt 63 = .ok (.iload 6, 2) := by decide +kernel
theorem dX3_solutionAt_65 : decode cX3_solutionAt 65 = .ok (.iadd, 1) := by decide +kernel
theorem dX3_solutionAt_66 : decode cX3_solutionAt 66 = .ok (.ireturn, 1) := by decide +kernel
theorem dX3_solutionAt_67 : decode cX3_solutionAt 67 = .ok (.iinc 3 1, 3) := by decide +kernel
theorem dX3_solutionAt_70 : decode cX3_solutionAt 70 = .ok (.iinc 5 1, 3) := by decide +kernel
theorem dX3_solutionAt_73 : decode cX3_solutionAt 73 = .ok (.goto (-56), 3) := by decide +kernel
theorem dX3_solutionAt_76 : decode cX3_solutionAt 76 = .ok (.iinc 4 1, 3) := by decide +kernel
theorem dX3_solutionAt_79 : decode cX3_solutionAt 79 = .ok (.goto (-74), 3) := by decide +kernel
theorem dX3_solutionAt_82 : decode cX3_solutionAt 82 = .ok (.bipush (-9), 2) := by decide +kernel
theorem dX3_solutionAt_84 : decode cX3_solutionAt 84 = .ok (.ireturn, 1) := by decide +kernel
theorem dX3_pinOf_0 : decode cX3_pinOf 0 = .ok (.iload_n 1, 1) := by decide +kernel
theorem dX3_pinOf_1 : decode cX3_pinOf 1 = .ok (.iconst 1, 1) := by decide +kernel
theorem dX3_pinOf_2 : decode cX3_pinOf 2 = .ok (.if_icmp .lt 26, 3) := by decide +kernel
theorem dX3_pinOf_5 : decode cX3_pinOf 5 = .ok (.iload_n 1, 1) := by decide +kernel
theorem dX3_pinOf_6 : decode cX3_pinOf 6 = .ok (.aload_n 0, 1) := by decide +kernel
theorem dX3_pinOf_7 : decode cX3_pinOf 7 = .ok (.getfield 21, 3) := by decide +kernel
theorem dX3_pinOf_10 : decode cX3_pinOf 10 = .ok (.if_icmp .gt 18, 3) := by decide +kernel
theorem dX3_pinOf_13 : decode cX3_pinOf 13 = .ok (.iload_n 1, 1) := by decide +kernel
theorem dX3_pinOf_14 : decode cX3_pinOf 14 = .ok (.bipush 10, 2) := by decide +kernel
theorem dX3_pinOf_16 : decode cX3_pinOf 16 = .ok (.if_icmp .gt 12, 3) := by decide +kernel
theorem dX3_pinOf_19 : decode cX3_pinOf 19 = .ok (.aload_n 0, 1) := by decide +kernel
theorem dX3_pinOf_20 : decode cX3_pinOf 20 = .ok (.getfield 15, 3) := by decide +kernel
theorem dX3_pinOf_23 : decode cX3_pinOf 23 = .ok (.iload_n 1, 1) := by decide +kernel
theorem dX3_pinOf_24 : decode cX3_pinOf 24 = .ok (.iaload, 1) := by decide +kernel
theorem dX3_pinOf_25 : decode cX3_pinOf 25 = .ok (.goto 4, 3) := by decide +kernel
theorem dX3_pinOf_28 : decode cX3_pinOf 28 = .ok (.iconst (-1), 1) := by decide +kernel
theorem dX3_pinOf_29 : decode cX3_pinOf 29 = .ok (.ireturn, 1) := by decide +kernel
theorem dX3_setPin_0 : decode cX3_setPin 0 = .ok (.aload_n 0, 1) := by decide +kernel
theorem dX3_setPin_1 : decode cX3_setPin 1 = .ok (.iload_n 1, 1) := by decide +kernel
theorem dX3_setPin_2 : decode cX3_setPin 2 = .ok (.invokevirtual 62, 3) := by decide +kernel
theorem dX3_setPin_5 : decode cX3_setPin 5 = .ok (.ifCond .eq 22, 3) := by decide +kernel
theorem dX3_setPin_8 : decode cX3_setPin 8 = .ok (.aload_n 0, 1) := by decide +kernel
theorem dX3_setPin_9 : decode cX3_setPin 9 = .ok (.getfield 15, 3) := by decide +kernel
theorem dX3_setPin_12 : decode cX3_setPin 12 = .ok (.iload_n 1, 1) := by decide +kernel
theorem dX3_setPin_13 : decode cX3_setPin 13 = .ok (.aload_n 0, 1) := by decide +kernel
theorem dX3_setPin_14 : decode cX3_setPin 14 = .ok (.iload_n 2, 1) := by decide +kernel
theorem dX3_setPin_15 : decode cX3_setPin 15 = .ok (.invokevirtual 65, 3) := by decide +kernel
theorem dX3_setPin_18 : decode cX3_setPin 18 = .ok (.ifCond .eq 7, 3) := by decide +kernel
theorem dX3_setPin_21 : decode cX3_setPin 21 = .ok (.iload_n 2, 1) := by decide +kernel
theorem dX3_setPin_22 : decode cX3_setPin 22 = .ok (.goto 4, 3) := by decide +kernel
theorem dX3_setPin_25 : decode cX3_setPin 25 = .ok (.iconst (-1), 1) := by decide +kernel
theorem dX3_setPin_26 : decode cX3_setPin 26 = .ok (.iastore, 1) := by decide +kernel
theorem dX3_setPin_27 : decode cX3_setPin 27 = .ok (.return_, 1) := by decide +kernel
theorem dX3_unpin_0 : decode cX3_unpin 0 = .ok (.aload_n 0, 1) := by decide +kernel
theorem dX3_unpin_1 : decode cX3_unpin 1 = .ok (.getfield 15, 3) := by decide +kernel
theorem dX3_unpin_4 : decode cX3_unpin 4 = .ok (.iconst (-1), 1) := by decide +kernel
theorem dX3_unpin_5 : decode cX3_unpin 5 = .ok (.invokestatic 38, 3) := by decide +kernel
theorem dX3_unpin_8 : decode cX3_unpin 8 = .ok (.return_, 1) := by decide +kernel
theorem dX3_pinned_0 : decode cX3_pinned 0 = .ok (.iconst 0, 1) := by decide +kernel
theorem dX3_pinned_1 : decode cX3_pinned 1 = .ok (.istore_n 1, 1) := by decide +kernel
theorem dX3_pinned_2 : decode cX3_pinned 2 = .ok (.iconst 1, 1) := by decide +kernel
theorem dX3_pinned_3 : decode cX3_pinned 3 = .ok (.istore_n 2, 1) := by decide +kernel
theorem dX3_pinned_4 : decode cX3_pinned 4 = .ok (.iload_n 2, 1) := by decide +kernel
theorem dX3_pinned_5 : decode cX3_pinned 5 = .ok (.aload_n 0, 1) := by decide +kernel
theorem dX3_pinned_6 : decode cX3_pinned 6 = .ok (.getfield 21, 3) := by decide +kernel
theorem dX3_pinned_9 : decode cX3_pinned 9 = .ok (.if_icmp .gt 21, 3) := by decide +kernel
theorem dX3_pinned_12 : decode cX3_pinned 12 = .ok (.aload_n 0, 1) := by decide +kernel
theorem dX3_pinned_13 : decode cX3_pinned 13 = .ok (.iload_n 2, 1) := by decide +kernel
theorem dX3_pinned_14 : decode cX3_pinned 14 = .ok (.invokevirtual 68, 3) := by decide +kernel
theorem dX3_pinned_17 : decode cX3_pinned 17 = .ok (.iconst (-1), 1) := by decide +kernel
theorem dX3_pinned_18 : decode cX3_pinned 18 = .ok (.if_icmp .eq 6, 3) := by decide +kernel
theorem dX3_pinned_21 : decode cX3_pinned 21 = .ok (.iinc 1 1, 3) := by decide +kernel
theorem dX3_pinned_24 : decode cX3_pinned 24 = .ok (.iinc 2 1, 3) := by decide +kernel
theorem dX3_pinned_27 : decode cX3_pinned 27 = .ok (.goto (-23), 3) := by decide +kernel
theorem dX3_pinned_30 : decode cX3_pinned 30 = .ok (.iload_n 1, 1) := by decide +kernel
theorem dX3_pinned_31 : decode cX3_pinned 31 = .ok (.ireturn, 1) := by decide +kernel
theorem dX3_free_0 : decode cX3_free 0 = .ok (.iload_n 1, 1) := by decide +kernel
theorem dX3_free_1 : decode cX3_free 1 = .ok (.iconst 1, 1) := by decide +kernel
theorem dX3_free_2 : decode cX3_free 2 = .ok (.if_icmp .lt 31, 3) := by decide +kernel
theorem dX3_free_5 : decode cX3_free 5 = .ok (.iload_n 1, 1) := by decide +kernel
theorem dX3_free_6 : decode cX3_free 6 = .ok (.aload_n 0, 1) := by decide +kernel
theorem dX3_free_7 : decode cX3_free 7 = .ok (.getfield 21, 3) := by decide +kernel
theorem dX3_free_10 : decode cX3_free 10 = .ok (.if_icmp .gt 23, 3) := by decide +kernel
theorem dX3_free_13 : decode cX3_free 13 = .ok (.iload_n 1, 1) := by decide +kernel
theorem dX3_free_14 : decode cX3_free 14 = .ok (.bipush 10, 2) := by decide +kernel
theorem dX3_free_16 : decode cX3_free 16 = .ok (.if_icmp .gt 17, 3) := by decide +kernel
theorem dX3_free_19 : decode cX3_free 19 = .ok (.aload_n 0, 1) := by decide +kernel
theorem dX3_free_20 : decode cX3_free 20 = .ok (.getfield 15, 3) := by decide +kernel
theorem dX3_free_23 : decode cX3_free 23 = .ok (.iload_n 1, 1) := by decide +kernel
theorem dX3_free_24 : decode cX3_free 24 = .ok (.iaload, 1) := by decide +kernel
theorem dX3_free_25 : decode cX3_free 25 = .ok (.iconst (-1), 1) := by decide +kernel
theorem dX3_free_26 : decode cX3_free 26 = .ok (.if_icmp .ne 7, 3) := by decide +kernel
theorem dX3_free_29 : decode cX3_free 29 = .ok (.iconst 1, 1) := by decide +kernel
theorem dX3_free_30 : decode cX3_free 30 = .ok (.goto 4, 3) := by decide +kernel
theorem dX3_free_33 : decode cX3_free 33 = .ok (.iconst 0, 1) := by decide +kernel
theorem dX3_free_34 : decode cX3_free 34 = .ok (.ireturn, 1) := by decide +kernel
theorem dX3_allows_0 : decode cX3_allows 0 = .ok (.iload_n 1, 1) := by decide +kernel
theorem dX3_allows_1 : decode cX3_allows 1 = .ok (.iconst 1, 1) := by decide +kernel
theorem dX3_allows_2 : decode cX3_allows 2 = .ok (.if_icmp .lt 33, 3) := by decide +kernel
theorem dX3_allows_5 : decode cX3_allows 5 = .ok (.iload_n 1, 1) := by decide +kernel
theorem dX3_allows_6 : decode cX3_allows 6 = .ok (.aload_n 0, 1) := by decide +kernel
theorem dX3_allows_7 : decode cX3_allows 7 = .ok (.getfield 21, 3) := by decide +kernel
theorem dX3_allows_10 : decode cX3_allows 10 = .ok (.if_icmp .gt 25, 3) := by decide +kernel
theorem dX3_allows_13 : decode cX3_allows 13 = .ok (.iload_n 1, 1) := by decide +kernel
theorem dX3_allows_14 : decode cX3_allows 14 = .ok (.bipush 10, 2) := by decide +kernel
theorem dX3_allows_16 : decode cX3_allows 16 = .ok (.if_icmp .gt 19, 3) := by decide +kernel
theorem dX3_allows_19 : decode cX3_allows 19 = .ok (.iload_n 2, 1) := by decide +kernel
theorem dX3_allows_20 : decode cX3_allows 20 = .ok (.ifCond .lt 15, 3) := by decide +kernel
theorem dX3_allows_23 : decode cX3_allows 23 = .ok (.iload_n 2, 1) := by decide +kernel
theorem dX3_allows_24 : decode cX3_allows 24 = .ok (.aload_n 0, 1) := by decide +kernel
theorem dX3_allows_25 : decode cX3_allows 25 = .ok (.getfield 25, 3) := by decide +kernel
theorem dX3_allows_28 : decode cX3_allows 28 = .ok (.if_icmp .ge 7, 3) := by decide +kernel
theorem dX3_allows_31 : decode cX3_allows 31 = .ok (.iconst 1, 1) := by decide +kernel
theorem dX3_allows_32 : decode cX3_allows 32 = .ok (.goto 4, 3) := by decide +kernel
theorem dX3_allows_35 : decode cX3_allows 35 = .ok (.iconst 0, 1) := by decide +kernel
theorem dX3_allows_36 : decode cX3_allows 36 = .ok (.istore_n 3, 1) := by decide +kernel
theorem dX3_allows_37 : decode cX3_allows 37 = .ok (.iload_n 3, 1) := by decide +kernel
theorem dX3_allows_38 : decode cX3_allows 38 = .ok (.ifCond .eq 27, 3) := by decide +kernel
theorem dX3_allows_41 : decode cX3_allows 41 = .ok (.aload_n 0, 1) := by decide +kernel
theorem dX3_allows_42 : decode cX3_allows 42 = .ok (.getfield 15, 3) := by decide +kernel
theorem dX3_allows_45 : decode cX3_allows 45 = .ok (.iload_n 1, 1) := by decide +kernel
theorem dX3_allows_46 : decode cX3_allows 46 = .ok (.iaload, 1) := by decide +kernel
theorem dX3_allows_47 : decode cX3_allows 47 = .ok (.iconst (-1), 1) := by decide +kernel
theorem dX3_allows_48 : decode cX3_allows 48 = .ok (.if_icmp .eq 13, 3) := by decide +kernel
theorem dX3_allows_51 : decode cX3_allows 51 = .ok (.aload_n 0, 1) := by decide +kernel
theorem dX3_allows_52 : decode cX3_allows 52 = .ok (.getfield 15, 3) := by decide +kernel
theorem dX3_allows_55 : decode cX3_allows 55 = .ok (.iload_n 1, 1) := by decide +kernel
theorem dX3_allows_56 : decode cX3_allows 56 = .ok (.iaload, 1) := by decide +kernel
theorem dX3_allows_57 : decode cX3_allows 57 = .ok (.iload_n 2, 1) := by decide +kernel
theorem dX3_allows_58 : decode cX3_allows 58 = .ok (.if_icmp .ne 7, 3) := by decide +kernel
theorem dX3_allows_61 : decode cX3_allows 61 = .ok (.iconst 1, 1) := by decide +kernel
theorem dX3_allows_62 : decode cX3_allows 62 = .ok (.goto 4, 3) := by decide +kernel
theorem dX3_allows_65 : decode cX3_allows 65 = .ok (.iconst 0, 1) := by decide +kernel
theorem dX3_allows_66 : decode cX3_allows 66 = .ok (.ireturn, 1) := by decide +kernel
theorem dX3_resize_0 : decode cX3_resize 0 = .ok (.iload_n 1, 1) := by decide +kernel
theorem dX3_resize_1 : decode cX3_resize 1 = .ok (.iconst 1, 1) := by decide +kernel
theorem dX3_resize_2 : decode cX3_resize 2 = .ok (.iadd, 1) := by decide +kernel
theorem dX3_resize_3 : decode cX3_resize 3 = .ok (.istore_n 2, 1) := by decide +kernel
theorem dX3_resize_4 : decode cX3_resize 4 = .ok (.iload_n 2, 1) := by decide +kernel
theorem dX3_resize_5 : decode cX3_resize 5 = .ok (.aload_n 0, 1) := by decide +kernel
theorem dX3_resize_6 : decode cX3_resize 6 = .ok (.getfield 21, 3) := by decide +kernel
theorem dX3_resize_9 : decode cX3_resize 9 = .ok (.if_icmp .gt 15, 3) := by decide +kernel
theorem dX3_resize_12 : decode cX3_resize 12 = .ok (.aload_n 0, 1) := by decide +kernel
theorem dX3_resize_13 : decode cX3_resize 13 = .ok (.iload_n 2, 1) := by decide +kernel
theorem dX3_resize_14 : decode cX3_resize 14 = .ok (.iconst (-1), 1) := by decide +kernel
theorem dX3_resize_15 : decode cX3_resize 15 = .ok (.invokevirtual 72, 3) := by decide +kernel
theorem dX3_resize_18 : decode cX3_resize 18 = .ok (.iinc 2 1, 3) := by decide +kernel
theorem dX3_resize_21 : decode cX3_resize 21 = .ok (.goto (-17), 3) := by decide +kernel
theorem dX3_resize_24 : decode cX3_resize 24 = .ok (.aload_n 0, 1) := by decide +kernel
theorem dX3_resize_25 : decode cX3_resize 25 = .ok (.aload_n 0, 1) := by decide +kernel
theorem dX3_resize_26 : decode cX3_resize 26 = .ok (.getfield 31, 3) := by decide +kernel
theorem dX3_resize_29 : decode cX3_resize 29 = .ok (.ifCond .eq 15, 3) := by decide +kernel
theorem dX3_resize_32 : decode cX3_resize 32 = .ok (.iload_n 1, 1) := by decide +kernel
theorem dX3_resize_33 : decode cX3_resize 33 = .ok (.aload_n 0, 1) := by decide +kernel
theorem dX3_resize_34 : decode cX3_resize 34 = .ok (.getfield 21, 3) := by decide +kernel
theorem dX3_resize_37 : decode cX3_resize 37 = .ok (.if_icmp .ne 7, 3) := by decide +kernel
theorem dX3_resize_40 : decode cX3_resize 40 = .ok (.iconst 1, 1) := by decide +kernel
theorem dX3_resize_41 : decode cX3_resize 41 = .ok (.goto 4, 3) := by decide +kernel
theorem dX3_resize_44 : decode cX3_resize 44 = .ok (.iconst 0, 1) := by decide +kernel
theorem dX3_resize_45 : decode cX3_resize 45 = .ok (.putfield 31, 3) := by decide +kernel
theorem dX3_resize_48 : decode cX3_resize 48 = .ok (.aload_n 0, 1) := by decide +kernel
theorem dX3_resize_49 : decode cX3_resize 49 = .ok (.iload_n 1, 1) := by decide +kernel
theorem dX3_resize_50 : decode cX3_resize 50 = .ok (.putfield 21, 3) := by decide +kernel
theorem dX3_resize_53 : decode cX3_resize 53 = .ok (.return_, 1) := by decide +kernel
theorem dX3_classOf_0 : decode cX3_classOf 0 = .ok (.aload_n 0, 1) := by decide +kernel
theorem dX3_classOf_1 : decode cX3_classOf 1 = .ok (.iload_n 1, 1) := by decide +kernel
theorem dX3_classOf_2 : decode cX3_classOf 2 = .ok (.invokevirtual 65, 3) := by decide +kernel
theorem dX3_classOf_5 : decode cX3_classOf 5 = .ok (.ifCond .eq 12, 3) := by decide +kernel
theorem dX3_classOf_8 : decode cX3_classOf 8 = .ok (.aload_n 0, 1) := by decide +kernel
theorem dX3_classOf_9 : decode cX3_classOf 9 = .ok (.getfield 18, 3) := by decide +kernel
theorem dX3_classOf_12 : decode cX3_classOf 12 = .ok (.iload_n 1, 1) := by decide +kernel
theorem dX3_classOf_13 : decode cX3_classOf 13 = .ok (.iaload, 1) := by decide +kernel
theorem dX3_classOf_14 : decode cX3_classOf 14 = .ok (.goto 4, 3) := by decide +kernel
theorem dX3_classOf_17 : decode cX3_classOf 17 = .ok (.iconst 0, 1) := by decide +kernel
theorem dX3_classOf_18 : decode cX3_classOf 18 = .ok (.ireturn, 1) := by decide +kernel
theorem dX3_colourOf_0 : decode cX3_colourOf 0 = .ok (.iconst 0, 1) := by decide +kernel
theorem dX3_colourOf_1 : decode cX3_colourOf 1 = .ok (.istore_n 2, 1) := by decide +kernel
theorem dX3_colourOf_2 : decode cX3_colourOf 2 = .ok (.iload_n 2, 1) := by decide +kernel
theorem dX3_colourOf_3 : decode cX3_colourOf 3 = .ok (.iconst 3, 1) := by decide +kernel
theorem dX3_colourOf_4 : decode cX3_colourOf 4 = .ok (.if_icmp .ge 24, 3) := by decide +kernel
theorem dX3_colourOf_7 : decode cX3_colourOf 7 = .ok (.aload_n 0, 1) := by decide +kernel
theorem dX3_colourOf_8 : decode cX3_colourOf 8 = .ok (.iload_n 2, 1) := by decide +kernel
theorem dX3_colourOf_9 : decode cX3_colourOf 9 = .ok (.invokevirtual 76, 3) := by decide +kernel
theorem dX3_colourOf_12 : decode cX3_colourOf 12 = .ok (.iload_n 1, 1) := by decide +kernel
theorem dX3_colourOf_13 : decode cX3_colourOf 13 = .ok (.ishr, 1) := by decide +kernel
theorem dX3_colourOf_14 : decode cX3_colourOf 14 = .ok (.iconst 1, 1) := by decide +kernel
theorem dX3_colourOf_15 : decode cX3_colourOf 15 = .ok (.iand, 1) := by decide +kernel
theorem dX3_colourOf_16 : decode cX3_colourOf 16 = .ok (.iconst 1, 1) := by decide +kernel
theorem dX3_colourOf_17 : decode cX3_colourOf 17 = .ok (.if_icmp .ne 5, 3) := by decide +kernel
theorem dX3_colourOf_20 : decode cX3_colourOf 20 = .ok (.iload_n 2, 1) := by decide +kernel
theorem dX3_colourOf_21 : decode cX3_colourOf 21 = .ok (.ireturn, 1) := by decide +kernel
theorem dX3_colourOf_22 : decode cX3_colourOf 22 = .ok (.iinc 2 1, 3) := by decide +kernel
theorem dX3_colourOf_25 : decode cX3_colourOf 25 = .ok (.goto (-23), 3) := by decide +kernel
theorem dX3_colourOf_28 : decode cX3_colourOf 28 = .ok (.bipush (-9), 2) := by decide +kernel
theorem dX3_colourOf_30 : decode cX3_colourOf 30 = .ok (.ireturn, 1) := by decide +kernel
theorem dX3_repaint_0 : decode cX3_repaint 0 = .ok (.aload_n 0, 1) := by decide +kernel
theorem dX3_repaint_1 : decode cX3_repaint 1 = .ok (.iload_n 1, 1) := by decide +kernel
theorem dX3_repaint_2 : decode cX3_repaint 2 = .ok (.invokevirtual 62, 3) := by decide +kernel
theorem dX3_repaint_5 : decode cX3_repaint 5 = .ok (.ifCond .eq 11, 3) := by decide +kernel
theorem dX3_repaint_8 : decode cX3_repaint 8 = .ok (.aload_n 0, 1) := by decide +kernel
theorem dX3_repaint_9 : decode cX3_repaint 9 = .ok (.iload_n 2, 1) := by decide +kernel
theorem dX3_repaint_10 : decode cX3_repaint 10 = .ok (.invokevirtual 65, 3) := by decide +kernel
theorem dX3_repaint_13 : decode cX3_repaint 13 = .ok (.ifCond .ne 4, 3) := by decide +kernel
theorem dX3_repaint_16 : decode cX3_repaint 16 = .ok (.return_, 1) := by decide +kernel
theorem dX3_repaint_17 : decode cX3_repaint 17 = .ok (.iconst 0, 1) := by decide +kernel
theorem dX3_repaint_18 : decode cX3_repaint 18 = .ok (.istore_n 3, 1) := by decide +kernel
theorem dX3_repaint_19 : decode cX3_repaint 19 = .ok (.iload_n 3, 1) := by decide +kernel
theorem dX3_repaint_20 : decode cX3_repaint 20 = .ok (.iconst 3, 1) := by decide +kernel
theorem dX3_repaint_21 : decode cX3_repaint 21 = .ok (.if_icmp .ge 23, 3) := by decide +kernel
theorem dX3_repaint_24 : decode cX3_repaint 24 = .ok (.aload_n 0, 1) := by decide +kernel
theorem dX3_repaint_25 : decode cX3_repaint 25 = .ok (.getfield 18, 3) := by decide +kernel
theorem dX3_repaint_28 : decode cX3_repaint 28 = .ok (.iload_n 3, 1) := by decide +kernel
theorem dX3_repaint_29 : decode cX3_repaint 29 = .ok (.dup2, 1) := by decide +kernel
theorem dX3_repaint_30 : decode cX3_repaint 30 = .ok (.iaload, 1) := by decide +kernel
theorem dX3_repaint_31 : decode cX3_repaint 31 = .ok (.iconst 1, 1) := by decide +kernel
theorem dX3_repaint_32 : decode cX3_repaint 32 = .ok (.iload_n 1, 1) := by decide +kernel
theorem dX3_repaint_33 : decode cX3_repaint 33 = .ok (.ishl, 1) := by decide +kernel
theorem dX3_repaint_34 : decode cX3_repaint 34 = .ok (.iconst (-1), 1) := by decide +kernel
theorem dX3_repaint_35 : decode cX3_repaint 35 = .ok (.ixor, 1) := by decide +kernel
theorem dX3_repaint_36 : decode cX3_repaint 36 = .ok (.iand, 1) := by decide +kernel
theorem dX3_repaint_37 : decode cX3_repaint 37 = .ok (.iastore, 1) := by decide +kernel
theorem dX3_repaint_38 : decode cX3_repaint 38 = .ok (.iinc 3 1, 3) := by decide +kernel
theorem dX3_repaint_41 : decode cX3_repaint 41 = .ok (.goto (-22), 3) := by decide +kernel
theorem dX3_repaint_44 : decode cX3_repaint 44 = .ok (.aload_n 0, 1) := by decide +kernel
theorem dX3_repaint_45 : decode cX3_repaint 45 = .ok (.getfield 18, 3) := by decide +kernel
theorem dX3_repaint_48 : decode cX3_repaint 48 = .ok (.iload_n 2, 1) := by decide +kernel
theorem dX3_repaint_49 : decode cX3_repaint 49 = .ok (.dup2, 1) := by decide +kernel
theorem dX3_repaint_50 : decode cX3_repaint 50 = .ok (.iaload, 1) := by decide +kernel
theorem dX3_repaint_51 : decode cX3_repaint 51 = .ok (.iconst 1, 1) := by decide +kernel
theorem dX3_repaint_52 : decode cX3_repaint 52 = .ok (.iload_n 1, 1) := by decide +kernel
theorem dX3_repaint_53 : decode cX3_repaint 53 = .ok (.ishl, 1) := by decide +kernel
theorem dX3_repaint_54 : decode cX3_repaint 54 = .ok (.ior, 1) := by decide +kernel
theorem dX3_repaint_55 : decode cX3_repaint 55 = .ok (.iastore, 1) := by decide +kernel
theorem dX3_repaint_56 : decode cX3_repaint 56 = .ok (.return_, 1) := by decide +kernel
theorem dX3_recolour_0 : decode cX3_recolour 0 = .ok (.aload_n 0, 1) := by decide +kernel
theorem dX3_recolour_1 : decode cX3_recolour 1 = .ok (.iload_n 2, 1) := by decide +kernel
theorem dX3_recolour_2 : decode cX3_recolour 2 = .ok (.putfield 31, 3) := by decide +kernel
theorem dX3_recolour_5 : decode cX3_recolour 5 = .ok (.iconst 0, 1) := by decide +kernel
theorem dX3_recolour_6 : decode cX3_recolour 6 = .ok (.istore_n 3, 1) := by decide +kernel
theorem dX3_recolour_7 : decode cX3_recolour 7 = .ok (.iload_n 3, 1) := by decide +kernel
theorem dX3_recolour_8 : decode cX3_recolour 8 = .ok (.iconst 3, 1) := by decide +kernel
theorem dX3_recolour_9 : decode cX3_recolour 9 = .ok (.if_icmp .ge 32, 3) := by decide +kernel
theorem dX3_recolour_12 : decode cX3_recolour 12 = .ok (.iload_n 3, 1) := by decide +kernel
theorem dX3_recolour_13 : decode cX3_recolour 13 = .ok (.aload_n 1, 1) := by decide +kernel
theorem dX3_recolour_14 : decode cX3_recolour 14 = .ok (.arraylength, 1) := by decide +kernel
theorem dX3_recolour_15 : decode cX3_recolour 15 = .ok (.if_icmp .ge 26, 3) := by decide +kernel
theorem dX3_recolour_18 : decode cX3_recolour 18 = .ok (.aload_n 0, 1) := by decide +kernel
theorem dX3_recolour_19 : decode cX3_recolour 19 = .ok (.getfield 18, 3) := by decide +kernel
theorem dX3_recolour_22 : decode cX3_recolour 22 = .ok (.iload_n 3, 1) := by decide +kernel
theorem dX3_recolour_23 : decode cX3_recolour 23 = .ok (.iload_n 2, 1) := by decide +kernel
theorem dX3_recolour_24 : decode cX3_recolour 24 = .ok (.ifCond .eq 9, 3) := by decide +kernel
theorem dX3_recolour_27 : decode cX3_recolour 27 = .ok (.aload_n 1, 1) := by decide +kernel
theorem dX3_recolour_28 : decode cX3_recolour 28 = .ok (.iload_n 3, 1) := by decide +kernel
theorem dX3_recolour_29 : decode cX3_recolour 29 = .ok (.iaload, 1) := by decide +kernel
theorem dX3_recolour_30 : decode cX3_recolour 30 = .ok (.goto 4, 3) := by decide +kernel
theorem dX3_recolour_33 : decode cX3_recolour 33 = .ok (.iconst 0, 1) := by decide +kernel
theorem dX3_recolour_34 : decode cX3_recolour 34 = .ok (.iastore, 1) := by decide +kernel
theorem dX3_recolour_35 : decode cX3_recolour 35 = .ok (.iinc 3 1, 3) := by decide +kernel
theorem dX3_recolour_38 : decode cX3_recolour 38 = .ok (.goto (-31), 3) := by decide +kernel
theorem dX3_recolour_41 : decode cX3_recolour 41 = .ok (.return_, 1) := by decide +kernel
theorem dX3_hasClasses_0 : decode cX3_hasClasses 0 = .ok (.iconst 0, 1) := by decide +kernel
theorem dX3_hasClasses_1 : decode cX3_hasClasses 1 = .ok (.istore_n 2, 1) := by decide +kernel
theorem dX3_hasClasses_2 : decode cX3_hasClasses 2 = .ok (.iload_n 2, 1) := by decide +kernel
theorem dX3_hasClasses_3 : decode cX3_hasClasses 3 = .ok (.iconst 3, 1) := by decide +kernel
theorem dX3_hasClasses_4 : decode cX3_hasClasses 4 = .ok (.if_icmp .ge 29, 3) := by decide +kernel
theorem dX3_hasClasses_7 : decode cX3_hasClasses 7 = .ok (.iload_n 2, 1) := by decide +kernel
theorem dX3_hasClasses_8 : decode cX3_hasClasses 8 = .ok (.aload_n 1, 1) := by decide +kernel
theorem dX3_hasClasses_9 : decode cX3_hasClasses 9 = .ok (.arraylength, 1) := by decide +kernel
theorem dX3_hasClasses_10 : decode cX3_hasClasses 10 = .ok (.if_icmp .ge 23, 3) := by decide +kernel
theorem dX3_hasClasses_13 : decode cX3_hasClasses 13 = .ok (.aload_n 0, 1) := by decide +kernel
theorem dX3_hasClasses_14 : decode cX3_hasClasses 14 = .ok (.getfield 18, 3) := by decide +kernel
theorem dX3_hasClasses_17 : decode cX3_hasClasses 17 = .ok (.iload_n 2, 1) := by decide +kernel
theorem dX3_hasClasses_18 : decode cX3_hasClasses 18 = .ok (.iaload, 1) := by decide +kernel
theorem dX3_hasClasses_19 : decode cX3_hasClasses 19 = .ok (.aload_n 1, 1) := by decide +kernel
theorem dX3_hasClasses_20 : decode cX3_hasClasses 20 = .ok (.iload_n 2, 1) := by decide +kernel
theorem dX3_hasClasses_21 : decode cX3_hasClasses 21 = .ok (.iaload, 1) := by decide +kernel
theorem dX3_hasClasses_22 : decode cX3_hasClasses 22 = .ok (.if_icmp .eq 5, 3) := by decide +kernel
theorem dX3_hasClasses_25 : decode cX3_hasClasses 25 = .ok (.iconst 0, 1) := by decide +kernel
theorem dX3_hasClasses_26 : decode cX3_hasClasses 26 = .ok (.ireturn, 1) := by decide +kernel
theorem dX3_hasClasses_27 : decode cX3_hasClasses 27 = .ok (.iinc 2 1, 3) := by decide +kernel
theorem dX3_hasClasses_30 : decode cX3_hasClasses 30 = .ok (.goto (-28), 3) := by decide +kernel
theorem dX3_hasClasses_33 : decode cX3_hasClasses 33 = .ok (.iconst 1, 1) := by decide +kernel
theorem dX3_hasClasses_34 : decode cX3_hasClasses 34 = .ok (.ireturn, 1) := by decide +kernel
theorem dX3_alike_0 : decode cX3_alike 0 = .ok (.iconst 0, 1) := by decide +kernel
theorem dX3_alike_1 : decode cX3_alike 1 = .ok (.istore_n 2, 1) := by decide +kernel
theorem dX3_alike_2 : decode cX3_alike 2 = .ok (.iconst 0, 1) := by decide +kernel
theorem dX3_alike_3 : decode cX3_alike 3 = .ok (.istore_n 3, 1) := by decide +kernel
theorem dX3_alike_4 : decode cX3_alike 4 = .ok (.iload_n 3, 1) := by decide +kernel
theorem dX3_alike_5 : decode cX3_alike 5 = .ok (.iconst 3, 1) := by decide +kernel
theorem dX3_alike_6 : decode cX3_alike 6 = .ok (.if_icmp .ge 31, 3) := by decide +kernel
theorem dX3_alike_9 : decode cX3_alike 9 = .ok (.iload_n 3, 1) := by decide +kernel
theorem dX3_alike_10 : decode cX3_alike 10 = .ok (.aload_n 1, 1) := by decide +kernel
theorem dX3_alike_11 : decode cX3_alike 11 = .ok (.arraylength, 1) := by decide +kernel
theorem dX3_alike_12 : decode cX3_alike 12 = .ok (.if_icmp .ge 25, 3) := by decide +kernel
theorem dX3_alike_15 : decode cX3_alike 15 = .ok (.iload_n 2, 1) := by decide +kernel
theorem dX3_alike_16 : decode cX3_alike 16 = .ok (.aload_n 0, 1) := by decide +kernel
theorem dX3_alike_17 : decode cX3_alike 17 = .ok (.getfield 18, 3) := by decide +kernel
theorem dX3_alike_20 : decode cX3_alike 20 = .ok (.iload_n 3, 1) := by decide +kernel
theorem dX3_alike_21 : decode cX3_alike 21 = .ok (.iaload, 1) := by decide +kernel
theorem dX3_alike_22 : decode cX3_alike 22 = .ok (.aload_n 1, 1) := by decide +kernel
theorem dX3_alike_23 : decode cX3_alike 23 = .ok (.iload_n 3, 1) := by decide +kernel
theorem dX3_alike_24 : decode cX3_alike 24 = .ok (.iaload, 1) := by decide +kernel
theorem dX3_alike_25 : decode cX3_alike 25 = .ok (.iand, 1) := by decide +kernel
theorem dX3_alike_26 : decode cX3_alike 26 = .ok (.invokestatic 79, 3) := by decide +kernel
theorem dX3_alike_29 : decode cX3_alike 29 = .ok (.iadd, 1) := by decide +kernel
theorem dX3_alike_30 : decode cX3_alike 30 = .ok (.istore_n 2, 1) := by decide +kernel
theorem dX3_alike_31 : decode cX3_alike 31 = .ok (.iinc 3 1, 3) := by decide +kernel
theorem dX3_alike_34 : decode cX3_alike 34 = .ok (.goto (-30), 3) := by decide +kernel
theorem dX3_alike_37 : decode cX3_alike 37 = .ok (.iload_n 2, 1) := by decide +kernel
theorem dX3_alike_38 : decode cX3_alike 38 = .ok (.ireturn, 1) := by decide +kernel
theorem dX4_init_0 : decode cX4_init 0 = .ok (.aload_n 0, 1) := by decide +kernel
theorem dX4_init_1 : decode cX4_init 1 = .ok (.invokespecial 3, 3) := by decide +kernel
theorem dX4_init_4 : decode cX4_init 4 = .ok (.aload_n 0, 1) := by decide +kernel
theorem dX4_init_5 : decode cX4_init 5 = .ok (.bipush 60, 2) := by decide +kernel
theorem dX4_init_7 : decode cX4_init 7 = .ok (.newarray .int, 2) := by decide +kernel
theorem dX4_init_9 : decode cX4_init 9 = .ok (.putfield 11, 3) := by decide +kernel
theorem dX4_init_12 : decode cX4_init 12 = .ok (.return_, 1) := by decide +kernel
theorem dX4_append_0 : decode cX4_append 0 = .ok (.aload_n 0, 1) := by decide +kernel
theorem dX4_append_1 : decode cX4_append 1 = .ok (.getfield 15, 3) := by decide +kernel
theorem dX4_append_4 : decode cX4_append 4 = .ok (.ifCond .lt 12, 3) := by decide +kernel
theorem dX4_append_7 : decode cX4_append 7 = .ok (.aload_n 0, 1) := by decide +kernel
theorem dX4_append_8 : decode cX4_append 8 = .ok (.getfield 15, 3) := by decide +kernel
theorem dX4_append_11 : decode cX4_append 11 = .ok (.bipush 60, 2) := by decide +kernel
theorem dX4_append_13 : decode cX4_append 13 = .ok (.if_icmp .lt 5, 3) := by decide +kernel
theorem dX4_append_16 : decode cX4_append 16 = .ok (.iconst 0, 1) := by decide +kernel
theorem dX4_append_17 : decode cX4_append 17 = .ok (.ireturn, 1) := by decide +kernel
theorem dX4_append_18 : decode cX4_append 18 = .ok (.aload_n 0, 1) := by decide +kernel
theorem dX4_append_19 : decode cX4_append 19 = .ok (.getfield 11, 3) := by decide +kernel
theorem dX4_append_22 : decode cX4_append 22 = .ok (.aload_n 0, 1) := by decide +kernel
theorem dX4_append_23 : decode cX4_append 23 = .ok (.getfield 15, 3) := by decide +kernel
theorem dX4_append_26 : decode cX4_append 26 = .ok (.iload_n 1, 1) := by decide +kernel
theorem dX4_append_27 : decode cX4_append 27 = .ok (.iastore, 1) := by decide +kernel
theorem dX4_append_28 : decode cX4_append 28 = .ok (.aload_n 0, 1) := by decide +kernel
theorem dX4_append_29 : decode cX4_append 29 = .ok (.dup, 1) := by decide +kernel
theorem dX4_append_30 : decode cX4_append 30 = .ok (.getfield 15, 3) := by decide +kernel
theorem dX4_append_33 : decode cX4_append 33 = .ok (.iconst 1, 1) := by decide +kernel
theorem dX4_append_34 : decode cX4_append 34 = .ok (.iadd, 1) := by decide +kernel
theorem dX4_append_35 : decode cX4_append 35 = .ok (.putfield 15, 3) := by decide +kernel
theorem dX4_append_38 : decode cX4_append 38 = .ok (.iconst 1, 1) := by decide +kernel
theorem dX4_append_39 : decode cX4_append 39 = .ok (.ireturn, 1) := by decide +kernel
theorem dX4_read_0 : decode cX4_read 0 = .ok (.aload_n 0, 1) := by decide +kernel
theorem dX4_read_1 : decode cX4_read 1 = .ok (.iconst 0, 1) := by decide +kernel
theorem dX4_read_2 : decode cX4_read 2 = .ok (.putfield 19, 3) := by decide +kernel
theorem dX4_read_5 : decode cX4_read 5 = .ok (.aload_n 0, 1) := by decide +kernel
theorem dX4_read_6 : decode cX4_read 6 = .ok (.aload_n 1, 1) := by decide +kernel
theorem dX4_read_7 : decode cX4_read 7 = .ok (.invokevirtual 22, 3) := by decide +kernel
theorem dX4_read_10 : decode cX4_read 10 = .ok (.ifCond .ne 8, 3) := by decide +kernel
theorem dX4_read_13 : decode cX4_read 13 = .ok (.aload_n 0, 1) := by decide +kernel
theorem dX4_read_14 : decode cX4_read 14 = .ok (.getfield 19, 3) := by decide +kernel
theorem dX4_read_17 : decode cX4_read 17 = .ok (.ireturn, 1) := by decide +kernel
theorem dX4_read_18 : decode cX4_read 18 = .ok (.iconst 0, 1) := by decide +kernel
theorem dX4_read_19 : decode cX4_read 19 = .ok (.istore_n 2, 1) := by decide +kernel
theorem dX4_read_20 : decode cX4_read 20 = .ok (.iload_n 2, 1) := by decide +kernel
theorem dX4_read_21 : decode cX4_read 21 = .ok (.bipush 60, 2) := by decide +kernel
theorem dX4_read_23 : decode cX4_read 23 = .ok (.if_icmp .ge 33, 3) := by decide +kernel
theorem dX4_read_26 : decode cX4_read 26 = .ok (.aload_n 0, 1) := by decide +kernel
theorem dX4_read_27 : decode cX4_read 27 = .ok (.getfield 19, 3) := by decide +kernel
theorem dX4_read_30 : decode cX4_read 30 = .ok (.aload_n 0, 1) := by decide +kernel
theorem dX4_read_31 : decode cX4_read 31 = .ok (.getfield 15, 3) := by decide +kernel
theorem dX4_read_34 : decode cX4_read 34 = .ok (.if_icmp .ge 22, 3) := by decide +kernel
theorem dX4_read_37 : decode cX4_read 37 = .ok (.aload_n 0, 1) := by decide +kernel
theorem dX4_read_38 : decode cX4_read 38 = .ok (.aload_n 1, 1) := by decide +kernel
theorem dX4_read_39 : decode cX4_read 39 = .ok (.invokevirtual 26, 3) := by decide +kernel
theorem dX4_read_42 : decode cX4_read 42 = .ok (.ifCond .ne 8, 3) := by decide +kernel
theorem dX4_read_45 : decode cX4_read 45 = .ok (.aload_n 0, 1) := by decide +kernel
theorem dX4_read_46 : decode cX4_read 46 = .ok (.getfield 19, 3) := by decide +kernel
theorem dX4_read_49 : decode cX4_read 49 = .ok (.ireturn, 1) := by decide +kernel
theorem dX4_read_50 : decode cX4_read 50 = .ok (.iinc 2 1, 3) := by decide +kernel
theorem dX4_read_53 : decode cX4_read 53 = .ok (.goto (-33), 3) := by decide +kernel
theorem dX4_read_56 : decode cX4_read 56 = .ok (.bipush (-9), 2) := by decide +kernel
theorem dX4_read_58 : decode cX4_read 58 = .ok (.ireturn, 1) := by decide +kernel
theorem dX4_readPart_0 : decode cX4_readPart 0 = .ok (.aload_n 1, 1) := by decide +kernel
theorem dX4_readPart_1 : decode cX4_readPart 1 = .ok (.getfield 29, 3) := by decide +kernel
theorem dX4_readPart_4 : decode cX4_readPart 4 = .ok (.iconst 4, 1) := by decide +kernel
theorem dX4_readPart_5 : decode cX4_readPart 5 = .ok (.if_icmp .ge 20, 3) := by decide +kernel
theorem dX4_readPart_8 : decode cX4_readPart 8 = .ok (.aload_n 0, 1) := by decide +kernel
theorem dX4_readPart_9 : decode cX4_readPart 9 = .ok (.bipush 101, 2) := by decide +kernel
theorem dX4_readPart_11 : decode cX4_readPart 11 = .ok (.bipush 101, 2) := by decide +kernel
theorem dX4_readPart_13 : decode cX4_readPart 13 = .ok (.invokevirtual 34, 3) := by decide +kernel
theorem dX4_readPart_16 : decode cX4_readPart 16 = .ok (.ifCond .lt 9, 3) := by decide +kernel
theorem dX4_readPart_19 : decode cX4_readPart 19 = .ok (.aload_n 0, 1) := by decide +kernel
theorem dX4_readPart_20 : decode cX4_readPart 20 = .ok (.aload_n 1, 1) := by decide +kernel
theorem dX4_readPart_21 : decode cX4_readPart 21 = .ok (.invokevirtual 38, 3) := by decide +kernel
theorem dX4_readPart_24 : decode cX4_readPart 24 = .ok (.ireturn, 1) := by decide +kernel
theorem dX4_readPart_25 : decode cX4_readPart 25 = .ok (.aload_n 1, 1) := by decide +kernel
theorem dX4_readPart_26 : decode cX4_readPart 26 = .ok (.invokevirtual 41, 3) := by decide +kernel
theorem dX4_readPart_29 : decode cX4_readPart 29 = .ok (.aload_n 1, 1) := by decide +kernel
theorem dX4_readPart_30 : decode cX4_readPart 30 = .ok (.getfield 45, 3) := by decide +kernel
theorem dX4_readPart_33 : decode cX4_readPart 33 = .ok (.if_icmp .ge 26, 3) := by decide +kernel
theorem dX4_readPart_36 : decode cX4_readPart 36 = .ok (.aload_n 0, 1) := by decide +kernel
theorem dX4_readPart_37 : decode cX4_readPart 37 = .ok (.bipush 112, 2) := by decide +kernel
theorem dX4_readPart_39 : decode cX4_readPart 39 = .ok (.bipush 112, 2) := by decide +kernel
theorem dX4_readPart_41 : decode cX4_readPart 41 = .ok (.invokevirtual 34, 3) := by decide +kernel
theorem dX4_readPart_44 : decode cX4_readPart 44 = .ok (.ifCond .lt 15, 3) := by decide +kernel
theorem dX4_readPart_47 : decode cX4_readPart 47 = .ok (.aload_n 0, 1) := by decide +kernel
theorem dX4_readPart_48 : decode cX4_readPart 48 = .ok (.aload_n 1, 1) := by decide +kernel
theorem dX4_readPart_49 : decode cX4_readPart 49 = .ok (.invokevirtual 48, 3) := by decide +kernel
theorem dX4_readPart_52 : decode cX4_readPart 52 = .ok (.ifCond .eq 7, 3) := by decide +kernel
theorem dX4_readPart_55 : decode cX4_readPart 55 = .ok (.iconst 1, 1) := by decide +kernel
theorem dX4_readPart_56 : decode cX4_readPart 56 = .ok (.goto 4, 3) := by decide +kernel
theorem dX4_readPart_59 : decode cX4_readPart 59 = .ok (.iconst 0, 1) := by decide +kernel
theorem dX4_readPart_60 : decode cX4_readPart 60 = .ok (.ireturn, 1) := by decide +kernel
theorem dX4_readHead_0 : decode cX4_readHead 0 = .ok (.aload_n 0, 1) := by decide +kernel
theorem dX4_readHead_1 : decode cX4_readHead 1 = .ok (.bipush 82, 2) := by decide +kernel
theorem dX4_readHead_3 : decode cX4_readHead 3 = .ok (.bipush 82, 2) := by decide +kernel
theorem dX4_readHead_5 : decode cX4_readHead 5 = .ok (.invokevirtual 34, 3) := by decide +kernel
theorem dX4_readHead_8 : decode cX4_readHead 8 = .ok (.ifCond .ge 5, 3) := by decide +kernel
theorem dX4_readHead_11 : decode cX4_readHead 11 = .ok (.iconst 0, 1) := by decide +kernel
theorem dX4_readHead_12 : decode cX4_readHead 12 = .ok (.ireturn, 1) := by decide +kernel
theorem dX4_readHead_13 : decode cX4_readHead 13 = .ok (.aload_n 0, 1) := by decide +kernel
theorem dX4_readHead_14 : decode cX4_readHead 14 = .ok (.bipush 48, 2) := by decide +kernel
theorem dX4_readHead_16 : decode cX4_readHead 16 = .ok (.bipush 49, 2) := by decide +kernel
theorem dX4_readHead_18 : decode cX4_readHead 18 = .ok (.invokevirtual 34, 3) := by decide +kernel
theorem dX4_readHead_21 : decode cX4_readHead 21 = .ok (.istore_n 2, 1) := by decide +kernel
theorem dX4_readHead_22 : decode cX4_readHead 22 = .ok (.iload_n 2, 1) := by decide +kernel
theorem dX4_readHead_23 : decode cX4_readHead 23 = .ok (.ifCond .ge 5, 3) := by decide +kernel
theorem dX4_readHead_26 : decode cX4_readHead 26 = .ok (.iconst 0, 1) := by decide +kernel
theorem dX4_readHead_27 : decode cX4_readHead 27 = .ok (.ireturn, 1) := by decide +kernel
theorem dX4_readHead_28 : decode cX4_readHead 28 = .ok (.iload_n 2, 1) := by decide +kernel
theorem dX4_readHead_29 : decode cX4_readHead 29 = .ok (.bipush 49, 2) := by decide +kernel
theorem dX4_readHead_31 : decode cX4_readHead 31 = .ok (.if_icmp .ne 14, 3) := by decide +kernel
theorem dX4_readHead_34 : decode cX4_readHead 34 = .ok (.aload_n 0, 1) := by decide +kernel
theorem dX4_readHead_35 : decode cX4_readHead 35 = .ok (.bipush 48, 2) := by decide +kernel
theorem dX4_readHead_37 : decode cX4_readHead 37 = .ok (.bipush 48, 2) := by decide +kernel
theorem dX4_readHead_39 : decode cX4_readHead 39 = .ok (.invokevirtual 34, 3) := by decide +kernel
theorem dX4_readHead_42 : decode cX4_readHead 42 = .ok (.goto 11, 3) := by decide +kernel
theorem dX4_readHead_45 : decode cX4_readHead 45 = .ok (.aload_n 0, 1) := by decide +kernel
theorem dX4_readHead_46 : decode cX4_readHead 46 = .ok (.bipush 49, 2) := by decide +kernel
theorem dX4_readHead_48 : decode cX4_readHead 48 = .ok (.bipush 57, 2) := by decide +kernel
theorem dX4_readHead_50 : decode cX4_readHead 50 = .ok (.invokevirtual 34, 3) := by decide +kernel
theorem dX4_readHead_53 : decode cX4_readHead 53 = .ok (.istore_n 3, 1) := by decide +kernel
theorem dX4_readHead_54 : decode cX4_readHead 54 = .ok (.iload_n 3, 1) := by decide +kernel
theorem dX4_readHead_55 : decode cX4_readHead 55 = .ok (.ifCond .ge 5, 3) := by decide +kernel
theorem dX4_readHead_58 : decode cX4_readHead 58 = .ok (.iconst 0, 1) := by decide +kernel
theorem dX4_readHead_59 : decode cX4_readHead 59 = .ok (.ireturn, 1) := by decide +kernel
theorem dX4_readHead_60 : decode cX4_readHead 60 = .ok (.aload_n 0, 1) := by decide +kernel
theorem dX4_readHead_61 : decode cX4_readHead 61 = .ok (.bipush 50, 2) := by decide +kernel
theorem dX4_readHead_63 : decode cX4_readHead 63 = .ok (.bipush 51, 2) := by decide +kernel
theorem dX4_readHead_65 : decode cX4_readHead 65 = .ok (.invokevirtual 34, 3) := by decide +kernel
theorem dX4_readHead_68 : decode cX4_readHead 68 = .ok (.istore 4, 2) := by decide +kernel
theorem dX4_readHead_70 : decode cX4_readHead 70 = .ok (.iload 4, 2) := by decide +kernel
theorem dX4_readHead_72 : decode cX4_readHead 72 = .ok (.ifCond .ge 5, 3) := by decide +kernel
theorem dX4_readHead_75 : decode cX4_readHead 75 = .ok (.iconst 0, 1) := by decide +kernel
theorem dX4_readHead_76 : decode cX4_readHead 76 = .ok (.ireturn, 1) := by decide +kernel
theorem dX4_readHead_77 : decode cX4_readHead 77 = .ok (.aload_n 1, 1) := by decide +kernel
theorem dX4_readHead_78 : decode cX4_readHead 78 = .ok (.bipush 10, 2) := by decide +kernel
theorem dX4_readHead_80 : decode cX4_readHead 80 = .ok (.iload_n 2, 1) := by decide +kernel
theorem dX4_readHead_81 : decode cX4_readHead 81 = .ok (.bipush 48, 2) := by decide +kernel
theorem dX4_readHead_83 : decode cX4_readHead 83 = .ok (.isub, 1) := by decide +kernel
theorem dX4_readHead_84 : decode cX4_readHead 84 = .ok (.imul, 1) := by decide +kernel
theorem dX4_readHead_85 : decode cX4_readHead 85 = .ok (.iload_n 3, 1) := by decide +kernel
theorem dX4_readHead_86 : decode cX4_readHead 86 = .ok (.iadd, 1) := by decide +kernel
theorem dX4_readHead_87 : decode cX4_readHead 87 = .ok (.bipush 48, 2) := by decide +kernel
theorem dX4_readHead_89 : decode cX4_readHead 89 = .ok (.isub, 1) := by decide +kernel
theorem dX4_readHead_90 : decode cX4_readHead 90 = .ok (.iload 4, 2) := by decide +kernel
theorem dX4_readHead_92 : decode cX4_readHead 92 = .ok (.bipush 48, 2) := by decide +kernel
theorem dX4_readHead_94 : decode cX4_readHead 94 = .ok (.isub, 1) := by decide +kernel
theorem dX4_readHead_95 : decode cX4_readHead 95 = .ok (.invokevirtual 51, 3) := by decide +kernel
theorem dX4_readHead_98 : decode cX4_readHead 98 = .ok (.iconst 1, 1) := by decide +kernel
theorem dX4_readHead_99 : decode cX4_readHead 99 = .ok (.ireturn, 1) := by decide +kernel
theorem dX4_readEquation_0 : decode cX4_readEquation 0 = .ok (.aload_n 0, 1) := by decide +kernel
theorem dX4_readEquation_1 : decode cX4_readEquation 1 = .ok (.invokevirtual 55, 3) := by decide +kernel
theorem dX4_readEquation_4 : decode cX4_readEquation 4 = .ok (.istore_n 2, 1) := by decide +kernel
theorem dX4_readEquation_5 : decode cX4_readEquation 5 = .ok (.iload_n 2, 1) := by decide +kernel
theorem dX4_readEquation_6 : decode cX4_readEquation 6 = .ok (.ifCond .ne 7, 3) := by decide +kernel
theorem dX4_readEquation_9 : decode cX4_readEquation 9 = .ok (.iconst 0, 1) := by decide +kernel
theorem dX4_readEquation_10 : decode cX4_readEquation 10 = .ok (.goto 7, 3) := by decide +kernel
theorem dX4_readEquation_13 : decode cX4_readEquation 13 = .ok (.aload_n 0, 1) := by decide +kernel
theorem dX4_readEquation_14 : decode cX4_readEquation 14 = .ok (.invokevirtual 55, 3) := by decide +kernel
theorem dX4_readEquation_17 : decode cX4_readEquation 17 = .ok (.istore_n 3, 1) := by decide +kernel
theorem dX4_readEquation_18 : decode cX4_readEquation 18 = .ok (.iload_n 3, 1) := by decide +kernel
theorem dX4_readEquation_19 : decode cX4_readEquation 19 = .ok (.ifCond .ne 7, 3) := by decide +kernel
theorem dX4_readEquation_22 : decode cX4_readEquation 22 = .ok (.iconst 0, 1) := by decide +kernel
theorem dX4_readEquation_23 : decode cX4_readEquation 23 = .ok (.goto 7, 3) := by decide +kernel
theorem dX4_readEquation_26 : decode cX4_readEquation 26 = .ok (.aload_n 0, 1) := by decide +kernel
theorem dX4_readEquation_27 : decode cX4_readEquation 27 = .ok (.invokevirtual 55, 3) := by decide +kernel
theorem dX4_readEquation_30 : decode cX4_readEquation 30 = .ok (.istore 4, 2) := by decide +kernel
theorem dX4_readEquation_32 : decode cX4_readEquation 32 = .ok (.iload 4, 2) := by decide +kernel
theorem dX4_readEquation_34 : decode cX4_readEquation 34 = .ok (.ifCond .ne 5, 3) := by decide +kernel
theorem dX4_readEquation_37 : decode cX4_readEquation 37 = .ok (.iconst 0, 1) := by decide +kernel
theorem dX4_readEquation_38 : decode cX4_readEquation 38 = .ok (.ireturn, 1) := by decide +kernel
theorem dX4_readEquation_39 : decode cX4_readEquation 39 = .ok (.aload_n 0, 1) := by decide +kernel
theorem dX4_readEquation_40 : decode cX4_readEquation 40 = .ok (.bipush 33, 2) := by decide +kernel
theorem dX4_readEquation_42 : decode cX4_readEquation 42 = .ok (.bipush 33, 2) := by decide +kernel
theorem dX4_readEquation_44 : decode cX4_readEquation 44 = .ok (.invokevirtual 34, 3) := by decide +kernel
theorem dX4_readEquation_47 : decode cX4_readEquation 47 = .ok (.ifCond .lt 7, 3) := by decide +kernel
theorem dX4_readEquation_50 : decode cX4_readEquation 50 = .ok (.iconst 1, 1) := by decide +kernel
theorem dX4_readEquation_51 : decode cX4_readEquation 51 = .ok (.goto 4, 3) := by decide +kernel
theorem dX4_readEquation_54 : decode cX4_readEquation 54 = .ok (.iconst 0, 1) := by decide +kernel
theorem dX4_readEquation_55 : decode cX4_readEquation 55 = .ok (.istore 5, 2) := by decide +kernel
theorem dX4_readEquation_57 : decode cX4_readEquation 57 = .ok (.iload 5, 2) := by decide +kernel
theorem dX4_readEquation_59 : decode cX4_readEquation 59 = .ok (.ifCond .ne 16, 3) := by decide +kernel
theorem dX4_readEquation_62 : decode cX4_readEquation 62 = .ok (.aload_n 0, 1) := by decide +kernel
theorem dX4_readEquation_63 : decode cX4_readEquation 63 = .ok (.bipush 61, 2) := by decide +kernel
theorem dX4_readEquation_65 : decode cX4_readEquation 65 = .ok (.bipush 61, 2) := by decide +kernel
theorem dX4_readEquation_67 : decode cX4_readEquation 67 = .ok (.invokevirtual 34, 3) := by decide +kernel
theorem dX4_readEquation_70 : decode cX4_readEquation 70 = .ok (.ifCond .ge 5, 3) := by decide +kernel
theorem dX4_readEquation_73 : decode cX4_readEquation 73 = .ok (.iconst 0, 1) := by decide +kernel
theorem dX4_readEquation_74 : decode cX4_readEquation 74 = .ok (.ireturn, 1) := by decide +kernel
theorem dX4_readEquation_75 : decode cX4_readEquation 75 = .ok (.aload_n 1, 1) := by decide +kernel
theorem dX4_readEquation_76 : decode cX4_readEquation 76 = .ok (.iload_n 2, 1) := by decide +kernel
theorem dX4_readEquation_77 : decode cX4_readEquation 77 = .ok (.iload_n 3, 1) := by decide +kernel
theorem dX4_readEquation_78 : decode cX4_readEquation 78 = .ok (.iload 4, 2) := by decide +kernel
theorem dX4_readEquation_80 : decode cX4_readEquation 80 = .ok (.iload 5, 2) := by decide +kernel
theorem dX4_readEquation_82 : decode cX4_readEquation 82 = .ok (.ifCond .eq 7, 3) := by decide +kernel
theorem dX4_readEquation_85 : decode cX4_readEquation 85 = .ok (.iconst 1, 1) := by decide +kernel
theorem dX4_readEquation_86 : decode cX4_readEquation 86 = .ok (.goto 4, 3) := by decide +kernel
theorem dX4_readEquation_89 : decode cX4_readEquation 89 = .ok (.iconst 0, 1) := by decide +kernel
theorem dX4_readEquation_90 : decode cX4_readEquation 90 = .ok (.invokevirtual 58, 3) := by decide +kernel
theorem dX4_readEquation_93 : decode cX4_readEquation 93 = .ok (.iconst 1, 1) := by decide +kernel
theorem dX4_readEquation_94 : decode cX4_readEquation 94 = .ok (.ireturn, 1) := by decide +kernel
theorem dX4_readFactor_0 : decode cX4_readFactor 0 = .ok (.aload_n 0, 1) := by decide +kernel
theorem dX4_readFactor_1 : decode cX4_readFactor 1 = .ok (.bipush 49, 2) := by decide +kernel
theorem dX4_readFactor_3 : decode cX4_readFactor 3 = .ok (.bipush 52, 2) := by decide +kernel
theorem dX4_readFactor_5 : decode cX4_readFactor 5 = .ok (.invokevirtual 34, 3) := by decide +kernel
theorem dX4_readFactor_8 : decode cX4_readFactor 8 = .ok (.istore_n 1, 1) := by decide +kernel
theorem dX4_readFactor_9 : decode cX4_readFactor 9 = .ok (.iload_n 1, 1) := by decide +kernel
theorem dX4_readFactor_10 : decode cX4_readFactor 10 = .ok (.ifCond .lt 8, 3) := by decide +kernel
theorem dX4_readFactor_13 : decode cX4_readFactor 13 = .ok (.iload_n 1, 1) := by decide +kernel
theorem dX4_readFactor_14 : decode cX4_readFactor 14 = .ok (.bipush 48, 2) := by decide +kernel
theorem dX4_readFactor_16 : decode cX4_readFactor 16 = .ok (.isub, 1) := by decide +kernel
theorem dX4_readFactor_17 : decode cX4_readFactor 17 = .ok (.ireturn, 1) := by decide +kernel
theorem dX4_readFactor_18 : decode cX4_readFactor 18 = .ok (.aload_n 0, 1) := by decide +kernel
theorem dX4_readFactor_19 : decode cX4_readFactor 19 = .ok (.bipush 97, 2) := by decide +kernel
theorem dX4_readFactor_21 : decode cX4_readFactor 21 = .ok (.bipush 100, 2) := by decide +kernel
theorem dX4_readFactor_23 : decode cX4_readFactor 23 = .ok (.invokevirtual 34, 3) := by decide +kernel
theorem dX4_readFactor_26 : decode cX4_readFactor 26 = .ok (.istore_n 2, 1) := by decide +kernel
theorem dX4_readFactor_27 : decode cX4_readFactor 27 = .ok (.iload_n 2, 1) := by decide +kernel
theorem dX4_readFactor_28 : decode cX4_readFactor 28 = .ok (.ifCond .lt 10, 3) := by decide +kernel
theorem dX4_readFactor_31 : decode cX4_readFactor 31 = .ok (.bipush 96, 2) := by decide +kernel
theorem dX4_readFactor_33 : decode cX4_readFactor 33 = .ok (.iload_n 2, 1) := by decide +kernel
theorem dX4_readFactor_34 : decode cX4_readFactor 34 = .ok (.isub, 1) := by decide +kernel
theorem dX4_readFactor_35 : decode cX4_readFactor 35 = .ok (.goto 4, 3) := by decide +kernel
theorem dX4_readFactor_38 : decode cX4_readFactor 38 = .ok (.iconst 0, 1) := by decide +kernel
theorem dX4_readFactor_39 : decode cX4_readFactor 39 = .ok (.ireturn, 1) := by decide +kernel
theorem dX4_readPin_0 : decode cX4_readPin 0 = .ok (.aload_n 0, 1) := by decide +kernel
theorem dX4_readPin_1 : decode cX4_readPin 1 = .ok (.aload_n 1, 1) := by decide +kernel
theorem dX4_readPin_2 : decode cX4_readPin 2 = .ok (.invokevirtual 62, 3) := by decide +kernel
theorem dX4_readPin_5 : decode cX4_readPin 5 = .ok (.istore_n 2, 1) := by decide +kernel
theorem dX4_readPin_6 : decode cX4_readPin 6 = .ok (.iload_n 2, 1) := by decide +kernel
theorem dX4_readPin_7 : decode cX4_readPin 7 = .ok (.ifCond .ne 5, 3) := by decide +kernel
theorem dX4_readPin_10 : decode cX4_readPin 10 = .ok (.iconst 0, 1) := by decide +kernel
theorem dX4_readPin_11 : decode cX4_readPin 11 = .ok (.ireturn, 1) := by decide +kernel
theorem dX4_readPin_12 : decode cX4_readPin 12 = .ok (.aload_n 0, 1) := by decide +kernel
theorem dX4_readPin_13 : decode cX4_readPin 13 = .ok (.bipush 48, 2) := by decide +kernel
theorem dX4_readPin_15 : decode cX4_readPin 15 = .ok (.bipush 48, 2) := by decide +kernel
theorem dX4_readPin_17 : decode cX4_readPin 17 = .ok (.aload_n 1, 1) := by decide +kernel
theorem dX4_readPin_18 : decode cX4_readPin 18 = .ok (.getfield 66, 3) := by decide +kernel
theorem dX4_readPin_21 : decode cX4_readPin 21 = .ok (.iadd, 1) := by decide +kernel
theorem dX4_readPin_22 : decode cX4_readPin 22 = .ok (.iconst 1, 1) := by decide +kernel
theorem dX4_readPin_23 : decode cX4_readPin 23 = .ok (.isub, 1) := by decide +kernel
theorem dX4_readPin_24 : decode cX4_readPin 24 = .ok (.invokevirtual 34, 3) := by decide +kernel
theorem dX4_readPin_27 : decode cX4_readPin 27 = .ok (.istore_n 3, 1) := by decide +kernel
theorem dX4_readPin_28 : decode cX4_readPin 28 = .ok (.iload_n 3, 1) := by decide +kernel
theorem dX4_readPin_29 : decode cX4_readPin 29 = .ok (.ifCond .ge 5, 3) := by decide +kernel
theorem dX4_readPin_32 : decode cX4_readPin 32 = .ok (.iconst 0, 1) := by decide +kernel
theorem dX4_readPin_33 : decode cX4_readPin 33 = .ok (.ireturn, 1) := by decide +kernel
theorem dX4_readPin_34 : decode cX4_readPin 34 = .ok (.aload_n 1, 1) := by decide +kernel
theorem dX4_readPin_35 : decode cX4_readPin 35 = .ok (.iload_n 2, 1) := by decide +kernel
theorem dX4_readPin_36 : decode cX4_readPin 36 = .ok (.iload_n 3, 1) := by decide +kernel
theorem dX4_readPin_37 : decode cX4_readPin 37 = .ok (.bipush 48, 2) := by decide +kernel
theorem dX4_readPin_39 : decode cX4_readPin 39 = .ok (.isub, 1) := by decide +kernel
theorem dX4_readPin_40 : decode cX4_readPin 40 = .ok (.invokevirtual 69, 3) := by decide +kernel
theorem dX4_readPin_43 : decode cX4_readPin 43 = .ok (.iconst 1, 1) := by decide +kernel
theorem dX4_readPin_44 : decode cX4_readPin 44 = .ok (.ireturn, 1) := by decide +kernel
theorem dX4_readNumber_0 : decode cX4_readNumber 0 = .ok (.aload_n 1, 1) := by decide +kernel
theorem dX4_readNumber_1 : decode cX4_readNumber 1 = .ok (.invokestatic 72, 3) := by decide +kernel
theorem dX4_readNumber_4 : decode cX4_readNumber 4 = .ok (.ifCond .eq 8, 3) := by decide +kernel
theorem dX4_readNumber_7 : decode cX4_readNumber 7 = .ok (.bipush 48, 2) := by decide +kernel
theorem dX4_readNumber_9 : decode cX4_readNumber 9 = .ok (.goto 5, 3) := by decide +kernel
theorem dX4_readNumber_12 : decode cX4_readNumber 12 = .ok (.bipush 49, 2) := by decide +kernel
theorem dX4_readNumber_14 : decode cX4_readNumber 14 = .ok (.istore_n 2, 1) := by decide +kernel
theorem dX4_readNumber_15 : decode cX4_readNumber 15 = .ok (.aload_n 1, 1) := by decide +kernel
theorem dX4_readNumber_16 : decode cX4_readNumber 16 = .ok (.bipush 10, 2) := by decide +kernel
theorem dX4_readNumber_18 : decode cX4_readNumber 18 = .ok (.invokevirtual 75, 3) := by decide +kernel
theorem dX4_readNumber_21 : decode cX4_readNumber 21 = .ok (.ifCond .eq 8, 3) := by decide +kernel
theorem dX4_readNumber_24 : decode cX4_readNumber 24 = .ok (.bipush 49, 2) := by decide +kernel
theorem dX4_readNumber_26 : decode cX4_readNumber 26 = .ok (.goto 5, 3) := by decide +kernel
theorem dX4_readNumber_29 : decode cX4_readNumber 29 = .ok (.bipush 48, 2) := by decide +kernel
theorem dX4_readNumber_31 : decode cX4_readNumber 31 = .ok (.istore_n 3, 1) := by decide +kernel
theorem dX4_readNumber_32 : decode cX4_readNumber 32 = .ok (.aload_n 0, 1) := by decide +kernel
theorem dX4_readNumber_33 : decode cX4_readNumber 33 = .ok (.iload_n 2, 1) := by decide +kernel
theorem dX4_readNumber_34 : decode cX4_readNumber 34 = .ok (.iload_n 3, 1) := by decide +kernel
theorem dX4_readNumber_35 : decode cX4_readNumber 35 = .ok (.invokevirtual 34, 3) := by decide +kernel
theorem dX4_readNumber_38 : decode cX4_readNumber 38 = .ok (.istore 4, 2) := by decide +kernel
theorem dX4_readNumber_40 : decode cX4_readNumber 40 = .ok (.iload 4, 2) := by decide +kernel
theorem dX4_readNumber_42 : decode cX4_readNumber 42 = .ok (.ifCond .ge 5, 3) := by decide +kernel
theorem dX4_readNumber_45 : decode cX4_readNumber 45 = .ok (.iconst 0, 1) := by decide +kernel
theorem dX4_readNumber_46 : decode cX4_readNumber 46 = .ok (.ireturn, 1) := by decide +kernel
theorem dX4_readNumber_47 : decode cX4_readNumber 47 = .ok (.iconst 0, 1) := by decide +kernel
theorem dX4_readNumber_48 : decode cX4_readNumber 48 = .ok (.istore 5, 2) := by decide +kernel
theorem dX4_readNumber_50 : decode cX4_readNumber 50 = .ok (.iload 5, 2) := by decide +kernel
theorem dX4_readNumber_52 : decode cX4_readNumber 52 = .ok (.bipush 9, 2) := by decide +kernel
theorem dX4_readNumber_54 : decode cX4_readNumber 54 = .ok (.if_icmp .gt 51, 3) := by decide +kernel
theorem dX4_readNumber_57 : decode cX4_readNumber 57 = .ok (.bipush 10, 2) := by decide +kernel
theorem dX4_readNumber_59 : decode cX4_readNumber 59 = .ok (.iload 4, 2) := by decide +kernel
theorem dX4_readNumber_61 : decode cX4_readNumber 61 = .ok (.bipush 48, 2) := by decide +kernel
theorem dX4_readNumber_63 : decode cX4_readNumber 63 = .ok (.isub, 1) := by decide +kernel
theorem dX4_readNumber_64 : decode cX4_readNumber 64 = .ok (.imul, 1) := by decide +kernel
theorem dX4_readNumber_65 : decode cX4_readNumber 65 = .ok (.iload 5, 2) := by decide +kernel
theorem dX4_readNumber_67 : decode cX4_readNumber 67 = .ok (.iadd, 1) := by decide +kernel
theorem dX4_readNumber_68 : decode cX4_readNumber 68 = .ok (.istore 6, 2) := by decide +kernel
theorem dX4_readNumber_70 : decode cX4_readNumber 70 = .ok (.aload_n 1, 1) := by decide +kernel
theorem dX4_readNumber_71 : decode cX4_readNumber 71 = .ok (.iload 6, 2) := by decide +kernel
theorem dX4_readNumber_73 : decode cX4_readNumber 73 = .ok (.invokevirtual 75, 3) := by decide +kernel
theorem dX4_readNumber_76 : decode cX4_readNumber 76 = .ok (.ifCond .eq 23, 3) := by decide +kernel
theorem dX4_readNumber_79 : decode cX4_readNumber 79 = .ok (.aload_n 0, 1) := by decide +kernel
theorem dX4_readNumber_80 : decode cX4_readNumber 80 = .ok (.bipush 48, 2) := by decide +kernel
theorem dX4_readNumber_82 : decode cX4_readNumber 82 = .ok (.iload 5, 2) := by decide +kernel
theorem dX4_readNumber_84 : decode cX4_readNumber 84 = .ok (.iadd, 1) := by decide +kernel
theorem dX4_readNumber_85 : decode cX4_readNumber 85 = .ok (.bipush 48, 2) := by decide +kernel
theorem dX4_readNumber_87 : decode cX4_readNumber 87 = .ok (.iload 5, 2) := by decide +kernel
theorem dX4_readNumber_89 : decode cX4_readNumber 89 = .ok (.iadd, 1) := by decide +kernel
theorem dX4_readNumber_90 : decode cX4_readNumber 90 = .ok (.invokevirtual 34, 3) := by decide +kernel
theorem dX4_readNumber_93 : decode cX4_readNumber 93 = .ok (.ifCond .lt 6, 3) := by decide +kernel
theorem dX4_readNumber_96 : decode cX4_readNumber 96 = .ok (.iload 6, 2) := by decide +kernel
theorem dX4_readNumber_98 : decode cX4_readNumber 98 = .ok (.ireturn, 1) := by decide +kernel
theorem dX4_readNumber_99 : decode cX4_readNumber 99 = .ok (.iinc 5 1, 3) := by decide +kernel
theorem dX4_readNumber_102 : decode cX4_readNumber 102 = .ok (.goto (-52), 3) := by decide +kernel
theorem dX4_readNumber_105 : decode cX4_readNumber 105 = .ok (.iconst 0, 1) := by decide +kernel
theorem dX4_readNumber_106 : decode cX4_readNumber 106 = .ok (.ireturn, 1) := by decide +kernel
theorem dX4_lowNumberFree_0 : decode cX4_lowNumberFree 0 = .ok (.iconst 1, 1) := by decide +kernel
theorem dX4_lowNumberFree_1 : decode cX4_lowNumberFree 1 = .ok (.istore_n 1, 1) := by decide +kernel
theorem dX4_lowNumberFree_2 : decode cX4_lowNumberFree 2 = .ok (.iload_n 1, 1) := by decide +kernel
theorem dX4_lowNumberFree_3 : decode cX4_lowNumberFree 3 = .ok (.bipush 10, 2) := by decide +kernel
theorem dX4_lowNumberFree_5 : decode cX4_lowNumberFree 5 = .ok (.if_icmp .ge 19, 3) := by decide +kernel
theorem dX4_lowNumberFree_8 : decode cX4_lowNumberFree 8 = .ok (.aload_n 0, 1) := by decide +kernel
theorem dX4_lowNumberFree_9 : decode cX4_lowNumberFree 9 = .ok (.iload_n 1, 1) := by decide +kernel
theorem dX4_lowNumberFree_10 : decode cX4_lowNumberFree 10 = .ok (.invokevirtual 75, 3) := by decide +kernel
theorem dX4_lowNumberFree_13 : decode cX4_lowNumberFree 13 = .ok (.ifCond .eq 5, 3) := by decide +kernel
theorem dX4_lowNumberFree_16 : decode cX4_lowNumberFree 16 = .ok (.iconst 1, 1) := by decide +kernel
theorem dX4_lowNumberFree_17 : decode cX4_lowNumberFree 17 = .ok (.ireturn, 1) := by decide +kernel
theorem dX4_lowNumberFree_18 : decode cX4_lowNumberFree 18 = .ok (.iinc 1 1, 3) := by decide +kernel
theorem dX4_lowNumberFree_21 : decode cX4_lowNumberFree 21 = .ok (.goto (-19), 3) := by decide +kernel
theorem dX4_lowNumberFree_24 : decode cX4_lowNumberFree 24 = .ok (.iconst 0, 1) := by decide +kernel
theorem dX4_lowNumberFree_25 : decode cX4_lowNumberFree 25 = .ok (.ireturn, 1) := by decide +kernel
theorem dX4_accept_0 : decode cX4_accept 0 = .ok (.aload_n 0, 1) := by decide +kernel
theorem dX4_accept_1 : decode cX4_accept 1 = .ok (.getfield 19, 3) := by decide +kernel
theorem dX4_accept_4 : decode cX4_accept 4 = .ok (.ifCond .lt 23, 3) := by decide +kernel
theorem dX4_accept_7 : decode cX4_accept 7 = .ok (.aload_n 0, 1) := by decide +kernel
theorem dX4_accept_8 : decode cX4_accept 8 = .ok (.getfield 19, 3) := by decide +kernel
theorem dX4_accept_11 : decode cX4_accept 11 = .ok (.aload_n 0, 1) := by decide +kernel
theorem dX4_accept_12 : decode cX4_accept 12 = .ok (.getfield 15, 3) := by decide +kernel
theorem dX4_accept_15 : decode cX4_accept 15 = .ok (.if_icmp .ge 12, 3) := by decide +kernel
theorem dX4_accept_18 : decode cX4_accept 18 = .ok (.aload_n 0, 1) := by decide +kernel
theorem dX4_accept_19 : decode cX4_accept 19 = .ok (.getfield 19, 3) := by decide +kernel
theorem dX4_accept_22 : decode cX4_accept 22 = .ok (.bipush 60, 2) := by decide +kernel
theorem dX4_accept_24 : decode cX4_accept 24 = .ok (.if_icmp .lt 5, 3) := by decide +kernel
theorem dX4_accept_27 : decode cX4_accept 27 = .ok (.iconst (-1), 1) := by decide +kernel
theorem dX4_accept_28 : decode cX4_accept 28 = .ok (.ireturn, 1) := by decide +kernel
theorem dX4_accept_29 : decode cX4_accept 29 = .ok (.aload_n 0, 1) := by decide +kernel
theorem dX4_accept_30 : decode cX4_accept 30 = .ok (.getfield 11, 3) := by decide +kernel
theorem dX4_accept_33 : decode cX4_accept 33 = .ok (.aload_n 0, 1) := by decide +kernel
theorem dX4_accept_34 : decode cX4_accept 34 = .ok (.getfield 19, 3) := by decide +kernel
theorem dX4_accept_37 : decode cX4_accept 37 = .ok (.iaload, 1) := by decide +kernel
theorem dX4_accept_38 : decode cX4_accept 38 = .ok (.istore_n 3, 1) := by decide +kernel
theorem dX4_accept_39 : decode cX4_accept 39 = .ok (.iload_n 3, 1) := by decide +kernel
theorem dX4_accept_40 : decode cX4_accept 40 = .ok (.iload_n 1, 1) := by decide +kernel
theorem dX4_accept_41 : decode cX4_accept 41 = .ok (.if_icmp .lt 8, 3) := by decide +kernel
theorem dX4_accept_44 : decode cX4_accept 44 = .ok (.iload_n 3, 1) := by decide +kernel
theorem dX4_accept_45 : decode cX4_accept 45 = .ok (.iload_n 2, 1) := by decide +kernel
theorem dX4_accept_46 : decode cX4_accept 46 = .ok (.if_icmp .le 5, 3) := by decide +kernel
theorem dX4_accept_49 : decode cX4_accept 49 = .ok (.iconst (-1), 1) := by decide +kernel
theorem dX4_accept_50 : decode cX4_accept 50 = .ok (.ireturn, 1) := by decide +kernel
theorem dX4_accept_51 : decode cX4_accept 51 = .ok (.aload_n 0, 1) := by decide +kernel
theorem dX4_accept_52 : decode cX4_accept 52 = .ok (.dup, 1) := by decide +kernel
theorem dX4_accept_53 : decode cX4_accept 53 = .ok (.getfield 19, 3) := by decide +kernel
theorem dX4_accept_56 : decode cX4_accept 56 = .ok (.iconst 1, 1) := by decide +kernel
theorem dX4_accept_57 : decode cX4_accept 57 = .ok (.iadd, 1) := by decide +kernel
theorem dX4_accept_58 : decode cX4_accept 58 = .ok (.putfield 19, 3) := by decide +kernel
theorem dX4_accept_61 : decode cX4_accept 61 = .ok (.iload_n 3, 1) := by decide +kernel
theorem dX4_accept_62 : decode cX4_accept 62 = .ok (.ireturn, 1) := by decide +kernel
theorem dX5_init_0 : decode cX5_init 0 = .ok (.aload_n 0, 1) := by decide +kernel
theorem dX5_init_1 : decode cX5_init 1 = .ok (.invokespecial 3, 3) := by decide +kernel
theorem dX5_init_4 : decode cX5_init 4 = .ok (.aload_n 0, 1) := by decide +kernel
theorem dX5_init_5 : decode cX5_init 5 = .ok (.new 9, 3) := by decide +kernel
theorem dX5_init_8 : decode cX5_init 8 = .ok (.dup, 1) := by decide +kernel
theorem dX5_init_9 : decode cX5_init 9 = .ok (.invokespecial 11, 3) := by decide +kernel
theorem dX5_init_12 : decode cX5_init 12 = .ok (.putfield 12, 3) := by decide +kernel
theorem dX5_init_15 : decode cX5_init 15 = .ok (.aload_n 0, 1) := by decide +kernel
theorem dX5_init_16 : decode cX5_init 16 = .ok (.new 18, 3) := by decide +kernel
theorem dX5_init_19 : decode cX5_init 19 = .ok (.dup, 1) := by decide +kernel
theorem dX5_init_20 : decode cX5_init 20 = .ok (.invokespecial 20, 3) := by decide +kernel
theorem dX5_init_23 : decode cX5_init 23 = .ok (.putfield 21, 3) := by decide +kernel
theorem dX5_init_26 : decode cX5_init 26 = .ok (.aload_n 0, 1) := by decide +kernel
theorem dX5_init_27 : decode cX5_init 27 = .ok (.new 25, 3) := by decide +kernel
theorem dX5_init_30 : decode cX5_init 30 = .ok (.dup, 1) := by decide +kernel
theorem dX5_init_31 : decode cX5_init 31 = .ok (.invokespecial 27, 3) := by decide +kernel
theorem dX5_init_34 : decode cX5_init 34 = .ok (.putfield 28, 3) := by decide +kernel
theorem dX5_init_37 : decode cX5_init 37 = .ok (.aload_n 0, 1) := by decide +kernel
theorem dX5_init_38 : decode cX5_init 38 = .ok (.iconst 3, 1) := by decide +kernel
theorem dX5_init_39 : decode cX5_init 39 = .ok (.newarray .int, 2) := by decide +kernel
theorem dX5_init_41 : decode cX5_init 41 = .ok (.putfield 32, 3) := by decide +kernel
theorem dX5_init_44 : decode cX5_init 44 = .ok (.aload_n 0, 1) := by decide +kernel
theorem dX5_init_45 : decode cX5_init 45 = .ok (.iconst 3, 1) := by decide +kernel
theorem dX5_init_46 : decode cX5_init 46 = .ok (.newarray .int, 2) := by decide +kernel
theorem dX5_init_48 : decode cX5_init 48 = .ok (.putfield 36, 3) := by decide +kernel
theorem dX5_init_51 : decode cX5_init 51 = .ok (.aload_n 0, 1) := by decide +kernel
theorem dX5_init_52 : decode cX5_init 52 = .ok (.bipush 11, 2) := by decide +kernel
theorem dX5_init_54 : decode cX5_init 54 = .ok (.newarray .int, 2) := by decide +kernel
theorem dX5_init_56 : decode cX5_init 56 = .ok (.putfield 39, 3) := by decide +kernel
theorem dX5_init_59 : decode cX5_init 59 = .ok (.aload_n 0, 1) := by decide +kernel
theorem dX5_init_60 : decode cX5_init 60 = .ok (.bipush 16, 2) := by decide +kernel
theorem dX5_init_62 : decode cX5_init 62 = .ok (.newarray .int, 2) := by decide +kernel
theorem dX5_init_64 : decode cX5_init 64 = .ok (.putfield 42, 3) := by decide +kernel
theorem dX5_init_67 : decode cX5_init 67 = .ok (.return_, 1) := by decide +kernel
theorem dX5_begin_0 : decode cX5_begin 0 = .ok (.aload_n 0, 1) := by decide +kernel
theorem dX5_begin_1 : decode cX5_begin 1 = .ok (.getfield 28, 3) := by decide +kernel
theorem dX5_begin_4 : decode cX5_begin 4 = .ok (.aload_n 1, 1) := by decide +kernel
theorem dX5_begin_5 : decode cX5_begin 5 = .ok (.invokevirtual 45, 3) := by decide +kernel
theorem dX5_begin_8 : decode cX5_begin 8 = .ok (.aload_n 0, 1) := by decide +kernel
theorem dX5_begin_9 : decode cX5_begin 9 = .ok (.getfield 21, 3) := by decide +kernel
theorem dX5_begin_12 : decode cX5_begin 12 = .ok (.aload_n 0, 1) := by decide +kernel
theorem dX5_begin_13 : decode cX5_begin 13 = .ok (.getfield 28, 3) := by decide +kernel
theorem dX5_begin_16 : decode cX5_begin 16 = .ok (.invokevirtual 49, 3) := by decide +kernel
theorem dX5_begin_19 : decode cX5_begin 19 = .ok (.aload_n 0, 1) := by decide +kernel
theorem dX5_begin_20 : decode cX5_begin 20 = .ok (.getfield 32, 3) := by decide +kernel
theorem dX5_begin_23 : decode cX5_begin 23 = .ok (.iconst 0, 1) := by decide +kernel
theorem dX5_begin_24 : decode cX5_begin 24 = .ok (.invokestatic 52, 3) := by decide +kernel
theorem dX5_begin_27 : decode cX5_begin 27 = .ok (.return_, 1) := by decide +kernel
theorem dX5_survey_0 : decode cX5_survey 0 = .ok (.aload_n 0, 1) := by decide +kernel
theorem dX5_survey_1 : decode cX5_survey 1 = .ok (.aload_n 1, 1) := by decide +kernel
theorem dX5_survey_2 : decode cX5_survey 2 = .ok (.invokevirtual 58, 3) := by decide +kernel
theorem dX5_survey_5 : decode cX5_survey 5 = .ok (.aload_n 0, 1) := by decide +kernel
theorem dX5_survey_6 : decode cX5_survey 6 = .ok (.getfield 39, 3) := by decide +kernel
theorem dX5_survey_9 : decode cX5_survey 9 = .ok (.iconst 0, 1) := by decide +kernel
theorem dX5_survey_10 : decode cX5_survey 10 = .ok (.invokestatic 52, 3) := by decide +kernel
theorem dX5_survey_13 : decode cX5_survey 13 = .ok (.aload_n 0, 1) := by decide +kernel
theorem dX5_survey_14 : decode cX5_survey 14 = .ok (.iload_n 2, 1) := by decide +kernel
theorem dX5_survey_15 : decode cX5_survey 15 = .ok (.putfield 61, 3) := by decide +kernel
theorem dX5_survey_18 : decode cX5_survey 18 = .ok (.aload_n 0, 1) := by decide +kernel
theorem dX5_survey_19 : decode cX5_survey 19 = .ok (.iconst 0, 1) := by decide +kernel
theorem dX5_survey_20 : decode cX5_survey 20 = .ok (.putfield 65, 3) := by decide +kernel
theorem dX5_survey_23 : decode cX5_survey 23 = .ok (.aload_n 0, 1) := by decide +kernel
theorem dX5_survey_24 : decode cX5_survey 24 = .ok (.bipush (-9), 2) := by decide +kernel
theorem dX5_survey_26 : decode cX5_survey 26 = .ok (.putfield 68, 3) := by decide +kernel
theorem dX5_survey_29 : decode cX5_survey 29 = .ok (.aload_n 0, 1) := by decide +kernel
theorem dX5_survey_30 : decode cX5_survey 30 = .ok (.iconst 0, 1) := by decide +kernel
theorem dX5_survey_31 : decode cX5_survey 31 = .ok (.putfield 71, 3) := by decide +kernel
theorem dX5_survey_34 : decode cX5_survey 34 = .ok (.aload_n 0, 1) := by decide +kernel
theorem dX5_survey_35 : decode cX5_survey 35 = .ok (.iconst 0, 1) := by decide +kernel
theorem dX5_survey_36 : decode cX5_survey 36 = .ok (.putfield 74, 3) := by decide +kernel
theorem dX5_survey_39 : decode cX5_survey 39 = .ok (.aload_n 0, 1) := by decide +kernel
theorem dX5_survey_40 : decode cX5_survey 40 = .ok (.iconst 0, 1) := by decide +kernel
theorem dX5_survey_41 : decode cX5_survey 41 = .ok (.putfield 77, 3) := by decide +kernel
theorem dX5_survey_44 : decode cX5_survey 44 = .ok (.aload_n 0, 1) := by decide +kernel
theorem dX5_survey_45 : decode cX5_survey 45 = .ok (.bipush (-9), 2) := by decide +kernel
theorem dX5_survey_47 : decode cX5_survey 47 = .ok (.putfield 80, 3) := by decide +kernel
theorem dX5_survey_50 : decode cX5_survey 50 = .ok (.aload_n 0, 1) := by decide +kernel
theorem dX5_survey_51 : decode cX5_survey 51 = .ok (.iconst 1, 1) := by decide +kernel
theorem dX5_survey_52 : decode cX5_survey 52 = .ok (.invokestatic 83, 3) := by decide +kernel
theorem dX5_survey_55 : decode cX5_survey 55 = .ok (.return_, 1) := by decide +kernel
theorem dX5_extend_0 : decode cX5_extend 0 = .ok (.aload_n 0, 1) := by decide +kernel
theorem dX5_extend_1 : decode cX5_extend 1 = .ok (.aload_n 0, 1) := by decide +kernel
theorem dX5_extend_2 : decode cX5_extend 2 = .ok (.getfield 74, 3) := by decide +kernel
theorem dX5_extend_5 : decode cX5_extend 5 = .ok (.iload_n 1, 1) := by decide +kernel
theorem dX5_extend_6 : decode cX5_extend 6 = .ok (.iconst 1, 1) := by decide +kernel
theorem dX5_extend_7 : decode cX5_extend 7 = .ok (.isub, 1) := by decide +kernel
theorem dX5_extend_8 : decode cX5_extend 8 = .ok (.invokestatic 87, 3) := by decide +kernel
theorem dX5_extend_11 : decode cX5_extend 11 = .ok (.putfield 74, 3) := by decide +kernel
theorem dX5_extend_14 : decode cX5_extend 14 = .ok (.aload_n 0, 1) := by decide +kernel
theorem dX5_extend_15 : decode cX5_extend 15 = .ok (.getfield 28, 3) := by decide +kernel
theorem dX5_extend_18 : decode cX5_extend 18 = .ok (.iload_n 1, 1) := by decide +kernel
theorem dX5_extend_19 : decode cX5_extend 19 = .ok (.invokevirtual 93, 3) := by decide +kernel
theorem dX5_extend_22 : decode cX5_extend 22 = .ok (.ifCond .ne 8, 3) := by decide +kernel
theorem dX5_extend_25 : decode cX5_extend 25 = .ok (.aload_n 0, 1) := by decide +kernel
theorem dX5_extend_26 : decode cX5_extend 26 = .ok (.invokevirtual 97, 3) := by decide +kernel
theorem dX5_extend_29 : decode cX5_extend 29 = .ok (.return_, 1) := by decide +kernel
theorem dX5_extend_30 : decode cX5_extend 30 = .ok (.iconst 1, 1) := by decide +kernel
theorem dX5_extend_31 : decode cX5_extend 31 = .ok (.istore_n 2, 1) := by decide +kernel
theorem dX5_extend_32 : decode cX5_extend 32 = .ok (.iconst 0, 1) := by decide +kernel
theorem dX5_extend_33 : decode cX5_extend 33 = .ok (.istore_n 3, 1) := by decide +kernel
theorem dX5_extend_34 : decode cX5_extend 34 = .ok (.iload_n 3, 1) := by decide +kernel
theorem dX5_extend_35 : decode cX5_extend 35 = .ok (.iconst 3, 1) := by decide +kernel
theorem dX5_extend_36 : decode cX5_extend 36 = .ok (.if_icmp .ge 59, 3) := by decide +kernel
theorem dX5_extend_39 : decode cX5_extend 39 = .ok (.aload_n 0, 1) := by decide +kernel
theorem dX5_extend_40 : decode cX5_extend 40 = .ok (.iload_n 1, 1) := by decide +kernel
theorem dX5_extend_41 : decode cX5_extend 41 = .ok (.iload_n 3, 1) := by decide +kernel
theorem dX5_extend_42 : decode cX5_extend 42 = .ok (.invokevirtual 100, 3) := by decide +kernel
theorem dX5_extend_45 : decode cX5_extend 45 = .ok (.ifCond .eq 44, 3) := by decide +kernel
theorem dX5_extend_48 : decode cX5_extend 48 = .ok (.aload_n 0, 1) := by decide +kernel
theorem dX5_extend_49 : decode cX5_extend 49 = .ok (.getfield 65, 3) := by decide +kernel
theorem dX5_extend_52 : decode cX5_extend 52 = .ok (.istore 4, 2) := by decide +kernel
theorem dX5_extend_54 : decode cX5_extend 54 = .ok (.aload_n 0, 1) := by decide +kernel
theorem dX5_extend_55 : decode cX5_extend 55 = .ok (.iload_n 1, 1) := by decide +kernel
theorem dX5_extend_56 : decode cX5_extend 56 = .ok (.iconst 1, 1) := by decide +kernel
theorem dX5_extend_57 : decode cX5_extend 57 = .ok (.iadd, 1) := by decide +kernel
theorem dX5_extend_58 : decode cX5_extend 58 = .ok (.invokestatic 83, 3) := by decide +kernel
theorem dX5_extend_61 : decode cX5_extend 61 = .ok (.aload_n 0, 1) := by decide +kernel
theorem dX5_extend_62 : decode cX5_extend 62 = .ok (.iload_n 1, 1) := by decide +kernel
theorem dX5_extend_63 : decode cX5_extend 63 = .ok (.iload_n 3, 1) := by decide +kernel
theorem dX5_extend_64 : decode cX5_extend 64 = .ok (.invokevirtual 104, 3) := by decide +kernel
theorem dX5_extend_67 : decode cX5_extend 67 = .ok (.aload_n 0, 1) := by decide +kernel
theorem dX5_extend_68 : decode cX5_extend 68 = .ok (.iload_n 1, 1) := by decide +kernel
theorem dX5_extend_69 : decode cX5_extend 69 = .ok (.iload_n 3, 1) := by decide +kernel
theorem dX5_extend_70 : decode cX5_extend 70 = .ok (.aload_n 0, 1) := by decide +kernel
theorem dX5_extend_71 : decode cX5_extend 71 = .ok (.getfield 65, 3) := by decide +kernel
theorem dX5_extend_74 : decode cX5_extend 74 = .ok (.iload 4, 2) := by decide +kernel
theorem dX5_extend_76 : decode cX5_extend 76 = .ok (.if_icmp .le 7, 3) := by decide +kernel
theorem dX5_extend_79 : decode cX5_extend 79 = .ok (.iconst 1, 1) := by decide +kernel
theorem dX5_extend_80 : decode cX5_extend 80 = .ok (.goto 4, 3) := by decide +kernel
theorem dX5_extend_83 : decode cX5_extend 83 = .ok (.iconst 0, 1) := by decide +kernel
theorem dX5_extend_84 : decode cX5_extend 84 = .ok (.invokevirtual 108, 3) := by decide +kernel
theorem dX5_extend_87 : decode cX5_extend 87 = .ok (.iconst 0, 1) := by decide +kernel
theorem dX5_extend_88 : decode cX5_extend 88 = .ok (.istore_n 2, 1) := by decide +kernel
theorem dX5_extend_89 : decode cX5_extend 89 = .ok (.iinc 3 1, 3) := by decide +kernel
theorem dX5_extend_92 : decode cX5_extend 92 = .ok (.goto (-58), 3) := by decide +kernel
theorem dX5_extend_95 : decode cX5_extend 95 = .ok (.iload_n 2, 1) := by decide +kernel
theorem dX5_extend_96 : decode cX5_extend 96 = .ok (.ifCond .eq 13, 3) := by decide +kernel
theorem dX5_extend_99 : decode cX5_extend 99 = .ok (.aload_n 0, 1) := by decide +kernel
theorem dX5_extend_100 : decode cX5_extend 100 = .ok (.dup, 1) := by decide +kernel
theorem dX5_extend_101 : decode cX5_extend 101 = .ok (.getfield 71, 3) := by decide +kernel
theorem dX5_extend_104 : decode cX5_extend 104 = .ok (.iconst 1, 1) := by decide +kernel
theorem dX5_extend_105 : decode cX5_extend 105 = .ok (.iadd, 1) := by decide +kernel
theorem dX5_extend_106 : decode cX5_extend 106 = .ok (.putfield 71, 3) := by decide +kernel
theorem dX5_extend_109 : decode cX5_extend 109 = .ok (.return_, 1) := by decide +kernel
theorem dX5_arrive_0 : decode cX5_arrive 0 = .ok (.aload_n 0, 1) := by decide +kernel
theorem dX5_arrive_1 : decode cX5_arrive 1 = .ok (.getfield 65, 3) := by decide +kernel
theorem dX5_arrive_4 : decode cX5_arrive 4 = .ok (.aload_n 0, 1) := by decide +kernel
theorem dX5_arrive_5 : decode cX5_arrive 5 = .ok (.getfield 61, 3) := by decide +kernel
theorem dX5_arrive_8 : decode cX5_arrive 8 = .ok (.if_icmp .ne 17, 3) := by decide +kernel
theorem dX5_arrive_11 : decode cX5_arrive 11 = .ok (.aload_n 0, 1) := by decide +kernel
theorem dX5_arrive_12 : decode cX5_arrive 12 = .ok (.getfield 32, 3) := by decide +kernel
theorem dX5_arrive_15 : decode cX5_arrive 15 = .ok (.iconst 0, 1) := by decide +kernel
theorem dX5_arrive_16 : decode cX5_arrive 16 = .ok (.aload_n 0, 1) := by decide +kernel
theorem dX5_arrive_17 : decode cX5_arrive 17 = .ok (.getfield 36, 3) := by decide +kernel
theorem dX5_arrive_20 : decode cX5_arrive 20 = .ok (.iconst 0, 1) := by decide +kernel
theorem dX5_arrive_21 : decode cX5_arrive 21 = .ok (.iconst 3, 1) := by decide +kernel
theorem dX5_arrive_22 : decode cX5_arrive 22 = .ok (.invokestatic 112, 3) := by decide +kernel
theorem dX5_arrive_25 : decode cX5_arrive 25 = .ok (.aload_n 0, 1) := by decide +kernel
theorem dX5_arrive_26 : decode cX5_arrive 26 = .ok (.getfield 28, 3) := by decide +kernel
theorem dX5_arrive_29 : decode cX5_arrive 29 = .ok (.getfield 118, 3) := by decide +kernel
theorem dX5_arrive_32 : decode cX5_arrive 32 = .ok (.ifCond .eq 25, 3) := by decide +kernel
theorem dX5_arrive_35 : decode cX5_arrive 35 = .ok (.aload_n 0, 1) := by decide +kernel
theorem dX5_arrive_36 : decode cX5_arrive 36 = .ok (.getfield 28, 3) := by decide +kernel
theorem dX5_arrive_39 : decode cX5_arrive 39 = .ok (.aload_n 0, 1) := by decide +kernel
theorem dX5_arrive_40 : decode cX5_arrive 40 = .ok (.getfield 32, 3) := by decide +kernel
theorem dX5_arrive_43 : decode cX5_arrive 43 = .ok (.invokevirtual 122, 3) := by decide +kernel
theorem dX5_arrive_46 : decode cX5_arrive 46 = .ok (.ifCond .eq 11, 3) := by decide +kernel
theorem dX5_arrive_49 : decode cX5_arrive 49 = .ok (.aload_n 0, 1) := by decide +kernel
theorem dX5_arrive_50 : decode cX5_arrive 50 = .ok (.aload_n 0, 1) := by decide +kernel
theorem dX5_arrive_51 : decode cX5_arrive 51 = .ok (.getfield 65, 3) := by decide +kernel
theorem dX5_arrive_54 : decode cX5_arrive 54 = .ok (.putfield 68, 3) := by decide +kernel
theorem dX5_arrive_57 : decode cX5_arrive 57 = .ok (.aload_n 0, 1) := by decide +kernel
theorem dX5_arrive_58 : decode cX5_arrive 58 = .ok (.getfield 12, 3) := by decide +kernel
theorem dX5_arrive_61 : decode cX5_arrive 61 = .ok (.aload_n 0, 1) := by decide +kernel
theorem dX5_arrive_62 : decode cX5_arrive 62 = .ok (.getfield 32, 3) := by decide +kernel
theorem dX5_arrive_65 : decode cX5_arrive 65 = .ok (.aload_n 0, 1) := by decide +kernel
theorem dX5_arrive_66 : decode cX5_arrive 66 = .ok (.getfield 28, 3) := by decide +kernel
theorem dX5_arrive_69 : decode cX5_arrive 69 = .ok (.getfield 126, 3) := by decide +kernel
theorem dX5_arrive_72 : decode cX5_arrive 72 = .ok (.invokevirtual 129, 3) := by decide +kernel
theorem dX5_arrive_75 : decode cX5_arrive 75 = .ok (.ifCond .eq 35, 3) := by decide +kernel
theorem dX5_arrive_78 : decode cX5_arrive 78 = .ok (.aload_n 0, 1) := by decide +kernel
theorem dX5_arrive_79 : decode cX5_arrive 79 = .ok (.aload_n 0, 1) := by decide +kernel
theorem dX5_arrive_80 : decode cX5_arrive 80 = .ok (.getfield 77, 3) := by decide +kernel
theorem dX5_arrive_83 : decode cX5_arrive 83 = .ok (.ifCond .ne 10, 3) := by decide +kernel
theorem dX5_arrive_86 : decode cX5_arrive 86 = .ok (.aload_n 0, 1) := by decide +kernel
theorem dX5_arrive_87 : decode cX5_arrive 87 = .ok (.getfield 65, 3) := by decide +kernel
theorem dX5_arrive_90 : decode cX5_arrive 90 = .ok (.goto 7, 3) := by decide +kernel
theorem dX5_arrive_93 : decode cX5_arrive 93 = .ok (.aload_n 0, 1) := by decide +kernel
theorem dX5_arrive_94 : decode cX5_arrive 94 = .ok (.getfield 80, 3) := by decide +kernel
theorem dX5_arrive_97 : decode cX5_arrive 97 = .ok (.putfield 80, 3) := by decide +kernel
theorem dX5_arrive_100 : decode cX5_arrive 100 = .ok (.aload_n 0, 1) := by decide +kernel
theorem dX5_arrive_101 : decode cX5_arrive 101 = .ok (.dup, 1) := by decide +kernel
theorem dX5_arrive_102 : decode cX5_arrive 102 = .ok (.getfield 77, 3) := by decide +kernel
theorem dX5_arrive_105 : decode cX5_arrive 105 = .ok (.iconst 1, 1) := by decide +kernel
theorem dX5_arrive_106 : decode cX5_arrive 106 = .ok (.iadd, 1) := by decide +kernel
theorem dX5_arrive_107 : decode cX5_arrive 107 = .ok (.putfield 77, 3) := by decide +kernel
theorem dX5_arrive_110 : decode cX5_arrive 110 = .ok (.aload_n 0, 1) := by decide +kernel
theorem dX5_arrive_111 : decode cX5_arrive 111 = .ok (.dup, 1) := by decide +kernel
theorem dX5_arrive_112 : decode cX5_arrive 112 = .ok (.getfield 65, 3) := by decide +kernel
theorem dX5_arrive_115 : decode cX5_arrive 115 = .ok (.iconst 1, 1) := by decide +kernel
theorem dX5_arrive_116 : decode cX5_arrive 116 = .ok (.iadd, 1) := by decide +kernel
theorem dX5_arrive_117 : decode cX5_arrive 117 = .ok (.putfield 65, 3) := by decide +kernel
theorem dX5_arrive_120 : decode cX5_arrive 120 = .ok (.return_, 1) := by decide +kernel
theorem dX5_put_0 : decode cX5_put 0 = .ok (.aload_n 0, 1) := by decide +kernel
theorem dX5_put_1 : decode cX5_put 1 = .ok (.getfield 28, 3) := by decide +kernel
theorem dX5_put_4 : decode cX5_put 4 = .ok (.iload_n 1, 1) := by decide +kernel
theorem dX5_put_5 : decode cX5_put 5 = .ok (.iload_n 2, 1) := by decide +kernel
theorem dX5_put_6 : decode cX5_put 6 = .ok (.invokevirtual 133, 3) := by decide +kernel
theorem dX5_put_9 : decode cX5_put 9 = .ok (.ifCond .eq 12, 3) := by decide +kernel
theorem dX5_put_12 : decode cX5_put 12 = .ok (.iload_n 2, 1) := by decide +kernel
theorem dX5_put_13 : decode cX5_put 13 = .ok (.ifCond .lt 8, 3) := by decide +kernel
theorem dX5_put_16 : decode cX5_put 16 = .ok (.iload_n 2, 1) := by decide +kernel
theorem dX5_put_17 : decode cX5_put 17 = .ok (.iconst 3, 1) := by decide +kernel
theorem dX5_put_18 : decode cX5_put 18 = .ok (.if_icmp .lt 5, 3) := by decide +kernel
theorem dX5_put_21 : decode cX5_put 21 = .ok (.iconst 0, 1) := by decide +kernel
theorem dX5_put_22 : decode cX5_put 22 = .ok (.ireturn, 1) := by decide +kernel
theorem dX5_put_23 : decode cX5_put 23 = .ok (.aload_n 0, 1) := by decide +kernel
theorem dX5_put_24 : decode cX5_put 24 = .ok (.getfield 32, 3) := by decide +kernel
theorem dX5_put_27 : decode cX5_put 27 = .ok (.iload_n 2, 1) := by decide +kernel
theorem dX5_put_28 : decode cX5_put 28 = .ok (.iaload, 1) := by decide +kernel
theorem dX5_put_29 : decode cX5_put 29 = .ok (.iconst 1, 1) := by decide +kernel
theorem dX5_put_30 : decode cX5_put 30 = .ok (.iload_n 1, 1) := by decide +kernel
theorem dX5_put_31 : decode cX5_put 31 = .ok (.ishl, 1) := by decide +kernel
theorem dX5_put_32 : decode cX5_put 32 = .ok (.ior, 1) := by decide +kernel
theorem dX5_put_33 : decode cX5_put 33 = .ok (.istore_n 3, 1) := by decide +kernel
theorem dX5_put_34 : decode cX5_put 34 = .ok (.aload_n 0, 1) := by decide +kernel
theorem dX5_put_35 : decode cX5_put 35 = .ok (.getfield 21, 3) := by decide +kernel
theorem dX5_put_38 : decode cX5_put 38 = .ok (.iload_n 3, 1) := by decide +kernel
theorem dX5_put_39 : decode cX5_put 39 = .ok (.invokevirtual 136, 3) := by decide +kernel
theorem dX5_put_42 : decode cX5_put 42 = .ok (.ifCond .eq 5, 3) := by decide +kernel
theorem dX5_put_45 : decode cX5_put 45 = .ok (.iconst 0, 1) := by decide +kernel
theorem dX5_put_46 : decode cX5_put 46 = .ok (.ireturn, 1) := by decide +kernel
theorem dX5_put_47 : decode cX5_put 47 = .ok (.aload_n 0, 1) := by decide +kernel
theorem dX5_put_48 : decode cX5_put 48 = .ok (.getfield 32, 3) := by decide +kernel
theorem dX5_put_51 : decode cX5_put 51 = .ok (.iload_n 2, 1) := by decide +kernel
theorem dX5_put_52 : decode cX5_put 52 = .ok (.iload_n 3, 1) := by decide +kernel
theorem dX5_put_53 : decode cX5_put 53 = .ok (.iastore, 1) := by decide +kernel
theorem dX5_put_54 : decode cX5_put 54 = .ok (.iconst 1, 1) := by decide +kernel
theorem dX5_put_55 : decode cX5_put 55 = .ok (.ireturn, 1) := by decide +kernel
theorem dX5_with_0 : decode cX5_with 0 = .ok (.iload_n 2, 1) := by decide +kernel
theorem dX5_with_1 : decode cX5_with 1 = .ok (.ifCond .lt 21, 3) := by decide +kernel
theorem dX5_with_4 : decode cX5_with 4 = .ok (.iload_n 2, 1) := by decide +kernel
theorem dX5_with_5 : decode cX5_with 5 = .ok (.iconst 3, 1) := by decide +kernel
theorem dX5_with_6 : decode cX5_with 6 = .ok (.if_icmp .ge 16, 3) := by decide +kernel
theorem dX5_with_9 : decode cX5_with 9 = .ok (.aload_n 0, 1) := by decide +kernel
theorem dX5_with_10 : decode cX5_with 10 = .ok (.getfield 32, 3) := by decide +kernel
theorem dX5_with_13 : decode cX5_with 13 = .ok (.iload_n 2, 1) := by decide +kernel
theorem dX5_with_14 : decode cX5_with 14 = .ok (.iaload, 1) := by decide +kernel
theorem dX5_with_15 : decode cX5_with 15 = .ok (.iconst 1, 1) := by decide +kernel
theorem dX5_with_16 : decode cX5_with 16 = .ok (.iload_n 1, 1) := by decide +kernel
theorem dX5_with_17 : decode cX5_with 17 = .ok (.ishl, 1) := by decide +kernel
theorem dX5_with_18 : decode cX5_with 18 = .ok (.ior, 1) := by decide +kernel
theorem dX5_with_19 : decode cX5_with 19 = .ok (.goto 4, 3) := by decide +kernel
theorem dX5_with_22 : decode cX5_with 22 = .ok (.iconst 0, 1) := by decide +kernel
theorem dX5_with_23 : decode cX5_with 23 = .ok (.ireturn, 1) := by decide +kernel
theorem dX5_lay_0 : decode cX5_lay 0 = .ok (.iload_n 2, 1) := by decide +kernel
theorem dX5_lay_1 : decode cX5_lay 1 = .ok (.ifCond .lt 20, 3) := by decide +kernel
theorem dX5_lay_4 : decode cX5_lay 4 = .ok (.iload_n 2, 1) := by decide +kernel
theorem dX5_lay_5 : decode cX5_lay 5 = .ok (.iconst 3, 1) := by decide +kernel
theorem dX5_lay_6 : decode cX5_lay 6 = .ok (.if_icmp .ge 15, 3) := by decide +kernel
theorem dX5_lay_9 : decode cX5_lay 9 = .ok (.aload_n 0, 1) := by decide +kernel
theorem dX5_lay_10 : decode cX5_lay 10 = .ok (.getfield 32, 3) := by decide +kernel
theorem dX5_lay_13 : decode cX5_lay 13 = .ok (.iload_n 2, 1) := by decide +kernel
theorem dX5_lay_14 : decode cX5_lay 14 = .ok (.dup2, 1) := by decide +kernel
theorem dX5_lay_15 : decode cX5_lay 15 = .ok (.iaload, 1) := by decide +kernel
theorem dX5_lay_16 : decode cX5_lay 16 = .ok (.iconst 1, 1) := by decide +kernel
theorem dX5_lay_17 : decode cX5_lay 17 = .ok (.iload_n 1, 1) := by decide +kernel
theorem dX5_lay_18 : decode cX5_lay 18 = .ok (.ishl, 1) := by decide +kernel
theorem dX5_lay_19 : decode cX5_lay 19 = .ok (.ior, 1) := by decide +kernel
theorem dX5_lay_20 : decode cX5_lay 20 = .ok (.iastore, 1) := by decide +kernel
theorem dX5_lay_21 : decode cX5_lay 21 = .ok (.return_, 1) := by decide +kernel
theorem dX5_lift_0 : decode cX5_lift 0 = .ok (.iload_n 2, 1) := by decide +kernel
theorem dX5_lift_1 : decode cX5_lift 1 = .ok (.ifCond .lt 22, 3) := by decide +kernel
theorem dX5_lift_4 : decode cX5_lift 4 = .ok (.iload_n 2, 1) := by decide +kernel
theorem dX5_lift_5 : decode cX5_lift 5 = .ok (.iconst 3, 1) := by decide +kernel
theorem dX5_lift_6 : decode cX5_lift 6 = .ok (.if_icmp .ge 17, 3) := by decide +kernel
theorem dX5_lift_9 : decode cX5_lift 9 = .ok (.aload_n 0, 1) := by decide +kernel
theorem dX5_lift_10 : decode cX5_lift 10 = .ok (.getfield 32, 3) := by decide +kernel
theorem dX5_lift_13 : decode cX5_lift 13 = .ok (.iload_n 2, 1) := by decide +kernel
theorem dX5_lift_14 : decode cX5_lift 14 = .ok (.dup2, 1) := by decide +kernel
theorem dX5_lift_15 : decode cX5_lift 15 = .ok (.iaload, 1) := by decide +kernel
theorem dX5_lift_16 : decode cX5_lift 16 = .ok (.iconst 1, 1) := by decide +kernel
theorem dX5_lift_17 : decode cX5_lift 17 = .ok (.iload_n 1, 1) := by decide +kernel
theorem dX5_lift_18 : decode cX5_lift 18 = .ok (.ishl, 1) := by decide +kernel
theorem dX5_lift_19 : decode cX5_lift 19 = .ok (.iconst (-1), 1) := by decide +kernel
theorem dX5_lift_20 : decode cX5_lift 20 = .ok (.ixor, 1) := by decide +kernel
theorem dX5_lift_21 : decode cX5_lift 21 = .ok (.iand, 1) := by decide +kernel
theorem dX5_lift_22 : decode cX5_lift 22 = .ok (.iastore, 1) := by decide +kernel
theorem dX5_lift_23 : decode cX5_lift 23 = .ok (.return_, 1) := by decide +kernel
theorem dX5_allow_0 : decode cX5_allow 0 = .ok (.iload_n 3, 1) := by decide +kernel
theorem dX5_allow_1 : decode cX5_allow 1 = .ok (.ifCond .eq 26, 3) := by decide +kernel
theorem dX5_allow_4 : decode cX5_allow 4 = .ok (.iload_n 1, 1) := by decide +kernel
theorem dX5_allow_5 : decode cX5_allow 5 = .ok (.iconst 1, 1) := by decide +kernel
theorem dX5_allow_6 : decode cX5_allow 6 = .ok (.if_icmp .lt 21, 3) := by decide +kernel
theorem dX5_allow_9 : decode cX5_allow 9 = .ok (.iload_n 1, 1) := by decide +kernel
theorem dX5_allow_10 : decode cX5_allow 10 = .ok (.bipush 10, 2) := by decide +kernel
theorem dX5_allow_12 : decode cX5_allow 12 = .ok (.if_icmp .gt 15, 3) := by decide +kernel
theorem dX5_allow_15 : decode cX5_allow 15 = .ok (.aload_n 0, 1) := by decide +kernel
theorem dX5_allow_16 : decode cX5_allow 16 = .ok (.getfield 39, 3) := by decide +kernel
theorem dX5_allow_19 : decode cX5_allow 19 = .ok (.iload_n 1, 1) := by decide +kernel
theorem dX5_allow_20 : decode cX5_allow 20 = .ok (.dup2, 1) := by decide +kernel
theorem dX5_allow_21 : decode cX5_allow 21 = .ok (.iaload, 1) := by decide +kernel
theorem dX5_allow_22 : decode cX5_allow 22 = .ok (.iconst 1, 1) := by decide +kernel
theorem dX5_allow_23 : decode cX5_allow 23 = .ok (.iload_n 2, 1) := by decide +kernel
theorem dX5_allow_24 : decode cX5_allow 24 = .ok (.ishl, 1) := by decide +kernel
theorem dX5_allow_25 : decode cX5_allow 25 = .ok (.ior, 1) := by decide +kernel
theorem dX5_allow_26 : decode cX5_allow 26 = .ok (.iastore, 1) := by decide +kernel
theorem dX5_allow_27 : decode cX5_allow 27 = .ok (.return_, 1) := by decide +kernel
theorem dX5_possibleOf_0 : decode cX5_possibleOf 0 = .ok (.iload_n 1, 1) := by decide +kernel
theorem dX5_possibleOf_1 : decode cX5_possibleOf 1 = .ok (.iconst 1, 1) := by decide +kernel
theorem dX5_possibleOf_2 : decode cX5_possibleOf 2 = .ok (.if_icmp .lt 18, 3) := by decide +kernel
theorem dX5_possibleOf_5 : decode cX5_possibleOf 5 = .ok (.iload_n 1, 1) := by decide +kernel
theorem dX5_possibleOf_6 : decode cX5_possibleOf 6 = .ok (.bipush 10, 2) := by decide +kernel
theorem dX5_possibleOf_8 : decode cX5_possibleOf 8 = .ok (.if_icmp .gt 12, 3) := by decide +kernel
theorem dX5_possibleOf_11 : decode cX5_possibleOf 11 = .ok (.aload_n 0, 1) := by decide +kernel
theorem dX5_possibleOf_12 : decode cX5_possibleOf 12 = .ok (.getfield 39, 3) := by decide +kernel
theorem dX5_possibleOf_15 : decode cX5_possibleOf 15 = .ok (.iload_n 1, 1) := by decide +kernel
theorem dX5_possibleOf_16 : decode cX5_possibleOf 16 = .ok (.iaload, 1) := by decide +kernel
theorem dX5_possibleOf_17 : decode cX5_possibleOf 17 = .ok (.goto 4, 3) := by decide +kernel
theorem dX5_possibleOf_20 : decode cX5_possibleOf 20 = .ok (.iconst 0, 1) := by decide +kernel
theorem dX5_possibleOf_21 : decode cX5_possibleOf 21 = .ok (.ireturn, 1) := by decide +kernel
theorem dX5_forces_0 : decode cX5_forces 0 = .ok (.aload_n 0, 1) := by decide +kernel
theorem dX5_forces_1 : decode cX5_forces 1 = .ok (.iload_n 1, 1) := by decide +kernel
theorem dX5_forces_2 : decode cX5_forces 2 = .ok (.invokevirtual 140, 3) := by decide +kernel
theorem dX5_forces_5 : decode cX5_forces 5 = .ok (.invokestatic 143, 3) := by decide +kernel
theorem dX5_forces_8 : decode cX5_forces 8 = .ok (.iconst 1, 1) := by decide +kernel
theorem dX5_forces_9 : decode cX5_forces 9 = .ok (.if_icmp .ne 7, 3) := by decide +kernel
theorem dX5_forces_12 : decode cX5_forces 12 = .ok (.iconst 1, 1) := by decide +kernel
theorem dX5_forces_13 : decode cX5_forces 13 = .ok (.goto 4, 3) := by decide +kernel
theorem dX5_forces_16 : decode cX5_forces 16 = .ok (.iconst 0, 1) := by decide +kernel
theorem dX5_forces_17 : decode cX5_forces 17 = .ok (.ireturn, 1) := by decide +kernel
theorem dX5_countKinds_0 : decode cX5_countKinds 0 = .ok (.aload_n 0, 1) := by decide +kernel
theorem dX5_countKinds_1 : decode cX5_countKinds 1 = .ok (.aload_n 1, 1) := by decide +kernel
theorem dX5_countKinds_2 : decode cX5_countKinds 2 = .ok (.invokevirtual 58, 3) := by decide +kernel
theorem dX5_countKinds_5 : decode cX5_countKinds 5 = .ok (.aload_n 0, 1) := by decide +kernel
theorem dX5_countKinds_6 : decode cX5_countKinds 6 = .ok (.iconst 0, 1) := by decide +kernel
theorem dX5_countKinds_7 : decode cX5_countKinds 7 = .ok (.putfield 148, 3) := by decide +kernel
theorem dX5_countKinds_10 : decode cX5_countKinds 10 = .ok (.aload_n 0, 1) := by decide +kernel
theorem dX5_countKinds_11 : decode cX5_countKinds 11 = .ok (.iconst 1, 1) := by decide +kernel
theorem dX5_countKinds_12 : decode cX5_countKinds 12 = .ok (.iconst 0, 1) := by decide +kernel
theorem dX5_countKinds_13 : decode cX5_countKinds 13 = .ok (.aload_n 0, 1) := by decide +kernel
theorem dX5_countKinds_14 : decode cX5_countKinds 14 = .ok (.getfield 28, 3) := by decide +kernel
theorem dX5_countKinds_17 : decode cX5_countKinds 17 = .ok (.getfield 151, 3) := by decide +kernel
theorem dX5_countKinds_20 : decode cX5_countKinds 20 = .ok (.iconst 2, 1) := by decide +kernel
theorem dX5_countKinds_21 : decode cX5_countKinds 21 = .ok (.if_icmp .ne 7, 3) := by decide +kernel
theorem dX5_countKinds_24 : decode cX5_countKinds 24 = .ok (.iconst 5, 1) := by decide +kernel
theorem dX5_countKinds_25 : decode cX5_countKinds 25 = .ok (.goto 5, 3) := by decide +kernel
theorem dX5_countKinds_28 : decode cX5_countKinds 28 = .ok (.bipush 63, 2) := by decide +kernel
theorem dX5_countKinds_30 : decode cX5_countKinds 30 = .ok (.invokestatic 154, 3) := by decide +kernel
theorem dX5_countKinds_33 : decode cX5_countKinds 33 = .ok (.aload_n 0, 1) := by decide +kernel
theorem dX5_countKinds_34 : decode cX5_countKinds 34 = .ok (.getfield 148, 3) := by decide +kernel
theorem dX5_countKinds_37 : decode cX5_countKinds 37 = .ok (.ireturn, 1) := by decide +kernel
theorem dX5_group_0 : decode cX5_group 0 = .ok (.iload_n 3, 1) := by decide +kernel
theorem dX5_group_1 : decode cX5_group 1 = .ok (.ifCond .ne 4, 3) := by decide +kernel
theorem dX5_group_4 : decode cX5_group 4 = .ok (.return_, 1) := by decide +kernel
theorem dX5_group_5 : decode cX5_group 5 = .ok (.aload_n 0, 1) := by decide +kernel
theorem dX5_group_6 : decode cX5_group 6 = .ok (.getfield 28, 3) := by decide +kernel
theorem dX5_group_9 : decode cX5_group 9 = .ok (.iload_n 1, 1) := by decide +kernel
theorem dX5_group_10 : decode cX5_group 10 = .ok (.invokevirtual 93, 3) := by decide +kernel
theorem dX5_group_13 : decode cX5_group 13 = .ok (.ifCond .ne 14, 3) := by decide +kernel
theorem dX5_group_16 : decode cX5_group 16 = .ok (.aload_n 0, 1) := by decide +kernel
theorem dX5_group_17 : decode cX5_group 17 = .ok (.dup, 1) := by decide +kernel
theorem dX5_group_18 : decode cX5_group 18 = .ok (.getfield 148, 3) := by decide +kernel
theorem dX5_group_21 : decode cX5_group 21 = .ok (.iconst 1, 1) := by decide +kernel
theorem dX5_group_22 : decode cX5_group 22 = .ok (.iadd, 1) := by decide +kernel
theorem dX5_group_23 : decode cX5_group 23 = .ok (.putfield 148, 3) := by decide +kernel
theorem dX5_group_26 : decode cX5_group 26 = .ok (.return_, 1) := by decide +kernel
theorem dX5_group_27 : decode cX5_group 27 = .ok (.iconst 0, 1) := by decide +kernel
theorem dX5_group_28 : decode cX5_group 28 = .ok (.istore 4, 2) := by decide +kernel
theorem dX5_group_30 : decode cX5_group 30 = .ok (.iload 4, 2) := by decide +kernel
theorem dX5_group_32 : decode cX5_group 32 = .ok (.iload_n 2, 1) := by decide +kernel
theorem dX5_group_33 : decode cX5_group 33 = .ok (.if_icmp .gt 80, 3) := by decide +kernel
theorem dX5_group_36 : decode cX5_group 36 = .ok (.iload 4, 2) := by decide +kernel
theorem dX5_group_38 : decode cX5_group 38 = .ok (.aload_n 0, 1) := by decide +kernel
theorem dX5_group_39 : decode cX5_group 39 = .ok (.getfield 28, 3) := by decide +kernel
theorem dX5_group_42 : decode cX5_group 42 = .ok (.getfield 151, 3) := by decide +kernel
theorem dX5_group_45 : decode cX5_group 45 = .ok (.if_icmp .ge 68, 3) := by decide +kernel
theorem dX5_group_48 : decode cX5_group 48 = .ok (.aload_n 0, 1) := by decide +kernel
theorem dX5_group_49 : decode cX5_group 49 = .ok (.getfield 21, 3) := by decide +kernel
theorem dX5_group_52 : decode cX5_group 52 = .ok (.aload_n 0, 1) := by decide +kernel
theorem dX5_group_53 : decode cX5_group 53 = .ok (.iload_n 1, 1) := by decide +kernel
theorem dX5_group_54 : decode cX5_group 54 = .ok (.iload 4, 2) := by decide +kernel
theorem dX5_group_56 : decode cX5_group 56 = .ok (.invokevirtual 158, 3) := by decide +kernel
theorem dX5_group_59 : decode cX5_group 59 = .ok (.invokevirtual 136, 3) := by decide +kernel
theorem dX5_group_62 : decode cX5_group 62 = .ok (.ifCond .ne 45, 3) := by decide +kernel
theorem dX5_group_65 : decode cX5_group 65 = .ok (.iload_n 3, 1) := by decide +kernel
theorem dX5_group_66 : decode cX5_group 66 = .ok (.aload_n 0, 1) := by decide +kernel
theorem dX5_group_67 : decode cX5_group 67 = .ok (.iload_n 1, 1) := by decide +kernel
theorem dX5_group_68 : decode cX5_group 68 = .ok (.iload 4, 2) := by decide +kernel
theorem dX5_group_70 : decode cX5_group 70 = .ok (.invokevirtual 161, 3) := by decide +kernel
theorem dX5_group_73 : decode cX5_group 73 = .ok (.iand, 1) := by decide +kernel
theorem dX5_group_74 : decode cX5_group 74 = .ok (.istore 5, 2) := by decide +kernel
theorem dX5_group_76 : decode cX5_group 76 = .ok (.aload_n 0, 1) := by decide +kernel
theorem dX5_group_77 : decode cX5_group 77 = .ok (.iload_n 1, 1) := by decide +kernel
theorem dX5_group_78 : decode cX5_group 78 = .ok (.iload 4, 2) := by decide +kernel
theorem dX5_group_80 : decode cX5_group 80 = .ok (.invokevirtual 164, 3) := by decide +kernel
theorem dX5_group_83 : decode cX5_group 83 = .ok (.aload_n 0, 1) := by decide +kernel
theorem dX5_group_84 : decode cX5_group 84 = .ok (.iload_n 1, 1) := by decide +kernel
theorem dX5_group_85 : decode cX5_group 85 = .ok (.iconst 1, 1) := by decide +kernel
theorem dX5_group_86 : decode cX5_group 86 = .ok (.iadd, 1) := by decide +kernel
theorem dX5_group_87 : decode cX5_group 87 = .ok (.iload_n 2, 1) := by decide +kernel
theorem dX5_group_88 : decode cX5_group 88 = .ok (.iload 4, 2) := by decide +kernel
theorem dX5_group_90 : decode cX5_group 90 = .ok (.iconst 1, 1) := by decide +kernel
theorem dX5_group_91 : decode cX5_group 91 = .ok (.iadd, 1) := by decide +kernel
theorem dX5_group_92 : decode cX5_group 92 = .ok (.invokestatic 87, 3) := by decide +kernel
theorem dX5_group_95 : decode cX5_group 95 = .ok (.iload 5, 2) := by decide +kernel
theorem dX5_group_97 : decode cX5_group 97 = .ok (.invokestatic 154, 3) := by decide +kernel
theorem dX5_group_100 : decode cX5_group 100 = .ok (.aload_n 0, 1) := by decide +kernel
theorem dX5_group_101 : decode cX5_group 101 = .ok (.iload_n 1, 1) := by decide +kernel
theorem dX5_group_102 : decode cX5_group 102 = .ok (.iload 4, 2) := by decide +kernel
theorem dX5_group_104 : decode cX5_group 104 = .ok (.invokevirtual 104, 3) := by decide +kernel
theorem dX5_group_107 : decode cX5_group 107 = .ok (.iinc 4 1, 3) := by decide +kernel
theorem dX5_group_110 : decode cX5_group 110 = .ok (.goto (-80), 3) := by decide +kernel
theorem dX5_group_113 : decode cX5_group 113 = .ok (.return_, 1) := by decide +kernel
theorem dX5_namingsWith_0 : decode cX5_namingsWith 0 = .ok (.aload_n 0, 1) := by decide +kernel
theorem dX5_namingsWith_1 : decode cX5_namingsWith 1 = .ok (.getfield 28, 3) := by decide +kernel
theorem dX5_namingsWith_4 : decode cX5_namingsWith 4 = .ok (.iload_n 1, 1) := by decide +kernel
theorem dX5_namingsWith_5 : decode cX5_namingsWith 5 = .ok (.invokevirtual 167, 3) := by decide +kernel
theorem dX5_namingsWith_8 : decode cX5_namingsWith 8 = .ok (.istore_n 3, 1) := by decide +kernel
theorem dX5_namingsWith_9 : decode cX5_namingsWith 9 = .ok (.iload_n 3, 1) := by decide +kernel
theorem dX5_namingsWith_10 : decode cX5_namingsWith 10 = .ok (.iconst (-1), 1) := by decide +kernel
theorem dX5_namingsWith_11 : decode cX5_namingsWith 11 = .ok (.if_icmp .eq 12, 3) := by decide +kernel
theorem dX5_namingsWith_14 : decode cX5_namingsWith 14 = .ok (.iload_n 2, 1) := by decide +kernel
theorem dX5_namingsWith_15 : decode cX5_namingsWith 15 = .ok (.ifCond .lt 8, 3) := by decide +kernel
theorem dX5_namingsWith_18 : decode cX5_namingsWith 18 = .ok (.iload_n 2, 1) := by decide +kernel
theorem dX5_namingsWith_19 : decode cX5_namingsWith 19 = .ok (.iconst 3, 1) := by decide +kernel
theorem dX5_namingsWith_20 : decode cX5_namingsWith 20 = .ok (.if_icmp .lt 6, 3) := by decide +kernel
theorem dX5_namingsWith_23 : decode cX5_namingsWith 23 = .ok (.bipush 63, 2) := by decide +kernel
theorem dX5_namingsWith_25 : decode cX5_namingsWith 25 = .ok (.ireturn, 1) := by decide +kernel
theorem dX5_namingsWith_26 : decode cX5_namingsWith 26 = .ok (.iconst 0, 1) := by decide +kernel
theorem dX5_namingsWith_27 : decode cX5_namingsWith 27 = .ok (.istore 4, 2) := by decide +kernel
theorem dX5_namingsWith_29 : decode cX5_namingsWith 29 = .ok (.iconst 0, 1) := by decide +kernel
theorem dX5_namingsWith_30 : decode cX5_namingsWith 30 = .ok (.istore 5, 2) := by decide +kernel
theorem dX5_namingsWith_32 : decode cX5_namingsWith 32 = .ok (.iload 5, 2) := by decide +kernel
theorem dX5_namingsWith_34 : decode cX5_namingsWith 34 = .ok (.bipush 6, 2) := by decide +kernel
theorem dX5_namingsWith_36 : decode cX5_namingsWith 36 = .ok (.if_icmp .ge 32, 3) := by decide +kernel
theorem dX5_namingsWith_39 : decode cX5_namingsWith 39 = .ok (.getstatic 170, 3) := by decide +kernel
theorem dX5_namingsWith_42 : decode cX5_namingsWith 42 = .ok (.iconst 3, 1) := by decide +kernel
theorem dX5_namingsWith_43 : decode cX5_namingsWith 43 = .ok (.iload 5, 2) := by decide +kernel
theorem dX5_namingsWith_45 : decode cX5_namingsWith 45 = .ok (.imul, 1) := by decide +kernel
theorem dX5_namingsWith_46 : decode cX5_namingsWith 46 = .ok (.iload_n 2, 1) := by decide +kernel
theorem dX5_namingsWith_47 : decode cX5_namingsWith 47 = .ok (.iadd, 1) := by decide +kernel
theorem dX5_namingsWith_48 : decode cX5_namingsWith 48 = .ok (.iaload, 1) := by decide +kernel
theorem dX5_namingsWith_49 : decode cX5_namingsWith 49 = .ok (.iload_n 3, 1) := by decide +kernel
theorem dX5_namingsWith_50 : decode cX5_namingsWith 50 = .ok (.if_icmp .ne 12, 3) := by decide +kernel
theorem dX5_namingsWith_53 : decode cX5_namingsWith 53 = .ok (.iload 4, 2) := by decide +kernel
theorem dX5_namingsWith_55 : decode cX5_namingsWith 55 = .ok (.iconst 1, 1) := by decide +kernel
theorem dX5_namingsWith_56 : decode cX5_namingsWith 56 = .ok (.iload 5, 2) := by decide +kernel
theorem dX5_namingsWith_58 : decode cX5_namingsWith 58 = .ok (.ishl, 1) := by decide +kernel
theorem dX5_namingsWith_59 : decode cX5_namingsWith 59 = .ok (.ior, 1) := by decide +kernel
theorem dX5_namingsWith_60 : decode cX5_namingsWith 60 = .ok (.istore 4, 2) := by decide +kernel
theorem dX5_namingsWith_62 : decode cX5_namingsWith 62 = .ok (.iinc 5 1, 3) := by decide +kernel
theorem dX5_namingsWith_65 : decode cX5_namingsWith 65 = .ok (.goto (-33), 3) := by decide +kernel
theorem dX5_namingsWith_68 : decode cX5_namingsWith 68 = .ok (.iload 4, 2) := by decide +kernel
theorem dX5_namingsWith_70 : decode cX5_namingsWith 70 = .ok (.ireturn, 1) := by decide +kernel
theorem dX5_tally_0 : decode cX5_tally 0 = .ok (.aload_n 0, 1) := by decide +kernel
theorem dX5_tally_1 : decode cX5_tally 1 = .ok (.aload_n 1, 1) := by decide +kernel
theorem dX5_tally_2 : decode cX5_tally 2 = .ok (.invokevirtual 58, 3) := by decide +kernel
theorem dX5_tally_5 : decode cX5_tally 5 = .ok (.aload_n 0, 1) := by decide +kernel
theorem dX5_tally_6 : decode cX5_tally 6 = .ok (.getfield 42, 3) := by decide +kernel
theorem dX5_tally_9 : decode cX5_tally 9 = .ok (.iconst 0, 1) := by decide +kernel
theorem dX5_tally_10 : decode cX5_tally 10 = .ok (.invokestatic 52, 3) := by decide +kernel
theorem dX5_tally_13 : decode cX5_tally 13 = .ok (.aload_n 0, 1) := by decide +kernel
theorem dX5_tally_14 : decode cX5_tally 14 = .ok (.iconst 1, 1) := by decide +kernel
theorem dX5_tally_15 : decode cX5_tally 15 = .ok (.invokestatic 173, 3) := by decide +kernel
theorem dX5_tally_18 : decode cX5_tally 18 = .ok (.return_, 1) := by decide +kernel
theorem dX5_spread_0 : decode cX5_spread 0 = .ok (.aload_n 0, 1) := by decide +kernel
theorem dX5_spread_1 : decode cX5_spread 1 = .ok (.getfield 28, 3) := by decide +kernel
theorem dX5_spread_4 : decode cX5_spread 4 = .ok (.iload_n 1, 1) := by decide +kernel
theorem dX5_spread_5 : decode cX5_spread 5 = .ok (.invokevirtual 93, 3) := by decide +kernel
theorem dX5_spread_8 : decode cX5_spread 8 = .ok (.ifCond .ne 8, 3) := by decide +kernel
theorem dX5_spread_11 : decode cX5_spread 11 = .ok (.aload_n 0, 1) := by decide +kernel
theorem dX5_spread_12 : decode cX5_spread 12 = .ok (.invokevirtual 176, 3) := by decide +kernel
theorem dX5_spread_15 : decode cX5_spread 15 = .ok (.return_, 1) := by decide +kernel
theorem dX5_spread_16 : decode cX5_spread 16 = .ok (.iconst 0, 1) := by decide +kernel
theorem dX5_spread_17 : decode cX5_spread 17 = .ok (.istore_n 2, 1) := by decide +kernel
theorem dX5_spread_18 : decode cX5_spread 18 = .ok (.iload_n 2, 1) := by decide +kernel
theorem dX5_spread_19 : decode cX5_spread 19 = .ok (.iconst 3, 1) := by decide +kernel
theorem dX5_spread_20 : decode cX5_spread 20 = .ok (.if_icmp .ge 40, 3) := by decide +kernel
theorem dX5_spread_23 : decode cX5_spread 23 = .ok (.aload_n 0, 1) := by decide +kernel
theorem dX5_spread_24 : decode cX5_spread 24 = .ok (.getfield 28, 3) := by decide +kernel
theorem dX5_spread_27 : decode cX5_spread 27 = .ok (.iload_n 1, 1) := by decide +kernel
theorem dX5_spread_28 : decode cX5_spread 28 = .ok (.iload_n 2, 1) := by decide +kernel
theorem dX5_spread_29 : decode cX5_spread 29 = .ok (.invokevirtual 133, 3) := by decide +kernel
theorem dX5_spread_32 : decode cX5_spread 32 = .ok (.ifCond .eq 22, 3) := by decide +kernel
theorem dX5_spread_35 : decode cX5_spread 35 = .ok (.aload_n 0, 1) := by decide +kernel
end
section
theorem dX5_spread_36 : decode cX5_spread 36 = .ok (.iload_n 1, 1) := by decide +kernel
theorem dX5_spread_37 : decode cX5_spread 37 = .ok (.iload_n 2, 1) := by decide +kernel
theorem dX5_spread_38 : decode cX5_spread 38 = .ok (.invokevirtual 164, 3) := by decide +kernel
theorem dX5_spread_41 : decode cX5_spread 41 = .ok (.aload_n 0, 1) := by decide +kernel
theorem dX5_spread_42 : decode cX5_spread 42 = .ok (.iload_n 1, 1) := by decide +kernel
theorem dX5_spread_43 : decode cX5_spread 43 = .ok (.iconst 1, 1) := by decide +kernel
theorem dX5_spread_44 : decode cX5_spread 44 = .ok (.iadd, 1) := by decide +kernel
theorem dX5_spread_45 : decode cX5_spread 45 = .ok (.invokestatic 173, 3) := by decide +kernel
theorem dX5_spread_48 : decode cX5_spread 48 = .ok (.aload_n 0, 1) := by decide +kernel
theorem dX5_spread_49 : decode cX5_spread 49 = .ok (.iload_n 1, 1) := by decide +kernel
theorem dX5_spread_50 : decode cX5_spread 50 = .ok (.iload_n 2, 1) := by decide +kernel
theorem dX5_spread_51 : decode cX5_spread 51 = .ok (.invokevirtual 104, 3) := by decide +kernel
theorem dX5_spread_54 : decode cX5_spread 54 = .ok (.iinc 2 1, 3) := by decide +kernel
theorem dX5_spread_57 : decode cX5_spread 57 = .ok (.goto (-39), 3) := by decide +kernel
theorem dX5_spread_60 : decode cX5_spread 60 = .ok (.return_, 1) := by decide +kernel
theorem dX5_mark_0 : decode cX5_mark 0 = .ok (.iconst 0, 1) := by decide +kernel
theorem dX5_mark_1 : decode cX5_mark 1 = .ok (.istore_n 1, 1) := by decide +kernel
theorem dX5_mark_2 : decode cX5_mark 2 = .ok (.aload_n 0, 1) := by decide +kernel
theorem dX5_mark_3 : decode cX5_mark 3 = .ok (.getfield 32, 3) := by decide +kernel
theorem dX5_mark_6 : decode cX5_mark 6 = .ok (.astore_n 2, 1) := by decide +kernel
theorem dX5_mark_7 : decode cX5_mark 7 = .ok (.aload_n 2, 1) := by decide +kernel
theorem dX5_mark_8 : decode cX5_mark 8 = .ok (.arraylength, 1) := by decide +kernel
theorem dX5_mark_9 : decode cX5_mark 9 = .ok (.istore_n 3, 1) := by decide +kernel
theorem dX5_mark_10 : decode cX5_mark 10 = .ok (.iconst 0, 1) := by decide +kernel
theorem dX5_mark_11 : decode cX5_mark 11 = .ok (.istore 4, 2) := by decide +kernel
theorem dX5_mark_13 : decode cX5_mark 13 = .ok (.iload 4, 2) := by decide +kernel
theorem dX5_mark_15 : decode cX5_mark 15 = .ok (.iload_n 3, 1) := by decide +kernel
theorem dX5_mark_16 : decode cX5_mark 16 = .ok (.if_icmp .ge 27, 3) := by decide +kernel
theorem dX5_mark_19 : decode cX5_mark 19 = .ok (.aload_n 2, 1) := by decide +kernel
theorem dX5_mark_20 : decode cX5_mark 20 = .ok (.iload 4, 2) := by decide +kernel
theorem dX5_mark_22 : decode cX5_mark 22 = .ok (.iaload, 1) := by decide +kernel
theorem dX5_mark_23 : decode cX5_mark 23 = .ok (.istore 5, 2) := by decide +kernel
theorem dX5_mark_25 : decode cX5_mark 25 = .ok (.iload_n 1, 1) := by decide +kernel
theorem dX5_mark_26 : decode cX5_mark 26 = .ok (.aload_n 0, 1) := by decide +kernel
theorem dX5_mark_27 : decode cX5_mark 27 = .ok (.getfield 21, 3) := by decide +kernel
theorem dX5_mark_30 : decode cX5_mark 30 = .ok (.iload 5, 2) := by decide +kernel
theorem dX5_mark_32 : decode cX5_mark 32 = .ok (.invokevirtual 136, 3) := by decide +kernel
theorem dX5_mark_35 : decode cX5_mark 35 = .ok (.ior, 1) := by decide +kernel
theorem dX5_mark_36 : decode cX5_mark 36 = .ok (.istore_n 1, 1) := by decide +kernel
theorem dX5_mark_37 : decode cX5_mark 37 = .ok (.iinc 4 1, 3) := by decide +kernel
theorem dX5_mark_40 : decode cX5_mark 40 = .ok (.goto (-27), 3) := by decide +kernel
theorem dX5_mark_43 : decode cX5_mark 43 = .ok (.iload_n 1, 1) := by decide +kernel
theorem dX5_mark_44 : decode cX5_mark 44 = .ok (.ifCond .lt 22, 3) := by decide +kernel
theorem dX5_mark_47 : decode cX5_mark 47 = .ok (.iload_n 1, 1) := by decide +kernel
theorem dX5_mark_48 : decode cX5_mark 48 = .ok (.aload_n 0, 1) := by decide +kernel
theorem dX5_mark_49 : decode cX5_mark 49 = .ok (.getfield 42, 3) := by decide +kernel
theorem dX5_mark_52 : decode cX5_mark 52 = .ok (.arraylength, 1) := by decide +kernel
theorem dX5_mark_53 : decode cX5_mark 53 = .ok (.if_icmp .ge 13, 3) := by decide +kernel
theorem dX5_mark_56 : decode cX5_mark 56 = .ok (.aload_n 0, 1) := by decide +kernel
theorem dX5_mark_57 : decode cX5_mark 57 = .ok (.getfield 42, 3) := by decide +kernel
theorem dX5_mark_60 : decode cX5_mark 60 = .ok (.iload_n 1, 1) := by decide +kernel
theorem dX5_mark_61 : decode cX5_mark 61 = .ok (.dup2, 1) := by decide +kernel
theorem dX5_mark_62 : decode cX5_mark 62 = .ok (.iaload, 1) := by decide +kernel
theorem dX5_mark_63 : decode cX5_mark 63 = .ok (.iconst 1, 1) := by decide +kernel
theorem dX5_mark_64 : decode cX5_mark 64 = .ok (.iadd, 1) := by decide +kernel
theorem dX5_mark_65 : decode cX5_mark 65 = .ok (.iastore, 1) := by decide +kernel
theorem dX5_mark_66 : decode cX5_mark 66 = .ok (.return_, 1) := by decide +kernel
theorem dX5_heeding_0 : decode cX5_heeding 0 = .ok (.iconst 0, 1) := by decide +kernel
theorem dX5_heeding_1 : decode cX5_heeding 1 = .ok (.istore_n 2, 1) := by decide +kernel
theorem dX5_heeding_2 : decode cX5_heeding 2 = .ok (.iconst 0, 1) := by decide +kernel
theorem dX5_heeding_3 : decode cX5_heeding 3 = .ok (.istore_n 3, 1) := by decide +kernel
theorem dX5_heeding_4 : decode cX5_heeding 4 = .ok (.iload_n 3, 1) := by decide +kernel
theorem dX5_heeding_5 : decode cX5_heeding 5 = .ok (.aload_n 0, 1) := by decide +kernel
theorem dX5_heeding_6 : decode cX5_heeding 6 = .ok (.getfield 42, 3) := by decide +kernel
theorem dX5_heeding_9 : decode cX5_heeding 9 = .ok (.arraylength, 1) := by decide +kernel
theorem dX5_heeding_10 : decode cX5_heeding 10 = .ok (.if_icmp .ge 24, 3) := by decide +kernel
theorem dX5_heeding_13 : decode cX5_heeding 13 = .ok (.iload_n 3, 1) := by decide +kernel
theorem dX5_heeding_14 : decode cX5_heeding 14 = .ok (.iload_n 1, 1) := by decide +kernel
theorem dX5_heeding_15 : decode cX5_heeding 15 = .ok (.iand, 1) := by decide +kernel
theorem dX5_heeding_16 : decode cX5_heeding 16 = .ok (.ifCond .ne 12, 3) := by decide +kernel
theorem dX5_heeding_19 : decode cX5_heeding 19 = .ok (.iload_n 2, 1) := by decide +kernel
theorem dX5_heeding_20 : decode cX5_heeding 20 = .ok (.aload_n 0, 1) := by decide +kernel
theorem dX5_heeding_21 : decode cX5_heeding 21 = .ok (.getfield 42, 3) := by decide +kernel
theorem dX5_heeding_24 : decode cX5_heeding 24 = .ok (.iload_n 3, 1) := by decide +kernel
theorem dX5_heeding_25 : decode cX5_heeding 25 = .ok (.iaload, 1) := by decide +kernel
theorem dX5_heeding_26 : decode cX5_heeding 26 = .ok (.iadd, 1) := by decide +kernel
theorem dX5_heeding_27 : decode cX5_heeding 27 = .ok (.istore_n 2, 1) := by decide +kernel
theorem dX5_heeding_28 : decode cX5_heeding 28 = .ok (.iinc 3 1, 3) := by decide +kernel
theorem dX5_heeding_31 : decode cX5_heeding 31 = .ok (.goto (-27), 3) := by decide +kernel
theorem dX5_heeding_34 : decode cX5_heeding 34 = .ok (.iload_n 2, 1) := by decide +kernel
theorem dX5_heeding_35 : decode cX5_heeding 35 = .ok (.ireturn, 1) := by decide +kernel
theorem dX6_init_0 : decode cX6_init 0 = .ok (.aload_n 0, 1) := by decide +kernel
theorem dX6_init_1 : decode cX6_init 1 = .ok (.invokespecial 1, 3) := by decide +kernel
theorem dX6_init_4 : decode cX6_init 4 = .ok (.aload_n 0, 1) := by decide +kernel
theorem dX6_init_5 : decode cX6_init 5 = .ok (.new 7, 3) := by decide +kernel
theorem dX6_init_8 : decode cX6_init 8 = .ok (.dup, 1) := by decide +kernel
theorem dX6_init_9 : decode cX6_init 9 = .ok (.invokespecial 9, 3) := by decide +kernel
theorem dX6_init_12 : decode cX6_init 12 = .ok (.putfield 10, 3) := by decide +kernel
theorem dX6_init_15 : decode cX6_init 15 = .ok (.aload_n 0, 1) := by decide +kernel
theorem dX6_init_16 : decode cX6_init 16 = .ok (.new 16, 3) := by decide +kernel
theorem dX6_init_19 : decode cX6_init 19 = .ok (.dup, 1) := by decide +kernel
theorem dX6_init_20 : decode cX6_init 20 = .ok (.invokespecial 18, 3) := by decide +kernel
theorem dX6_init_23 : decode cX6_init 23 = .ok (.putfield 19, 3) := by decide +kernel
theorem dX6_init_26 : decode cX6_init 26 = .ok (.aload_n 0, 1) := by decide +kernel
theorem dX6_init_27 : decode cX6_init 27 = .ok (.new 16, 3) := by decide +kernel
theorem dX6_init_30 : decode cX6_init 30 = .ok (.dup, 1) := by decide +kernel
theorem dX6_init_31 : decode cX6_init 31 = .ok (.invokespecial 18, 3) := by decide +kernel
theorem dX6_init_34 : decode cX6_init 34 = .ok (.putfield 23, 3) := by decide +kernel
theorem dX6_init_37 : decode cX6_init 37 = .ok (.aload_n 0, 1) := by decide +kernel
theorem dX6_init_38 : decode cX6_init 38 = .ok (.new 16, 3) := by decide +kernel
theorem dX6_init_41 : decode cX6_init 41 = .ok (.dup, 1) := by decide +kernel
theorem dX6_init_42 : decode cX6_init 42 = .ok (.invokespecial 18, 3) := by decide +kernel
theorem dX6_init_45 : decode cX6_init 45 = .ok (.putfield 26, 3) := by decide +kernel
theorem dX6_init_48 : decode cX6_init 48 = .ok (.aload_n 0, 1) := by decide +kernel
theorem dX6_init_49 : decode cX6_init 49 = .ok (.new 16, 3) := by decide +kernel
theorem dX6_init_52 : decode cX6_init 52 = .ok (.dup, 1) := by decide +kernel
theorem dX6_init_53 : decode cX6_init 53 = .ok (.invokespecial 18, 3) := by decide +kernel
theorem dX6_init_56 : decode cX6_init 56 = .ok (.putfield 29, 3) := by decide +kernel
theorem dX6_init_59 : decode cX6_init 59 = .ok (.aload_n 0, 1) := by decide +kernel
theorem dX6_init_60 : decode cX6_init 60 = .ok (.iconst 2, 1) := by decide +kernel
theorem dX6_init_61 : decode cX6_init 61 = .ok (.anewarray 16, 3) := by decide +kernel
theorem dX6_init_64 : decode cX6_init 64 = .ok (.dup, 1) := by decide +kernel
theorem dX6_init_65 : decode cX6_init 65 = .ok (.iconst 0, 1) := by decide +kernel
theorem dX6_init_66 : decode cX6_init 66 = .ok (.new 16, 3) := by decide +kernel
theorem dX6_init_69 : decode cX6_init 69 = .ok (.dup, 1) := by decide +kernel
theorem dX6_init_70 : decode cX6_init 70 = .ok (.invokespecial 18, 3) := by decide +kernel
theorem dX6_init_73 : decode cX6_init 73 = .ok (.aastore, 1) := by decide +kernel
theorem dX6_init_74 : decode cX6_init 74 = .ok (.dup, 1) := by decide +kernel
theorem dX6_init_75 : decode cX6_init 75 = .ok (.iconst 1, 1) := by decide +kernel
theorem dX6_init_76 : decode cX6_init 76 = .ok (.new 16, 3) := by decide +kernel
theorem dX6_init_79 : decode cX6_init 79 = .ok (.dup, 1) := by decide +kernel
theorem dX6_init_80 : decode cX6_init 80 = .ok (.invokespecial 18, 3) := by decide +kernel
theorem dX6_init_83 : decode cX6_init 83 = .ok (.aastore, 1) := by decide +kernel
theorem dX6_init_84 : decode cX6_init 84 = .ok (.putfield 32, 3) := by decide +kernel
theorem dX6_init_87 : decode cX6_init 87 = .ok (.aload_n 0, 1) := by decide +kernel
theorem dX6_init_88 : decode cX6_init 88 = .ok (.new 36, 3) := by decide +kernel
theorem dX6_init_91 : decode cX6_init 91 = .ok (.dup, 1) := by decide +kernel
theorem dX6_init_92 : decode cX6_init 92 = .ok (.invokespecial 38, 3) := by decide +kernel
theorem dX6_init_95 : decode cX6_init 95 = .ok (.putfield 39, 3) := by decide +kernel
theorem dX6_init_98 : decode cX6_init 98 = .ok (.aload_n 0, 1) := by decide +kernel
theorem dX6_init_99 : decode cX6_init 99 = .ok (.new 43, 3) := by decide +kernel
theorem dX6_init_102 : decode cX6_init 102 = .ok (.dup, 1) := by decide +kernel
theorem dX6_init_103 : decode cX6_init 103 = .ok (.invokespecial 45, 3) := by decide +kernel
theorem dX6_init_106 : decode cX6_init 106 = .ok (.putfield 46, 3) := by decide +kernel
theorem dX6_init_109 : decode cX6_init 109 = .ok (.aload_n 0, 1) := by decide +kernel
theorem dX6_init_110 : decode cX6_init 110 = .ok (.getfield 19, 3) := by decide +kernel
theorem dX6_init_113 : decode cX6_init 113 = .ok (.iconst 1, 1) := by decide +kernel
theorem dX6_init_114 : decode cX6_init 114 = .ok (.iconst 2, 1) := by decide +kernel
theorem dX6_init_115 : decode cX6_init 115 = .ok (.invokevirtual 50, 3) := by decide +kernel
theorem dX6_init_118 : decode cX6_init 118 = .ok (.aload_n 0, 1) := by decide +kernel
theorem dX6_init_119 : decode cX6_init 119 = .ok (.aload_n 0, 1) := by decide +kernel
theorem dX6_init_120 : decode cX6_init 120 = .ok (.getfield 19, 3) := by decide +kernel
theorem dX6_init_123 : decode cX6_init 123 = .ok (.invokevirtual 54, 3) := by decide +kernel
theorem dX6_init_126 : decode cX6_init 126 = .ok (.pop, 1) := by decide +kernel
theorem dX6_init_127 : decode cX6_init 127 = .ok (.return_, 1) := by decide +kernel
theorem dX6_write_0 : decode cX6_write 0 = .ok (.iload_n 1, 1) := by decide +kernel
theorem dX6_write_1 : decode cX6_write 1 = .ok (.ifCond .lt 10, 3) := by decide +kernel
theorem dX6_write_4 : decode cX6_write 4 = .ok (.iload_n 1, 1) := by decide +kernel
theorem dX6_write_5 : decode cX6_write 5 = .ok (.sipush 255, 3) := by decide +kernel
theorem dX6_write_8 : decode cX6_write 8 = .ok (.if_icmp .le 6, 3) := by decide +kernel
theorem dX6_write_11 : decode cX6_write 11 = .ok (.bipush (-2), 2) := by decide +kernel
theorem dX6_write_13 : decode cX6_write 13 = .ok (.ireturn, 1) := by decide +kernel
theorem dX6_write_14 : decode cX6_write 14 = .ok (.aload_n 0, 1) := by decide +kernel
theorem dX6_write_15 : decode cX6_write 15 = .ok (.getfield 10, 3) := by decide +kernel
theorem dX6_write_18 : decode cX6_write 18 = .ok (.iload_n 1, 1) := by decide +kernel
theorem dX6_write_19 : decode cX6_write 19 = .ok (.invokevirtual 58, 3) := by decide +kernel
theorem dX6_write_22 : decode cX6_write 22 = .ok (.ifCond .eq 13, 3) := by decide +kernel
theorem dX6_write_25 : decode cX6_write 25 = .ok (.aload_n 0, 1) := by decide +kernel
theorem dX6_write_26 : decode cX6_write 26 = .ok (.getfield 10, 3) := by decide +kernel
theorem dX6_write_29 : decode cX6_write 29 = .ok (.getfield 62, 3) := by decide +kernel
theorem dX6_write_32 : decode cX6_write 32 = .ok (.goto 5, 3) := by decide +kernel
theorem dX6_write_35 : decode cX6_write 35 = .ok (.bipush (-4), 2) := by decide +kernel
theorem dX6_write_37 : decode cX6_write 37 = .ok (.ireturn, 1) := by decide +kernel
theorem dX6_wipe_0 : decode cX6_wipe 0 = .ok (.aload_n 0, 1) := by decide +kernel
theorem dX6_wipe_1 : decode cX6_wipe 1 = .ok (.getfield 10, 3) := by decide +kernel
theorem dX6_wipe_4 : decode cX6_wipe 4 = .ok (.getfield 62, 3) := by decide +kernel
theorem dX6_wipe_7 : decode cX6_wipe 7 = .ok (.istore_n 1, 1) := by decide +kernel
theorem dX6_wipe_8 : decode cX6_wipe 8 = .ok (.aload_n 0, 1) := by decide +kernel
theorem dX6_wipe_9 : decode cX6_wipe 9 = .ok (.getfield 10, 3) := by decide +kernel
theorem dX6_wipe_12 : decode cX6_wipe 12 = .ok (.iconst 0, 1) := by decide +kernel
theorem dX6_wipe_13 : decode cX6_wipe 13 = .ok (.putfield 62, 3) := by decide +kernel
theorem dX6_wipe_16 : decode cX6_wipe 16 = .ok (.iload_n 1, 1) := by decide +kernel
theorem dX6_wipe_17 : decode cX6_wipe 17 = .ok (.ireturn, 1) := by decide +kernel
theorem dX6_fault_0 : decode cX6_fault 0 = .ok (.aload_n 0, 1) := by decide +kernel
theorem dX6_fault_1 : decode cX6_fault 1 = .ok (.getfield 10, 3) := by decide +kernel
theorem dX6_fault_4 : decode cX6_fault 4 = .ok (.aload_n 0, 1) := by decide +kernel
theorem dX6_fault_5 : decode cX6_fault 5 = .ok (.getfield 23, 3) := by decide +kernel
theorem dX6_fault_8 : decode cX6_fault 8 = .ok (.invokevirtual 66, 3) := by decide +kernel
theorem dX6_fault_11 : decode cX6_fault 11 = .ok (.ireturn, 1) := by decide +kernel
theorem dX6_task_0 : decode cX6_task 0 = .ok (.aload_n 0, 1) := by decide +kernel
theorem dX6_task_1 : decode cX6_task 1 = .ok (.getfield 10, 3) := by decide +kernel
theorem dX6_task_4 : decode cX6_task 4 = .ok (.aload_n 0, 1) := by decide +kernel
theorem dX6_task_5 : decode cX6_task 5 = .ok (.getfield 23, 3) := by decide +kernel
theorem dX6_task_8 : decode cX6_task 8 = .ok (.invokevirtual 66, 3) := by decide +kernel
theorem dX6_task_11 : decode cX6_task 11 = .ok (.bipush (-9), 2) := by decide +kernel
theorem dX6_task_13 : decode cX6_task 13 = .ok (.if_icmp .eq 6, 3) := by decide +kernel
theorem dX6_task_16 : decode cX6_task 16 = .ok (.bipush (-3), 2) := by decide +kernel
theorem dX6_task_18 : decode cX6_task 18 = .ok (.ireturn, 1) := by decide +kernel
theorem dX6_task_19 : decode cX6_task 19 = .ok (.aload_n 0, 1) := by decide +kernel
theorem dX6_task_20 : decode cX6_task 20 = .ok (.getfield 19, 3) := by decide +kernel
theorem dX6_task_23 : decode cX6_task 23 = .ok (.aload_n 0, 1) := by decide +kernel
theorem dX6_task_24 : decode cX6_task 24 = .ok (.getfield 23, 3) := by decide +kernel
theorem dX6_task_27 : decode cX6_task 27 = .ok (.invokevirtual 69, 3) := by decide +kernel
theorem dX6_task_30 : decode cX6_task 30 = .ok (.aload_n 0, 1) := by decide +kernel
theorem dX6_task_31 : decode cX6_task 31 = .ok (.getfield 39, 3) := by decide +kernel
theorem dX6_task_34 : decode cX6_task 34 = .ok (.invokevirtual 73, 3) := by decide +kernel
theorem dX6_task_37 : decode cX6_task 37 = .ok (.iconst 0, 1) := by decide +kernel
theorem dX6_task_38 : decode cX6_task 38 = .ok (.istore_n 1, 1) := by decide +kernel
theorem dX6_task_39 : decode cX6_task 39 = .ok (.iload_n 1, 1) := by decide +kernel
theorem dX6_task_40 : decode cX6_task 40 = .ok (.aload_n 0, 1) := by decide +kernel
theorem dX6_task_41 : decode cX6_task 41 = .ok (.getfield 32, 3) := by decide +kernel
theorem dX6_task_44 : decode cX6_task 44 = .ok (.arraylength, 1) := by decide +kernel
theorem dX6_task_45 : decode cX6_task 45 = .ok (.if_icmp .ge 17, 3) := by decide +kernel
theorem dX6_task_48 : decode cX6_task 48 = .ok (.aload_n 0, 1) := by decide +kernel
theorem dX6_task_49 : decode cX6_task 49 = .ok (.iload_n 1, 1) := by decide +kernel
theorem dX6_task_50 : decode cX6_task 50 = .ok (.invokevirtual 76, 3) := by decide +kernel
theorem dX6_task_53 : decode cX6_task 53 = .ok (.invokestatic 80, 3) := by decide +kernel
theorem dX6_task_56 : decode cX6_task 56 = .ok (.iinc 1 1, 3) := by decide +kernel
theorem dX6_task_59 : decode cX6_task 59 = .ok (.goto (-20), 3) := by decide +kernel
theorem dX6_task_62 : decode cX6_task 62 = .ok (.aload_n 0, 1) := by decide +kernel
theorem dX6_task_63 : decode cX6_task 63 = .ok (.aload_n 0, 1) := by decide +kernel
theorem dX6_task_64 : decode cX6_task 64 = .ok (.getfield 19, 3) := by decide +kernel
theorem dX6_task_67 : decode cX6_task 67 = .ok (.invokevirtual 54, 3) := by decide +kernel
theorem dX6_task_70 : decode cX6_task 70 = .ok (.ireturn, 1) := by decide +kernel
theorem dX6_equation_0 : decode cX6_equation 0 = .ok (.aload_n 0, 1) := by decide +kernel
theorem dX6_equation_1 : decode cX6_equation 1 = .ok (.getfield 19, 3) := by decide +kernel
theorem dX6_equation_4 : decode cX6_equation 4 = .ok (.iload_n 1, 1) := by decide +kernel
theorem dX6_equation_5 : decode cX6_equation 5 = .ok (.invokevirtual 83, 3) := by decide +kernel
theorem dX6_equation_8 : decode cX6_equation 8 = .ok (.ifCond .ne 5, 3) := by decide +kernel
theorem dX6_equation_11 : decode cX6_equation 11 = .ok (.iconst (-1), 1) := by decide +kernel
theorem dX6_equation_12 : decode cX6_equation 12 = .ok (.ireturn, 1) := by decide +kernel
theorem dX6_equation_13 : decode cX6_equation 13 = .ok (.iload_n 2, 1) := by decide +kernel
theorem dX6_equation_14 : decode cX6_equation 14 = .ok (.tableswitch 87 0 5 #[38, 38, 38, 51, 61, 78], 38) := by decide +kernel
theorem dX6_equation_52 : decode cX6_equation 52 = .ok (.aload_n 0, 1) := by decide +kernel
theorem dX6_equation_53 : decode cX6_equation 53 = .ok (.getfield 19, 3) := by decide +kernel
theorem dX6_equation_56 : decode cX6_equation 56 = .ok (.iload_n 1, 1) := by decide +kernel
theorem dX6_equation_57 : decode cX6_equation 57 = .ok (.iload_n 2, 1) := by decide +kernel
theorem dX6_equation_58 : decode cX6_equation 58 = .ok (.invokevirtual 86, 3) := by decide +kernel
theorem dX6_equation_61 : decode cX6_equation 61 = .ok (.bipush 10, 2) := by decide +kernel
theorem dX6_equation_63 : decode cX6_equation 63 = .ok (.iadd, 1) := by decide +kernel
theorem dX6_equation_64 : decode cX6_equation 64 = .ok (.ireturn, 1) := by decide +kernel
theorem dX6_equation_65 : decode cX6_equation 65 = .ok (.aload_n 0, 1) := by decide +kernel
theorem dX6_equation_66 : decode cX6_equation 66 = .ok (.getfield 19, 3) := by decide +kernel
theorem dX6_equation_69 : decode cX6_equation 69 = .ok (.iload_n 1, 1) := by decide +kernel
theorem dX6_equation_70 : decode cX6_equation 70 = .ok (.iconst 3, 1) := by decide +kernel
theorem dX6_equation_71 : decode cX6_equation 71 = .ok (.invokevirtual 86, 3) := by decide +kernel
theorem dX6_equation_74 : decode cX6_equation 74 = .ok (.ireturn, 1) := by decide +kernel
theorem dX6_equation_75 : decode cX6_equation 75 = .ok (.aload_n 0, 1) := by decide +kernel
theorem dX6_equation_76 : decode cX6_equation 76 = .ok (.getfield 19, 3) := by decide +kernel
theorem dX6_equation_79 : decode cX6_equation 79 = .ok (.iload_n 1, 1) := by decide +kernel
theorem dX6_equation_80 : decode cX6_equation 80 = .ok (.invokevirtual 90, 3) := by decide +kernel
theorem dX6_equation_83 : decode cX6_equation 83 = .ok (.ifCond .eq 7, 3) := by decide +kernel
theorem dX6_equation_86 : decode cX6_equation 86 = .ok (.iconst 1, 1) := by decide +kernel
theorem dX6_equation_87 : decode cX6_equation 87 = .ok (.goto 4, 3) := by decide +kernel
theorem dX6_equation_90 : decode cX6_equation 90 = .ok (.iconst 0, 1) := by decide +kernel
theorem dX6_equation_91 : decode cX6_equation 91 = .ok (.ireturn, 1) := by decide +kernel
theorem dX6_equation_92 : decode cX6_equation 92 = .ok (.aload_n 0, 1) := by decide +kernel
theorem dX6_equation_93 : decode cX6_equation 93 = .ok (.getfield 19, 3) := by decide +kernel
theorem dX6_equation_96 : decode cX6_equation 96 = .ok (.iload_n 1, 1) := by decide +kernel
theorem dX6_equation_97 : decode cX6_equation 97 = .ok (.invokevirtual 93, 3) := by decide +kernel
theorem dX6_equation_100 : decode cX6_equation 100 = .ok (.ireturn, 1) := by decide +kernel
theorem dX6_equation_101 : decode cX6_equation 101 = .ok (.bipush (-2), 2) := by decide +kernel
theorem dX6_equation_103 : decode cX6_equation 103 = .ok (.ireturn, 1) := by decide +kernel
theorem dX6_solution_0 : decode cX6_solution 0 = .ok (.aload_n 0, 1) := by decide +kernel
theorem dX6_solution_1 : decode cX6_solution 1 = .ok (.getfield 19, 3) := by decide +kernel
theorem dX6_solution_4 : decode cX6_solution 4 = .ok (.iload_n 1, 1) := by decide +kernel
theorem dX6_solution_5 : decode cX6_solution 5 = .ok (.invokevirtual 83, 3) := by decide +kernel
theorem dX6_solution_8 : decode cX6_solution 8 = .ok (.ifCond .ne 5, 3) := by decide +kernel
theorem dX6_solution_11 : decode cX6_solution 11 = .ok (.iconst (-1), 1) := by decide +kernel
theorem dX6_solution_12 : decode cX6_solution 12 = .ok (.ireturn, 1) := by decide +kernel
theorem dX6_solution_13 : decode cX6_solution 13 = .ok (.aload_n 0, 1) := by decide +kernel
theorem dX6_solution_14 : decode cX6_solution 14 = .ok (.getfield 19, 3) := by decide +kernel
theorem dX6_solution_17 : decode cX6_solution 17 = .ok (.iload_n 1, 1) := by decide +kernel
theorem dX6_solution_18 : decode cX6_solution 18 = .ok (.iload_n 2, 1) := by decide +kernel
theorem dX6_solution_19 : decode cX6_solution 19 = .ok (.invokevirtual 97, 3) := by decide +kernel
theorem dX6_solution_22 : decode cX6_solution 22 = .ok (.ireturn, 1) := by decide +kernel
theorem dX6_number_0 : decode cX6_number 0 = .ok (.aload_n 0, 1) := by decide +kernel
theorem dX6_number_1 : decode cX6_number 1 = .ok (.getfield 19, 3) := by decide +kernel
theorem dX6_number_4 : decode cX6_number 4 = .ok (.iload_n 1, 1) := by decide +kernel
theorem dX6_number_5 : decode cX6_number 5 = .ok (.invokevirtual 100, 3) := by decide +kernel
theorem dX6_number_8 : decode cX6_number 8 = .ok (.ifCond .ne 5, 3) := by decide +kernel
theorem dX6_number_11 : decode cX6_number 11 = .ok (.iconst (-1), 1) := by decide +kernel
theorem dX6_number_12 : decode cX6_number 12 = .ok (.ireturn, 1) := by decide +kernel
theorem dX6_number_13 : decode cX6_number 13 = .ok (.iload_n 2, 1) := by decide +kernel
theorem dX6_number_14 : decode cX6_number 14 = .ok (.tableswitch 130 0 3 #[30, 54, 80, 101], 30) := by decide +kernel
theorem dX6_number_44 : decode cX6_number 44 = .ok (.aload_n 0, 1) := by decide +kernel
theorem dX6_number_45 : decode cX6_number 45 = .ok (.getfield 19, 3) := by decide +kernel
theorem dX6_number_48 : decode cX6_number 48 = .ok (.getfield 103, 3) := by decide +kernel
theorem dX6_number_51 : decode cX6_number 51 = .ok (.ifCond .eq 14, 3) := by decide +kernel
theorem dX6_number_54 : decode cX6_number 54 = .ok (.aload_n 0, 1) := by decide +kernel
theorem dX6_number_55 : decode cX6_number 55 = .ok (.getfield 19, 3) := by decide +kernel
theorem dX6_number_58 : decode cX6_number 58 = .ok (.iload_n 1, 1) := by decide +kernel
theorem dX6_number_59 : decode cX6_number 59 = .ok (.invokevirtual 107, 3) := by decide +kernel
theorem dX6_number_62 : decode cX6_number 62 = .ok (.goto 5, 3) := by decide +kernel
theorem dX6_number_65 : decode cX6_number 65 = .ok (.bipush (-9), 2) := by decide +kernel
theorem dX6_number_67 : decode cX6_number 67 = .ok (.ireturn, 1) := by decide +kernel
theorem dX6_number_68 : decode cX6_number 68 = .ok (.aload_n 0, 1) := by decide +kernel
theorem dX6_number_69 : decode cX6_number 69 = .ok (.getfield 19, 3) := by decide +kernel
theorem dX6_number_72 : decode cX6_number 72 = .ok (.iload_n 1, 1) := by decide +kernel
theorem dX6_number_73 : decode cX6_number 73 = .ok (.invokevirtual 110, 3) := by decide +kernel
theorem dX6_number_76 : decode cX6_number 76 = .ok (.iconst (-1), 1) := by decide +kernel
theorem dX6_number_77 : decode cX6_number 77 = .ok (.if_icmp .ne 8, 3) := by decide +kernel
theorem dX6_number_80 : decode cX6_number 80 = .ok (.bipush (-9), 2) := by decide +kernel
theorem dX6_number_82 : decode cX6_number 82 = .ok (.goto 11, 3) := by decide +kernel
theorem dX6_number_85 : decode cX6_number 85 = .ok (.aload_n 0, 1) := by decide +kernel
theorem dX6_number_86 : decode cX6_number 86 = .ok (.getfield 19, 3) := by decide +kernel
theorem dX6_number_89 : decode cX6_number 89 = .ok (.iload_n 1, 1) := by decide +kernel
theorem dX6_number_90 : decode cX6_number 90 = .ok (.invokevirtual 110, 3) := by decide +kernel
theorem dX6_number_93 : decode cX6_number 93 = .ok (.ireturn, 1) := by decide +kernel
theorem dX6_number_94 : decode cX6_number 94 = .ok (.aload_n 0, 1) := by decide +kernel
theorem dX6_number_95 : decode cX6_number 95 = .ok (.getfield 46, 3) := by decide +kernel
theorem dX6_number_98 : decode cX6_number 98 = .ok (.aload_n 0, 1) := by decide +kernel
theorem dX6_number_99 : decode cX6_number 99 = .ok (.getfield 19, 3) := by decide +kernel
theorem dX6_number_102 : decode cX6_number 102 = .ok (.iconst 0, 1) := by decide +kernel
theorem dX6_number_103 : decode cX6_number 103 = .ok (.invokevirtual 113, 3) := by decide +kernel
theorem dX6_number_106 : decode cX6_number 106 = .ok (.aload_n 0, 1) := by decide +kernel
theorem dX6_number_107 : decode cX6_number 107 = .ok (.getfield 46, 3) := by decide +kernel
theorem dX6_number_110 : decode cX6_number 110 = .ok (.iload_n 1, 1) := by decide +kernel
theorem dX6_number_111 : decode cX6_number 111 = .ok (.invokevirtual 117, 3) := by decide +kernel
theorem dX6_number_114 : decode cX6_number 114 = .ok (.ireturn, 1) := by decide +kernel
theorem dX6_number_115 : decode cX6_number 115 = .ok (.aload_n 0, 1) := by decide +kernel
theorem dX6_number_116 : decode cX6_number 116 = .ok (.getfield 46, 3) := by decide +kernel
theorem dX6_number_119 : decode cX6_number 119 = .ok (.aload_n 0, 1) := by decide +kernel
theorem dX6_number_120 : decode cX6_number 120 = .ok (.getfield 19, 3) := by decide +kernel
theorem dX6_number_123 : decode cX6_number 123 = .ok (.iconst 0, 1) := by decide +kernel
theorem dX6_number_124 : decode cX6_number 124 = .ok (.invokevirtual 113, 3) := by decide +kernel
theorem dX6_number_127 : decode cX6_number 127 = .ok (.aload_n 0, 1) := by decide +kernel
theorem dX6_number_128 : decode cX6_number 128 = .ok (.getfield 46, 3) := by decide +kernel
theorem dX6_number_131 : decode cX6_number 131 = .ok (.iload_n 1, 1) := by decide +kernel
theorem dX6_number_132 : decode cX6_number 132 = .ok (.invokevirtual 120, 3) := by decide +kernel
theorem dX6_number_135 : decode cX6_number 135 = .ok (.ifCond .eq 7, 3) := by decide +kernel
theorem dX6_number_138 : decode cX6_number 138 = .ok (.iconst 1, 1) := by decide +kernel
theorem dX6_number_139 : decode cX6_number 139 = .ok (.goto 4, 3) := by decide +kernel
theorem dX6_number_142 : decode cX6_number 142 = .ok (.iconst 0, 1) := by decide +kernel
theorem dX6_number_143 : decode cX6_number 143 = .ok (.ireturn, 1) := by decide +kernel
theorem dX6_number_144 : decode cX6_number 144 = .ok (.bipush (-2), 2) := by decide +kernel
theorem dX6_number_146 : decode cX6_number 146 = .ok (.ireturn, 1) := by decide +kernel
theorem dX6_go_0 : decode cX6_go 0 = .ok (.aload_n 0, 1) := by decide +kernel
theorem dX6_go_1 : decode cX6_go 1 = .ok (.getfield 46, 3) := by decide +kernel
theorem dX6_go_4 : decode cX6_go 4 = .ok (.aload_n 0, 1) := by decide +kernel
theorem dX6_go_5 : decode cX6_go 5 = .ok (.getfield 19, 3) := by decide +kernel
theorem dX6_go_8 : decode cX6_go 8 = .ok (.iload_n 1, 1) := by decide +kernel
theorem dX6_go_9 : decode cX6_go 9 = .ok (.invokevirtual 113, 3) := by decide +kernel
theorem dX6_go_12 : decode cX6_go 12 = .ok (.iload_n 1, 1) := by decide +kernel
theorem dX6_go_13 : decode cX6_go 13 = .ok (.ifCond .lt 14, 3) := by decide +kernel
theorem dX6_go_16 : decode cX6_go 16 = .ok (.iload_n 1, 1) := by decide +kernel
theorem dX6_go_17 : decode cX6_go 17 = .ok (.aload_n 0, 1) := by decide +kernel
theorem dX6_go_18 : decode cX6_go 18 = .ok (.getfield 46, 3) := by decide +kernel
theorem dX6_go_21 : decode cX6_go 21 = .ok (.getfield 123, 3) := by decide +kernel
theorem dX6_go_24 : decode cX6_go 24 = .ok (.if_icmp .lt 5, 3) := by decide +kernel
theorem dX6_go_27 : decode cX6_go 27 = .ok (.iconst (-1), 1) := by decide +kernel
theorem dX6_go_28 : decode cX6_go 28 = .ok (.ireturn, 1) := by decide +kernel
theorem dX6_go_29 : decode cX6_go 29 = .ok (.aload_n 0, 1) := by decide +kernel
theorem dX6_go_30 : decode cX6_go 30 = .ok (.getfield 39, 3) := by decide +kernel
theorem dX6_go_33 : decode cX6_go 33 = .ok (.aload_n 0, 1) := by decide +kernel
theorem dX6_go_34 : decode cX6_go 34 = .ok (.getfield 19, 3) := by decide +kernel
theorem dX6_go_37 : decode cX6_go 37 = .ok (.invokevirtual 126, 3) := by decide +kernel
theorem dX6_go_40 : decode cX6_go 40 = .ok (.aload_n 0, 1) := by decide +kernel
theorem dX6_go_41 : decode cX6_go 41 = .ok (.getfield 19, 3) := by decide +kernel
theorem dX6_go_44 : decode cX6_go 44 = .ok (.aload_n 0, 1) := by decide +kernel
theorem dX6_go_45 : decode cX6_go 45 = .ok (.getfield 46, 3) := by decide +kernel
theorem dX6_go_48 : decode cX6_go 48 = .ok (.getfield 129, 3) := by decide +kernel
theorem dX6_go_51 : decode cX6_go 51 = .ok (.invokevirtual 133, 3) := by decide +kernel
theorem dX6_go_54 : decode cX6_go 54 = .ok (.istore_n 2, 1) := by decide +kernel
theorem dX6_go_55 : decode cX6_go 55 = .ok (.aload_n 0, 1) := by decide +kernel
theorem dX6_go_56 : decode cX6_go 56 = .ok (.getfield 19, 3) := by decide +kernel
theorem dX6_go_59 : decode cX6_go 59 = .ok (.aload_n 0, 1) := by decide +kernel
theorem dX6_go_60 : decode cX6_go 60 = .ok (.getfield 46, 3) := by decide +kernel
theorem dX6_go_63 : decode cX6_go 63 = .ok (.getfield 129, 3) := by decide +kernel
theorem dX6_go_66 : decode cX6_go 66 = .ok (.iconst 1, 1) := by decide +kernel
theorem dX6_go_67 : decode cX6_go 67 = .ok (.invokevirtual 137, 3) := by decide +kernel
theorem dX6_go_70 : decode cX6_go 70 = .ok (.aload_n 0, 1) := by decide +kernel
theorem dX6_go_71 : decode cX6_go 71 = .ok (.getfield 19, 3) := by decide +kernel
theorem dX6_go_74 : decode cX6_go 74 = .ok (.getfield 141, 3) := by decide +kernel
theorem dX6_go_77 : decode cX6_go 77 = .ok (.iload_n 2, 1) := by decide +kernel
theorem dX6_go_78 : decode cX6_go 78 = .ok (.isub, 1) := by decide +kernel
theorem dX6_go_79 : decode cX6_go 79 = .ok (.ireturn, 1) := by decide +kernel
theorem dX6_paint_0 : decode cX6_paint 0 = .ok (.aload_n 0, 1) := by decide +kernel
theorem dX6_paint_1 : decode cX6_paint 1 = .ok (.aload_n 0, 1) := by decide +kernel
theorem dX6_paint_2 : decode cX6_paint 2 = .ok (.getfield 19, 3) := by decide +kernel
theorem dX6_paint_5 : decode cX6_paint 5 = .ok (.iload_n 1, 1) := by decide +kernel
theorem dX6_paint_6 : decode cX6_paint 6 = .ok (.iload_n 2, 1) := by decide +kernel
theorem dX6_paint_7 : decode cX6_paint 7 = .ok (.invokevirtual 144, 3) := by decide +kernel
theorem dX6_paint_10 : decode cX6_paint 10 = .ok (.istore_n 3, 1) := by decide +kernel
theorem dX6_paint_11 : decode cX6_paint 11 = .ok (.iload_n 3, 1) := by decide +kernel
theorem dX6_paint_12 : decode cX6_paint 12 = .ok (.ifCond .eq 5, 3) := by decide +kernel
theorem dX6_paint_15 : decode cX6_paint 15 = .ok (.iload_n 3, 1) := by decide +kernel
theorem dX6_paint_16 : decode cX6_paint 16 = .ok (.ireturn, 1) := by decide +kernel
theorem dX6_paint_17 : decode cX6_paint 17 = .ok (.aload_n 0, 1) := by decide +kernel
theorem dX6_paint_18 : decode cX6_paint 18 = .ok (.getfield 39, 3) := by decide +kernel
theorem dX6_paint_21 : decode cX6_paint 21 = .ok (.aload_n 0, 1) := by decide +kernel
theorem dX6_paint_22 : decode cX6_paint 22 = .ok (.getfield 19, 3) := by decide +kernel
theorem dX6_paint_25 : decode cX6_paint 25 = .ok (.invokevirtual 126, 3) := by decide +kernel
theorem dX6_paint_28 : decode cX6_paint 28 = .ok (.aload_n 0, 1) := by decide +kernel
theorem dX6_paint_29 : decode cX6_paint 29 = .ok (.getfield 19, 3) := by decide +kernel
theorem dX6_paint_32 : decode cX6_paint 32 = .ok (.iload_n 1, 1) := by decide +kernel
theorem dX6_paint_33 : decode cX6_paint 33 = .ok (.iload_n 2, 1) := by decide +kernel
theorem dX6_paint_34 : decode cX6_paint 34 = .ok (.invokevirtual 148, 3) := by decide +kernel
theorem dX6_paint_37 : decode cX6_paint 37 = .ok (.aload_n 0, 1) := by decide +kernel
theorem dX6_paint_38 : decode cX6_paint 38 = .ok (.getfield 46, 3) := by decide +kernel
theorem dX6_paint_41 : decode cX6_paint 41 = .ok (.aload_n 0, 1) := by decide +kernel
theorem dX6_paint_42 : decode cX6_paint 42 = .ok (.getfield 19, 3) := by decide +kernel
theorem dX6_paint_45 : decode cX6_paint 45 = .ok (.iconst 0, 1) := by decide +kernel
theorem dX6_paint_46 : decode cX6_paint 46 = .ok (.invokevirtual 113, 3) := by decide +kernel
theorem dX6_paint_49 : decode cX6_paint 49 = .ok (.aload_n 0, 1) := by decide +kernel
theorem dX6_paint_50 : decode cX6_paint 50 = .ok (.getfield 46, 3) := by decide +kernel
theorem dX6_paint_53 : decode cX6_paint 53 = .ok (.getfield 151, 3) := by decide +kernel
theorem dX6_paint_56 : decode cX6_paint 56 = .ok (.ireturn, 1) := by decide +kernel
theorem dX6_reach_0 : decode cX6_reach 0 = .ok (.iload_n 1, 1) := by decide +kernel
theorem dX6_reach_1 : decode cX6_reach 1 = .ok (.invokestatic 154, 3) := by decide +kernel
theorem dX6_reach_4 : decode cX6_reach 4 = .ok (.ifCond .ne 6, 3) := by decide +kernel
theorem dX6_reach_7 : decode cX6_reach 7 = .ok (.bipush (-2), 2) := by decide +kernel
theorem dX6_reach_9 : decode cX6_reach 9 = .ok (.ireturn, 1) := by decide +kernel
theorem dX6_reach_10 : decode cX6_reach 10 = .ok (.aload_n 0, 1) := by decide +kernel
theorem dX6_reach_11 : decode cX6_reach 11 = .ok (.getfield 39, 3) := by decide +kernel
theorem dX6_reach_14 : decode cX6_reach 14 = .ok (.aload_n 0, 1) := by decide +kernel
theorem dX6_reach_15 : decode cX6_reach 15 = .ok (.getfield 19, 3) := by decide +kernel
theorem dX6_reach_18 : decode cX6_reach 18 = .ok (.invokevirtual 126, 3) := by decide +kernel
theorem dX6_reach_21 : decode cX6_reach 21 = .ok (.aload_n 0, 1) := by decide +kernel
theorem dX6_reach_22 : decode cX6_reach 22 = .ok (.getfield 19, 3) := by decide +kernel
theorem dX6_reach_25 : decode cX6_reach 25 = .ok (.iload_n 1, 1) := by decide +kernel
theorem dX6_reach_26 : decode cX6_reach 26 = .ok (.invokevirtual 157, 3) := by decide +kernel
theorem dX6_reach_29 : decode cX6_reach 29 = .ok (.aload_n 0, 1) := by decide +kernel
theorem dX6_reach_30 : decode cX6_reach 30 = .ok (.aload_n 0, 1) := by decide +kernel
theorem dX6_reach_31 : decode cX6_reach 31 = .ok (.getfield 19, 3) := by decide +kernel
theorem dX6_reach_34 : decode cX6_reach 34 = .ok (.invokevirtual 54, 3) := by decide +kernel
theorem dX6_reach_37 : decode cX6_reach 37 = .ok (.ireturn, 1) := by decide +kernel
theorem dX6_add_0 : decode cX6_add 0 = .ok (.iload_n 1, 1) := by decide +kernel
theorem dX6_add_1 : decode cX6_add 1 = .ok (.invokestatic 161, 3) := by decide +kernel
theorem dX6_add_4 : decode cX6_add 4 = .ok (.ifCond .eq 28, 3) := by decide +kernel
theorem dX6_add_7 : decode cX6_add 7 = .ok (.iload_n 2, 1) := by decide +kernel
theorem dX6_add_8 : decode cX6_add 8 = .ok (.invokestatic 161, 3) := by decide +kernel
theorem dX6_add_11 : decode cX6_add 11 = .ok (.ifCond .eq 21, 3) := by decide +kernel
theorem dX6_add_14 : decode cX6_add 14 = .ok (.iload_n 3, 1) := by decide +kernel
theorem dX6_add_15 : decode cX6_add 15 = .ok (.invokestatic 161, 3) := by decide +kernel
theorem dX6_add_18 : decode cX6_add 18 = .ok (.ifCond .eq 14, 3) := by decide +kernel
theorem dX6_add_21 : decode cX6_add 21 = .ok (.iload 4, 2) := by decide +kernel
theorem dX6_add_23 : decode cX6_add 23 = .ok (.ifCond .lt 9, 3) := by decide +kernel
theorem dX6_add_26 : decode cX6_add 26 = .ok (.iload 4, 2) := by decide +kernel
theorem dX6_add_28 : decode cX6_add 28 = .ok (.iconst 1, 1) := by decide +kernel
theorem dX6_add_29 : decode cX6_add 29 = .ok (.if_icmp .le 6, 3) := by decide +kernel
theorem dX6_add_32 : decode cX6_add 32 = .ok (.bipush (-2), 2) := by decide +kernel
theorem dX6_add_34 : decode cX6_add 34 = .ok (.ireturn, 1) := by decide +kernel
theorem dX6_add_35 : decode cX6_add 35 = .ok (.aload_n 0, 1) := by decide +kernel
theorem dX6_add_36 : decode cX6_add 36 = .ok (.getfield 19, 3) := by decide +kernel
theorem dX6_add_39 : decode cX6_add 39 = .ok (.getfield 164, 3) := by decide +kernel
theorem dX6_add_42 : decode cX6_add 42 = .ok (.iconst 4, 1) := by decide +kernel
theorem dX6_add_43 : decode cX6_add 43 = .ok (.if_icmp .lt 6, 3) := by decide +kernel
theorem dX6_add_46 : decode cX6_add 46 = .ok (.bipush (-4), 2) := by decide +kernel
theorem dX6_add_48 : decode cX6_add 48 = .ok (.ireturn, 1) := by decide +kernel
theorem dX6_add_49 : decode cX6_add 49 = .ok (.aload_n 0, 1) := by decide +kernel
theorem dX6_add_50 : decode cX6_add 50 = .ok (.getfield 39, 3) := by decide +kernel
theorem dX6_add_53 : decode cX6_add 53 = .ok (.aload_n 0, 1) := by decide +kernel
theorem dX6_add_54 : decode cX6_add 54 = .ok (.getfield 19, 3) := by decide +kernel
theorem dX6_add_57 : decode cX6_add 57 = .ok (.invokevirtual 126, 3) := by decide +kernel
theorem dX6_add_60 : decode cX6_add 60 = .ok (.aload_n 0, 1) := by decide +kernel
theorem dX6_add_61 : decode cX6_add 61 = .ok (.getfield 19, 3) := by decide +kernel
theorem dX6_add_64 : decode cX6_add 64 = .ok (.iload_n 1, 1) := by decide +kernel
theorem dX6_add_65 : decode cX6_add 65 = .ok (.iload_n 2, 1) := by decide +kernel
theorem dX6_add_66 : decode cX6_add 66 = .ok (.iload_n 3, 1) := by decide +kernel
theorem dX6_add_67 : decode cX6_add 67 = .ok (.iload 4, 2) := by decide +kernel
theorem dX6_add_69 : decode cX6_add 69 = .ok (.invokevirtual 167, 3) := by decide +kernel
theorem dX6_add_72 : decode cX6_add 72 = .ok (.aload_n 0, 1) := by decide +kernel
theorem dX6_add_73 : decode cX6_add 73 = .ok (.aload_n 0, 1) := by decide +kernel
theorem dX6_add_74 : decode cX6_add 74 = .ok (.getfield 19, 3) := by decide +kernel
theorem dX6_add_77 : decode cX6_add 77 = .ok (.invokevirtual 54, 3) := by decide +kernel
theorem dX6_add_80 : decode cX6_add 80 = .ok (.ireturn, 1) := by decide +kernel
theorem dX6_drop_0 : decode cX6_drop 0 = .ok (.aload_n 0, 1) := by decide +kernel
theorem dX6_drop_1 : decode cX6_drop 1 = .ok (.getfield 19, 3) := by decide +kernel
theorem dX6_drop_4 : decode cX6_drop 4 = .ok (.getfield 164, 3) := by decide +kernel
theorem dX6_drop_7 : decode cX6_drop 7 = .ok (.ifCond .gt 6, 3) := by decide +kernel
theorem dX6_drop_10 : decode cX6_drop 10 = .ok (.bipush (-3), 2) := by decide +kernel
theorem dX6_drop_12 : decode cX6_drop 12 = .ok (.ireturn, 1) := by decide +kernel
theorem dX6_drop_13 : decode cX6_drop 13 = .ok (.aload_n 0, 1) := by decide +kernel
theorem dX6_drop_14 : decode cX6_drop 14 = .ok (.getfield 39, 3) := by decide +kernel
theorem dX6_drop_17 : decode cX6_drop 17 = .ok (.aload_n 0, 1) := by decide +kernel
theorem dX6_drop_18 : decode cX6_drop 18 = .ok (.getfield 19, 3) := by decide +kernel
theorem dX6_drop_21 : decode cX6_drop 21 = .ok (.invokevirtual 126, 3) := by decide +kernel
theorem dX6_drop_24 : decode cX6_drop 24 = .ok (.aload_n 0, 1) := by decide +kernel
theorem dX6_drop_25 : decode cX6_drop 25 = .ok (.getfield 19, 3) := by decide +kernel
theorem dX6_drop_28 : decode cX6_drop 28 = .ok (.dup, 1) := by decide +kernel
theorem dX6_drop_29 : decode cX6_drop 29 = .ok (.getfield 164, 3) := by decide +kernel
theorem dX6_drop_32 : decode cX6_drop 32 = .ok (.iconst 1, 1) := by decide +kernel
theorem dX6_drop_33 : decode cX6_drop 33 = .ok (.isub, 1) := by decide +kernel
theorem dX6_drop_34 : decode cX6_drop 34 = .ok (.putfield 164, 3) := by decide +kernel
theorem dX6_drop_37 : decode cX6_drop 37 = .ok (.aload_n 0, 1) := by decide +kernel
theorem dX6_drop_38 : decode cX6_drop 38 = .ok (.aload_n 0, 1) := by decide +kernel
theorem dX6_drop_39 : decode cX6_drop 39 = .ok (.getfield 19, 3) := by decide +kernel
theorem dX6_drop_42 : decode cX6_drop 42 = .ok (.invokevirtual 54, 3) := by decide +kernel
theorem dX6_drop_45 : decode cX6_drop 45 = .ok (.ireturn, 1) := by decide +kernel
theorem dX6_pin_0 : decode cX6_pin 0 = .ok (.aload_n 0, 1) := by decide +kernel
theorem dX6_pin_1 : decode cX6_pin 1 = .ok (.getfield 19, 3) := by decide +kernel
theorem dX6_pin_4 : decode cX6_pin 4 = .ok (.iload_n 1, 1) := by decide +kernel
theorem dX6_pin_5 : decode cX6_pin 5 = .ok (.iload_n 2, 1) := by decide +kernel
theorem dX6_pin_6 : decode cX6_pin 6 = .ok (.invokestatic 170, 3) := by decide +kernel
theorem dX6_pin_9 : decode cX6_pin 9 = .ok (.istore_n 3, 1) := by decide +kernel
theorem dX6_pin_10 : decode cX6_pin 10 = .ok (.iload_n 3, 1) := by decide +kernel
theorem dX6_pin_11 : decode cX6_pin 11 = .ok (.ifCond .eq 5, 3) := by decide +kernel
theorem dX6_pin_14 : decode cX6_pin 14 = .ok (.iload_n 3, 1) := by decide +kernel
theorem dX6_pin_15 : decode cX6_pin 15 = .ok (.ireturn, 1) := by decide +kernel
theorem dX6_pin_16 : decode cX6_pin 16 = .ok (.aload_n 0, 1) := by decide +kernel
theorem dX6_pin_17 : decode cX6_pin 17 = .ok (.getfield 39, 3) := by decide +kernel
theorem dX6_pin_20 : decode cX6_pin 20 = .ok (.aload_n 0, 1) := by decide +kernel
theorem dX6_pin_21 : decode cX6_pin 21 = .ok (.getfield 19, 3) := by decide +kernel
theorem dX6_pin_24 : decode cX6_pin 24 = .ok (.invokevirtual 126, 3) := by decide +kernel
theorem dX6_pin_27 : decode cX6_pin 27 = .ok (.aload_n 0, 1) := by decide +kernel
theorem dX6_pin_28 : decode cX6_pin 28 = .ok (.getfield 19, 3) := by decide +kernel
theorem dX6_pin_31 : decode cX6_pin 31 = .ok (.iload_n 1, 1) := by decide +kernel
theorem dX6_pin_32 : decode cX6_pin 32 = .ok (.iload_n 2, 1) := by decide +kernel
theorem dX6_pin_33 : decode cX6_pin 33 = .ok (.invokevirtual 173, 3) := by decide +kernel
theorem dX6_pin_36 : decode cX6_pin 36 = .ok (.aload_n 0, 1) := by decide +kernel
theorem dX6_pin_37 : decode cX6_pin 37 = .ok (.aload_n 0, 1) := by decide +kernel
theorem dX6_pin_38 : decode cX6_pin 38 = .ok (.getfield 19, 3) := by decide +kernel
theorem dX6_pin_41 : decode cX6_pin 41 = .ok (.invokevirtual 54, 3) := by decide +kernel
theorem dX6_pin_44 : decode cX6_pin 44 = .ok (.ireturn, 1) := by decide +kernel
theorem dX6_undo_0 : decode cX6_undo 0 = .ok (.aload_n 0, 1) := by decide +kernel
theorem dX6_undo_1 : decode cX6_undo 1 = .ok (.getfield 39, 3) := by decide +kernel
theorem dX6_undo_4 : decode cX6_undo 4 = .ok (.aload_n 0, 1) := by decide +kernel
theorem dX6_undo_5 : decode cX6_undo 5 = .ok (.getfield 19, 3) := by decide +kernel
theorem dX6_undo_8 : decode cX6_undo 8 = .ok (.invokevirtual 176, 3) := by decide +kernel
theorem dX6_undo_11 : decode cX6_undo 11 = .ok (.ifCond .eq 13, 3) := by decide +kernel
theorem dX6_undo_14 : decode cX6_undo 14 = .ok (.aload_n 0, 1) := by decide +kernel
theorem dX6_undo_15 : decode cX6_undo 15 = .ok (.getfield 39, 3) := by decide +kernel
theorem dX6_undo_18 : decode cX6_undo 18 = .ok (.getfield 180, 3) := by decide +kernel
theorem dX6_undo_21 : decode cX6_undo 21 = .ok (.goto 5, 3) := by decide +kernel
theorem dX6_undo_24 : decode cX6_undo 24 = .ok (.bipush (-3), 2) := by decide +kernel
theorem dX6_undo_26 : decode cX6_undo 26 = .ok (.ireturn, 1) := by decide +kernel
theorem dX6_ask_0 : decode cX6_ask 0 = .ok (.iload_n 1, 1) := by decide +kernel
theorem dX6_ask_1 : decode cX6_ask 1 = .ok (.tableswitch 134 0 6 #[43, 63, 83, 92, 97, 102, 114], 43) := by decide +kernel
theorem dX6_ask_44 : decode cX6_ask 44 = .ok (.aload_n 0, 1) := by decide +kernel
theorem dX6_ask_45 : decode cX6_ask 45 = .ok (.getfield 46, 3) := by decide +kernel
theorem dX6_ask_48 : decode cX6_ask 48 = .ok (.aload_n 0, 1) := by decide +kernel
theorem dX6_ask_49 : decode cX6_ask 49 = .ok (.getfield 19, 3) := by decide +kernel
theorem dX6_ask_52 : decode cX6_ask 52 = .ok (.iconst 0, 1) := by decide +kernel
theorem dX6_ask_53 : decode cX6_ask 53 = .ok (.invokevirtual 113, 3) := by decide +kernel
theorem dX6_ask_56 : decode cX6_ask 56 = .ok (.aload_n 0, 1) := by decide +kernel
theorem dX6_ask_57 : decode cX6_ask 57 = .ok (.getfield 46, 3) := by decide +kernel
theorem dX6_ask_60 : decode cX6_ask 60 = .ok (.getfield 123, 3) := by decide +kernel
theorem dX6_ask_63 : decode cX6_ask 63 = .ok (.ireturn, 1) := by decide +kernel
theorem dX6_ask_64 : decode cX6_ask 64 = .ok (.aload_n 0, 1) := by decide +kernel
theorem dX6_ask_65 : decode cX6_ask 65 = .ok (.getfield 46, 3) := by decide +kernel
theorem dX6_ask_68 : decode cX6_ask 68 = .ok (.aload_n 0, 1) := by decide +kernel
theorem dX6_ask_69 : decode cX6_ask 69 = .ok (.getfield 19, 3) := by decide +kernel
theorem dX6_ask_72 : decode cX6_ask 72 = .ok (.iconst 0, 1) := by decide +kernel
theorem dX6_ask_73 : decode cX6_ask 73 = .ok (.invokevirtual 113, 3) := by decide +kernel
theorem dX6_ask_76 : decode cX6_ask 76 = .ok (.aload_n 0, 1) := by decide +kernel
theorem dX6_ask_77 : decode cX6_ask 77 = .ok (.getfield 46, 3) := by decide +kernel
theorem dX6_ask_80 : decode cX6_ask 80 = .ok (.getfield 151, 3) := by decide +kernel
theorem dX6_ask_83 : decode cX6_ask 83 = .ok (.ireturn, 1) := by decide +kernel
theorem dX6_ask_84 : decode cX6_ask 84 = .ok (.aload_n 0, 1) := by decide +kernel
theorem dX6_ask_85 : decode cX6_ask 85 = .ok (.aload_n 0, 1) := by decide +kernel
theorem dX6_ask_86 : decode cX6_ask 86 = .ok (.getfield 19, 3) := by decide +kernel
theorem dX6_ask_89 : decode cX6_ask 89 = .ok (.invokevirtual 183, 3) := by decide +kernel
theorem dX6_ask_92 : decode cX6_ask 92 = .ok (.ireturn, 1) := by decide +kernel
theorem dX6_ask_93 : decode cX6_ask 93 = .ok (.aload_n 0, 1) := by decide +kernel
theorem dX6_ask_94 : decode cX6_ask 94 = .ok (.invokevirtual 186, 3) := by decide +kernel
theorem dX6_ask_97 : decode cX6_ask 97 = .ok (.ireturn, 1) := by decide +kernel
theorem dX6_ask_98 : decode cX6_ask 98 = .ok (.aload_n 0, 1) := by decide +kernel
theorem dX6_ask_99 : decode cX6_ask 99 = .ok (.invokevirtual 190, 3) := by decide +kernel
theorem dX6_ask_102 : decode cX6_ask 102 = .ok (.ireturn, 1) := by decide +kernel
theorem dX6_ask_103 : decode cX6_ask 103 = .ok (.aload_n 0, 1) := by decide +kernel
theorem dX6_ask_104 : decode cX6_ask 104 = .ok (.getfield 46, 3) := by decide +kernel
theorem dX6_ask_107 : decode cX6_ask 107 = .ok (.aload_n 0, 1) := by decide +kernel
theorem dX6_ask_108 : decode cX6_ask 108 = .ok (.getfield 19, 3) := by decide +kernel
theorem dX6_ask_111 : decode cX6_ask 111 = .ok (.invokevirtual 193, 3) := by decide +kernel
theorem dX6_ask_114 : decode cX6_ask 114 = .ok (.ireturn, 1) := by decide +kernel
theorem dX6_ask_115 : decode cX6_ask 115 = .ok (.aload_n 0, 1) := by decide +kernel
theorem dX6_ask_116 : decode cX6_ask 116 = .ok (.getfield 46, 3) := by decide +kernel
theorem dX6_ask_119 : decode cX6_ask 119 = .ok (.aload_n 0, 1) := by decide +kernel
theorem dX6_ask_120 : decode cX6_ask 120 = .ok (.getfield 19, 3) := by decide +kernel
theorem dX6_ask_123 : decode cX6_ask 123 = .ok (.iconst 0, 1) := by decide +kernel
theorem dX6_ask_124 : decode cX6_ask 124 = .ok (.invokevirtual 113, 3) := by decide +kernel
theorem dX6_ask_127 : decode cX6_ask 127 = .ok (.aload_n 0, 1) := by decide +kernel
theorem dX6_ask_128 : decode cX6_ask 128 = .ok (.getfield 46, 3) := by decide +kernel
theorem dX6_ask_131 : decode cX6_ask 131 = .ok (.getfield 196, 3) := by decide +kernel
theorem dX6_ask_134 : decode cX6_ask 134 = .ok (.ireturn, 1) := by decide +kernel
theorem dX6_ask_135 : decode cX6_ask 135 = .ok (.bipush (-2), 2) := by decide +kernel
theorem dX6_ask_137 : decode cX6_ask 137 = .ok (.ireturn, 1) := by decide +kernel
theorem dX6_on_0 : decode cX6_on 0 = .ok (.aload_n 0, 1) := by decide +kernel
theorem dX6_on_1 : decode cX6_on 1 = .ok (.getfield 19, 3) := by decide +kernel
theorem dX6_on_4 : decode cX6_on 4 = .ok (.getfield 141, 3) := by decide +kernel
theorem dX6_on_7 : decode cX6_on 7 = .ok (.bipush 10, 2) := by decide +kernel
theorem dX6_on_9 : decode cX6_on 9 = .ok (.if_icmp .ge 13, 3) := by decide +kernel
theorem dX6_on_12 : decode cX6_on 12 = .ok (.aload_n 0, 1) := by decide +kernel
theorem dX6_on_13 : decode cX6_on 13 = .ok (.getfield 19, 3) := by decide +kernel
theorem dX6_on_16 : decode cX6_on 16 = .ok (.getfield 103, 3) := by decide +kernel
theorem dX6_on_19 : decode cX6_on 19 = .ok (.ifCond .ne 6, 3) := by decide +kernel
theorem dX6_on_22 : decode cX6_on 22 = .ok (.bipush (-3), 2) := by decide +kernel
theorem dX6_on_24 : decode cX6_on 24 = .ok (.ireturn, 1) := by decide +kernel
theorem dX6_on_25 : decode cX6_on 25 = .ok (.aload_n 0, 1) := by decide +kernel
theorem dX6_on_26 : decode cX6_on 26 = .ok (.getfield 46, 3) := by decide +kernel
theorem dX6_on_29 : decode cX6_on 29 = .ok (.aload_n 0, 1) := by decide +kernel
theorem dX6_on_30 : decode cX6_on 30 = .ok (.getfield 19, 3) := by decide +kernel
theorem dX6_on_33 : decode cX6_on 33 = .ok (.invokevirtual 199, 3) := by decide +kernel
theorem dX6_on_36 : decode cX6_on 36 = .ok (.iconst 1, 1) := by decide +kernel
theorem dX6_on_37 : decode cX6_on 37 = .ok (.aload_n 0, 1) := by decide +kernel
theorem dX6_on_38 : decode cX6_on 38 = .ok (.getfield 19, 3) := by decide +kernel
theorem dX6_on_41 : decode cX6_on 41 = .ok (.getfield 141, 3) := by decide +kernel
theorem dX6_on_44 : decode cX6_on 44 = .ok (.iconst 1, 1) := by decide +kernel
theorem dX6_on_45 : decode cX6_on 45 = .ok (.iadd, 1) := by decide +kernel
theorem dX6_on_46 : decode cX6_on 46 = .ok (.ishl, 1) := by decide +kernel
theorem dX6_on_47 : decode cX6_on 47 = .ok (.istore_n 1, 1) := by decide +kernel
theorem dX6_on_48 : decode cX6_on 48 = .ok (.iconst 0, 1) := by decide +kernel
theorem dX6_on_49 : decode cX6_on 49 = .ok (.istore_n 2, 1) := by decide +kernel
theorem dX6_on_50 : decode cX6_on 50 = .ok (.iconst 0, 1) := by decide +kernel
theorem dX6_on_51 : decode cX6_on 51 = .ok (.istore_n 3, 1) := by decide +kernel
theorem dX6_on_52 : decode cX6_on 52 = .ok (.iload_n 3, 1) := by decide +kernel
theorem dX6_on_53 : decode cX6_on 53 = .ok (.aload_n 0, 1) := by decide +kernel
theorem dX6_on_54 : decode cX6_on 54 = .ok (.getfield 19, 3) := by decide +kernel
theorem dX6_on_57 : decode cX6_on 57 = .ok (.getfield 202, 3) := by decide +kernel
theorem dX6_on_60 : decode cX6_on 60 = .ok (.if_icmp .ge 38, 3) := by decide +kernel
theorem dX6_on_63 : decode cX6_on 63 = .ok (.aload_n 0, 1) := by decide +kernel
theorem dX6_on_64 : decode cX6_on 64 = .ok (.getfield 46, 3) := by decide +kernel
theorem dX6_on_67 : decode cX6_on 67 = .ok (.getfield 205, 3) := by decide +kernel
theorem dX6_on_70 : decode cX6_on 70 = .ok (.aload_n 0, 1) := by decide +kernel
theorem dX6_on_71 : decode cX6_on 71 = .ok (.getfield 19, 3) := by decide +kernel
theorem dX6_on_74 : decode cX6_on 74 = .ok (.iload_n 3, 1) := by decide +kernel
theorem dX6_on_75 : decode cX6_on 75 = .ok (.invokevirtual 209, 3) := by decide +kernel
theorem dX6_on_78 : decode cX6_on 78 = .ok (.iload_n 1, 1) := by decide +kernel
theorem dX6_on_79 : decode cX6_on 79 = .ok (.ior, 1) := by decide +kernel
theorem dX6_on_80 : decode cX6_on 80 = .ok (.invokevirtual 212, 3) := by decide +kernel
theorem dX6_on_83 : decode cX6_on 83 = .ok (.ifCond .ne 9, 3) := by decide +kernel
theorem dX6_on_86 : decode cX6_on 86 = .ok (.iload_n 2, 1) := by decide +kernel
theorem dX6_on_87 : decode cX6_on 87 = .ok (.iconst 1, 1) := by decide +kernel
theorem dX6_on_88 : decode cX6_on 88 = .ok (.iload_n 3, 1) := by decide +kernel
theorem dX6_on_89 : decode cX6_on 89 = .ok (.ishl, 1) := by decide +kernel
theorem dX6_on_90 : decode cX6_on 90 = .ok (.ior, 1) := by decide +kernel
theorem dX6_on_91 : decode cX6_on 91 = .ok (.istore_n 2, 1) := by decide +kernel
theorem dX6_on_92 : decode cX6_on 92 = .ok (.iinc 3 1, 3) := by decide +kernel
theorem dX6_on_95 : decode cX6_on 95 = .ok (.goto (-43), 3) := by decide +kernel
theorem dX6_on_98 : decode cX6_on 98 = .ok (.iload_n 2, 1) := by decide +kernel
theorem dX6_on_99 : decode cX6_on 99 = .ok (.ireturn, 1) := by decide +kernel
theorem dX6_judge_0 : decode cX6_judge 0 = .ok (.iload_n 1, 1) := by decide +kernel
theorem dX6_judge_1 : decode cX6_judge 1 = .ok (.iconst 1, 1) := by decide +kernel
theorem dX6_judge_2 : decode cX6_judge 2 = .ok (.if_icmp .lt 24, 3) := by decide +kernel
theorem dX6_judge_5 : decode cX6_judge 5 = .ok (.iload_n 1, 1) := by decide +kernel
theorem dX6_judge_6 : decode cX6_judge 6 = .ok (.iconst 4, 1) := by decide +kernel
theorem dX6_judge_7 : decode cX6_judge 7 = .ok (.if_icmp .gt 19, 3) := by decide +kernel
theorem dX6_judge_10 : decode cX6_judge 10 = .ok (.lload_n 2, 1) := by decide +kernel
theorem dX6_judge_11 : decode cX6_judge 11 = .ok (.lconst 0, 1) := by decide +kernel
theorem dX6_judge_12 : decode cX6_judge 12 = .ok (.lcmp, 1) := by decide +kernel
theorem dX6_judge_13 : decode cX6_judge 13 = .ok (.ifCond .lt 13, 3) := by decide +kernel
theorem dX6_judge_16 : decode cX6_judge 16 = .ok (.lload_n 2, 1) := by decide +kernel
theorem dX6_judge_17 : decode cX6_judge 17 = .ok (.iload_n 1, 1) := by decide +kernel
theorem dX6_judge_18 : decode cX6_judge 18 = .ok (.invokestatic 217, 3) := by decide +kernel
theorem dX6_judge_21 : decode cX6_judge 21 = .ok (.lconst 0, 1) := by decide +kernel
theorem dX6_judge_22 : decode cX6_judge 22 = .ok (.lcmp, 1) := by decide +kernel
theorem dX6_judge_23 : decode cX6_judge 23 = .ok (.ifCond .eq 6, 3) := by decide +kernel
theorem dX6_judge_26 : decode cX6_judge 26 = .ok (.bipush (-2), 2) := by decide +kernel
theorem dX6_judge_28 : decode cX6_judge 28 = .ok (.ireturn, 1) := by decide +kernel
theorem dX6_judge_29 : decode cX6_judge 29 = .ok (.aload_n 0, 1) := by decide +kernel
theorem dX6_judge_30 : decode cX6_judge 30 = .ok (.getfield 26, 3) := by decide +kernel
theorem dX6_judge_33 : decode cX6_judge 33 = .ok (.aload_n 0, 1) := by decide +kernel
theorem dX6_judge_34 : decode cX6_judge 34 = .ok (.getfield 19, 3) := by decide +kernel
theorem dX6_judge_37 : decode cX6_judge 37 = .ok (.invokevirtual 69, 3) := by decide +kernel
theorem dX6_judge_40 : decode cX6_judge 40 = .ok (.iconst 0, 1) := by decide +kernel
theorem dX6_judge_41 : decode cX6_judge 41 = .ok (.istore 4, 2) := by decide +kernel
theorem dX6_judge_43 : decode cX6_judge 43 = .ok (.iload 4, 2) := by decide +kernel
theorem dX6_judge_45 : decode cX6_judge 45 = .ok (.iload_n 1, 1) := by decide +kernel
theorem dX6_judge_46 : decode cX6_judge 46 = .ok (.if_icmp .ge 34, 3) := by decide +kernel
theorem dX6_judge_49 : decode cX6_judge 49 = .ok (.aload_n 0, 1) := by decide +kernel
theorem dX6_judge_50 : decode cX6_judge 50 = .ok (.lload_n 2, 1) := by decide +kernel
theorem dX6_judge_51 : decode cX6_judge 51 = .ok (.iload_n 1, 1) := by decide +kernel
theorem dX6_judge_52 : decode cX6_judge 52 = .ok (.iconst 1, 1) := by decide +kernel
theorem dX6_judge_53 : decode cX6_judge 53 = .ok (.isub, 1) := by decide +kernel
theorem dX6_judge_54 : decode cX6_judge 54 = .ok (.iload 4, 2) := by decide +kernel
theorem dX6_judge_56 : decode cX6_judge 56 = .ok (.isub, 1) := by decide +kernel
theorem dX6_judge_57 : decode cX6_judge 57 = .ok (.invokestatic 217, 3) := by decide +kernel
theorem dX6_judge_60 : decode cX6_judge 60 = .ok (.ldc2_w 221, 3) := by decide +kernel
theorem dX6_judge_63 : decode cX6_judge 63 = .ok (.lrem, 1) := by decide +kernel
theorem dX6_judge_64 : decode cX6_judge 64 = .ok (.l2i, 1) := by decide +kernel
theorem dX6_judge_65 : decode cX6_judge 65 = .ok (.invokevirtual 223, 3) := by decide +kernel
theorem dX6_judge_68 : decode cX6_judge 68 = .ok (.ifCond .ne 6, 3) := by decide +kernel
theorem dX6_judge_71 : decode cX6_judge 71 = .ok (.iload 4, 2) := by decide +kernel
theorem dX6_judge_73 : decode cX6_judge 73 = .ok (.ireturn, 1) := by decide +kernel
theorem dX6_judge_74 : decode cX6_judge 74 = .ok (.iinc 4 1, 3) := by decide +kernel
theorem dX6_judge_77 : decode cX6_judge 77 = .ok (.goto (-34), 3) := by decide +kernel
theorem dX6_judge_80 : decode cX6_judge 80 = .ok (.bipush (-9), 2) := by decide +kernel
theorem dX6_judge_82 : decode cX6_judge 82 = .ok (.ireturn, 1) := by decide +kernel
theorem dX6_see_0 : decode cX6_see 0 = .ok (.iload_n 1, 1) := by decide +kernel
theorem dX6_see_1 : decode cX6_see 1 = .ok (.iconst 1, 1) := by decide +kernel
theorem dX6_see_2 : decode cX6_see 2 = .ok (.if_icmp .lt 34, 3) := by decide +kernel
theorem dX6_see_5 : decode cX6_see 5 = .ok (.iload_n 1, 1) := by decide +kernel
theorem dX6_see_6 : decode cX6_see 6 = .ok (.bipush 10, 2) := by decide +kernel
theorem dX6_see_8 : decode cX6_see 8 = .ok (.if_icmp .gt 28, 3) := by decide +kernel
theorem dX6_see_11 : decode cX6_see 11 = .ok (.iload_n 2, 1) := by decide +kernel
theorem dX6_see_12 : decode cX6_see 12 = .ok (.iconst 1, 1) := by decide +kernel
theorem dX6_see_13 : decode cX6_see 13 = .ok (.if_icmp .lt 23, 3) := by decide +kernel
theorem dX6_see_16 : decode cX6_see 16 = .ok (.iload_n 2, 1) := by decide +kernel
theorem dX6_see_17 : decode cX6_see 17 = .ok (.bipush 10, 2) := by decide +kernel
theorem dX6_see_19 : decode cX6_see 19 = .ok (.if_icmp .gt 17, 3) := by decide +kernel
theorem dX6_see_22 : decode cX6_see 22 = .ok (.iload_n 1, 1) := by decide +kernel
theorem dX6_see_23 : decode cX6_see 23 = .ok (.iload_n 2, 1) := by decide +kernel
theorem dX6_see_24 : decode cX6_see 24 = .ok (.if_icmp .eq 12, 3) := by decide +kernel
theorem dX6_see_27 : decode cX6_see 27 = .ok (.iload_n 3, 1) := by decide +kernel
theorem dX6_see_28 : decode cX6_see 28 = .ok (.ifCond .lt 8, 3) := by decide +kernel
theorem dX6_see_31 : decode cX6_see 31 = .ok (.iload_n 3, 1) := by decide +kernel
theorem dX6_see_32 : decode cX6_see 32 = .ok (.iconst 1, 1) := by decide +kernel
theorem dX6_see_33 : decode cX6_see 33 = .ok (.if_icmp .le 6, 3) := by decide +kernel
theorem dX6_see_36 : decode cX6_see 36 = .ok (.bipush (-2), 2) := by decide +kernel
theorem dX6_see_38 : decode cX6_see 38 = .ok (.ireturn, 1) := by decide +kernel
theorem dX6_see_39 : decode cX6_see 39 = .ok (.aload_n 0, 1) := by decide +kernel
theorem dX6_see_40 : decode cX6_see 40 = .ok (.getfield 46, 3) := by decide +kernel
theorem dX6_see_43 : decode cX6_see 43 = .ok (.getfield 226, 3) := by decide +kernel
theorem dX6_see_46 : decode cX6_see 46 = .ok (.iconst 1, 1) := by decide +kernel
theorem dX6_see_47 : decode cX6_see 47 = .ok (.iload_n 1, 1) := by decide +kernel
theorem dX6_see_48 : decode cX6_see 48 = .ok (.ishl, 1) := by decide +kernel
theorem dX6_see_49 : decode cX6_see 49 = .ok (.iconst 1, 1) := by decide +kernel
theorem dX6_see_50 : decode cX6_see 50 = .ok (.iload_n 2, 1) := by decide +kernel
theorem dX6_see_51 : decode cX6_see 51 = .ok (.ishl, 1) := by decide +kernel
theorem dX6_see_52 : decode cX6_see 52 = .ok (.ior, 1) := by decide +kernel
theorem dX6_see_53 : decode cX6_see 53 = .ok (.iload_n 3, 1) := by decide +kernel
theorem dX6_see_54 : decode cX6_see 54 = .ok (.iconst 1, 1) := by decide +kernel
theorem dX6_see_55 : decode cX6_see 55 = .ok (.if_icmp .ne 7, 3) := by decide +kernel
theorem dX6_see_58 : decode cX6_see 58 = .ok (.iconst 1, 1) := by decide +kernel
theorem dX6_see_59 : decode cX6_see 59 = .ok (.goto 4, 3) := by decide +kernel
theorem dX6_see_62 : decode cX6_see 62 = .ok (.iconst 0, 1) := by decide +kernel
theorem dX6_see_63 : decode cX6_see 63 = .ok (.invokevirtual 230, 3) := by decide +kernel
theorem dX6_see_66 : decode cX6_see 66 = .ok (.ifCond .eq 16, 3) := by decide +kernel
theorem dX6_see_69 : decode cX6_see 69 = .ok (.aload_n 0, 1) := by decide +kernel
theorem dX6_see_70 : decode cX6_see 70 = .ok (.getfield 46, 3) := by decide +kernel
theorem dX6_see_73 : decode cX6_see 73 = .ok (.getfield 226, 3) := by decide +kernel
theorem dX6_see_76 : decode cX6_see 76 = .ok (.getfield 236, 3) := by decide +kernel
theorem dX6_see_79 : decode cX6_see 79 = .ok (.goto 5, 3) := by decide +kernel
theorem dX6_see_82 : decode cX6_see 82 = .ok (.bipush (-4), 2) := by decide +kernel
theorem dX6_see_84 : decode cX6_see 84 = .ok (.ireturn, 1) := by decide +kernel
theorem dX6_unsee_0 : decode cX6_unsee 0 = .ok (.aload_n 0, 1) := by decide +kernel
theorem dX6_unsee_1 : decode cX6_unsee 1 = .ok (.getfield 46, 3) := by decide +kernel
theorem dX6_unsee_4 : decode cX6_unsee 4 = .ok (.getfield 226, 3) := by decide +kernel
theorem dX6_unsee_7 : decode cX6_unsee 7 = .ok (.getfield 236, 3) := by decide +kernel
theorem dX6_unsee_10 : decode cX6_unsee 10 = .ok (.istore_n 1, 1) := by decide +kernel
theorem dX6_unsee_11 : decode cX6_unsee 11 = .ok (.aload_n 0, 1) := by decide +kernel
theorem dX6_unsee_12 : decode cX6_unsee 12 = .ok (.getfield 46, 3) := by decide +kernel
theorem dX6_unsee_15 : decode cX6_unsee 15 = .ok (.getfield 226, 3) := by decide +kernel
theorem dX6_unsee_18 : decode cX6_unsee 18 = .ok (.iconst 0, 1) := by decide +kernel
theorem dX6_unsee_19 : decode cX6_unsee 19 = .ok (.putfield 236, 3) := by decide +kernel
theorem dX6_unsee_22 : decode cX6_unsee 22 = .ok (.iload_n 1, 1) := by decide +kernel
theorem dX6_unsee_23 : decode cX6_unsee 23 = .ok (.ireturn, 1) := by decide +kernel
theorem dX6_which_0 : decode cX6_which 0 = .ok (.iload_n 1, 1) := by decide +kernel
theorem dX6_which_1 : decode cX6_which 1 = .ok (.ifCond .lt 8, 3) := by decide +kernel
theorem dX6_which_4 : decode cX6_which 4 = .ok (.iload_n 1, 1) := by decide +kernel
theorem dX6_which_5 : decode cX6_which 5 = .ok (.iconst 1, 1) := by decide +kernel
theorem dX6_which_6 : decode cX6_which 6 = .ok (.if_icmp .le 6, 3) := by decide +kernel
theorem dX6_which_9 : decode cX6_which 9 = .ok (.bipush (-2), 2) := by decide +kernel
theorem dX6_which_11 : decode cX6_which 11 = .ok (.ireturn, 1) := by decide +kernel
theorem dX6_which_12 : decode cX6_which 12 = .ok (.aload_n 0, 1) := by decide +kernel
theorem dX6_which_13 : decode cX6_which 13 = .ok (.getfield 46, 3) := by decide +kernel
theorem dX6_which_16 : decode cX6_which 16 = .ok (.aload_n 0, 1) := by decide +kernel
theorem dX6_which_17 : decode cX6_which 17 = .ok (.getfield 19, 3) := by decide +kernel
theorem dX6_which_20 : decode cX6_which 20 = .ok (.iconst 0, 1) := by decide +kernel
theorem dX6_which_21 : decode cX6_which 21 = .ok (.invokevirtual 113, 3) := by decide +kernel
theorem dX6_which_24 : decode cX6_which 24 = .ok (.iload_n 1, 1) := by decide +kernel
theorem dX6_which_25 : decode cX6_which 25 = .ok (.ifCond .ne 13, 3) := by decide +kernel
theorem dX6_which_28 : decode cX6_which 28 = .ok (.aload_n 0, 1) := by decide +kernel
theorem dX6_which_29 : decode cX6_which 29 = .ok (.getfield 46, 3) := by decide +kernel
theorem dX6_which_32 : decode cX6_which 32 = .ok (.getfield 237, 3) := by decide +kernel
theorem dX6_which_35 : decode cX6_which 35 = .ok (.goto 10, 3) := by decide +kernel
theorem dX6_which_38 : decode cX6_which 38 = .ok (.aload_n 0, 1) := by decide +kernel
theorem dX6_which_39 : decode cX6_which 39 = .ok (.getfield 46, 3) := by decide +kernel
theorem dX6_which_42 : decode cX6_which 42 = .ok (.getfield 240, 3) := by decide +kernel
theorem dX6_which_45 : decode cX6_which 45 = .ok (.ireturn, 1) := by decide +kernel
theorem dX6_share_0 : decode cX6_share 0 = .ok (.aload_n 0, 1) := by decide +kernel
theorem dX6_share_1 : decode cX6_share 1 = .ok (.getfield 19, 3) := by decide +kernel
theorem dX6_share_4 : decode cX6_share 4 = .ok (.iload_n 1, 1) := by decide +kernel
theorem dX6_share_5 : decode cX6_share 5 = .ok (.invokevirtual 83, 3) := by decide +kernel
theorem dX6_share_8 : decode cX6_share 8 = .ok (.ifCond .ne 5, 3) := by decide +kernel
theorem dX6_share_11 : decode cX6_share 11 = .ok (.iconst (-1), 1) := by decide +kernel
theorem dX6_share_12 : decode cX6_share 12 = .ok (.ireturn, 1) := by decide +kernel
theorem dX6_share_13 : decode cX6_share 13 = .ok (.aload_n 0, 1) := by decide +kernel
theorem dX6_share_14 : decode cX6_share 14 = .ok (.getfield 46, 3) := by decide +kernel
theorem dX6_share_17 : decode cX6_share 17 = .ok (.aload_n 0, 1) := by decide +kernel
theorem dX6_share_18 : decode cX6_share 18 = .ok (.getfield 19, 3) := by decide +kernel
theorem dX6_share_21 : decode cX6_share 21 = .ok (.invokevirtual 243, 3) := by decide +kernel
theorem dX6_share_24 : decode cX6_share 24 = .ok (.aload_n 0, 1) := by decide +kernel
theorem dX6_share_25 : decode cX6_share 25 = .ok (.getfield 19, 3) := by decide +kernel
theorem dX6_share_28 : decode cX6_share 28 = .ok (.getfield 164, 3) := by decide +kernel
theorem dX6_share_31 : decode cX6_share 31 = .ok (.istore_n 3, 1) := by decide +kernel
theorem dX6_share_32 : decode cX6_share 32 = .ok (.lconst 0, 1) := by decide +kernel
theorem dX6_share_33 : decode cX6_share 33 = .ok (.lstore 4, 2) := by decide +kernel
theorem dX6_share_35 : decode cX6_share 35 = .ok (.iconst 0, 1) := by decide +kernel
theorem dX6_share_36 : decode cX6_share 36 = .ok (.istore 6, 2) := by decide +kernel
theorem dX6_share_38 : decode cX6_share 38 = .ok (.iload 6, 2) := by decide +kernel
theorem dX6_share_40 : decode cX6_share 40 = .ok (.iconst 1, 1) := by decide +kernel
theorem dX6_share_41 : decode cX6_share 41 = .ok (.iload_n 3, 1) := by decide +kernel
theorem dX6_share_42 : decode cX6_share 42 = .ok (.ishl, 1) := by decide +kernel
theorem dX6_share_43 : decode cX6_share 43 = .ok (.if_icmp .ge 74, 3) := by decide +kernel
theorem dX6_share_46 : decode cX6_share 46 = .ok (.iload 6, 2) := by decide +kernel
theorem dX6_share_48 : decode cX6_share 48 = .ok (.iload_n 1, 1) := by decide +kernel
theorem dX6_share_49 : decode cX6_share 49 = .ok (.ishr, 1) := by decide +kernel
theorem dX6_share_50 : decode cX6_share 50 = .ok (.iconst 1, 1) := by decide +kernel
theorem dX6_share_51 : decode cX6_share 51 = .ok (.iand, 1) := by decide +kernel
theorem dX6_share_52 : decode cX6_share 52 = .ok (.ifCond .ne 59, 3) := by decide +kernel
theorem dX6_share_55 : decode cX6_share 55 = .ok (.iload 6, 2) := by decide +kernel
theorem dX6_share_57 : decode cX6_share 57 = .ok (.invokestatic 246, 3) := by decide +kernel
theorem dX6_share_60 : decode cX6_share 60 = .ok (.istore 7, 2) := by decide +kernel
theorem dX6_share_62 : decode cX6_share 62 = .ok (.iload 7, 2) := by decide +kernel
theorem dX6_share_64 : decode cX6_share 64 = .ok (.invokestatic 251, 3) := by decide +kernel
theorem dX6_share_67 : decode cX6_share 67 = .ok (.iload_n 3, 1) := by decide +kernel
theorem dX6_share_68 : decode cX6_share 68 = .ok (.iconst 1, 1) := by decide +kernel
theorem dX6_share_69 : decode cX6_share 69 = .ok (.isub, 1) := by decide +kernel
theorem dX6_share_70 : decode cX6_share 70 = .ok (.iload 7, 2) := by decide +kernel
theorem dX6_share_72 : decode cX6_share 72 = .ok (.isub, 1) := by decide +kernel
theorem dX6_share_73 : decode cX6_share 73 = .ok (.invokestatic 251, 3) := by decide +kernel
theorem dX6_share_76 : decode cX6_share 76 = .ok (.lmul, 1) := by decide +kernel
theorem dX6_share_77 : decode cX6_share 77 = .ok (.lstore 8, 2) := by decide +kernel
theorem dX6_share_79 : decode cX6_share 79 = .ok (.lload 4, 2) := by decide +kernel
theorem dX6_share_81 : decode cX6_share 81 = .ok (.lload 8, 2) := by decide +kernel
theorem dX6_share_83 : decode cX6_share 83 = .ok (.aload_n 0, 1) := by decide +kernel
theorem dX6_share_84 : decode cX6_share 84 = .ok (.getfield 46, 3) := by decide +kernel
theorem dX6_share_87 : decode cX6_share 87 = .ok (.iload 6, 2) := by decide +kernel
theorem dX6_share_89 : decode cX6_share 89 = .ok (.invokevirtual 255, 3) := by decide +kernel
theorem dX6_share_92 : decode cX6_share 92 = .ok (.aload_n 0, 1) := by decide +kernel
theorem dX6_share_93 : decode cX6_share 93 = .ok (.getfield 46, 3) := by decide +kernel
theorem dX6_share_96 : decode cX6_share 96 = .ok (.iload 6, 2) := by decide +kernel
theorem dX6_share_98 : decode cX6_share 98 = .ok (.iconst 1, 1) := by decide +kernel
theorem dX6_share_99 : decode cX6_share 99 = .ok (.iload_n 1, 1) := by decide +kernel
theorem dX6_share_100 : decode cX6_share 100 = .ok (.ishl, 1) := by decide +kernel
theorem dX6_share_101 : decode cX6_share 101 = .ok (.ior, 1) := by decide +kernel
theorem dX6_share_102 : decode cX6_share 102 = .ok (.invokevirtual 255, 3) := by decide +kernel
theorem dX6_share_105 : decode cX6_share 105 = .ok (.isub, 1) := by decide +kernel
theorem dX6_share_106 : decode cX6_share 106 = .ok (.i2l, 1) := by decide +kernel
theorem dX6_share_107 : decode cX6_share 107 = .ok (.lmul, 1) := by decide +kernel
theorem dX6_share_108 : decode cX6_share 108 = .ok (.ladd, 1) := by decide +kernel
theorem dX6_share_109 : decode cX6_share 109 = .ok (.lstore 4, 2) := by decide +kernel
theorem dX6_share_111 : decode cX6_share 111 = .ok (.iinc 6 1, 3) := by decide +kernel
theorem dX6_share_114 : decode cX6_share 114 = .ok (.goto (-76), 3) := by decide +kernel
theorem dX6_share_117 : decode cX6_share 117 = .ok (.lload 4, 2) := by decide +kernel
theorem dX6_share_119 : decode cX6_share 119 = .ok (.iload_n 3, 1) := by decide +kernel
theorem dX6_share_120 : decode cX6_share 120 = .ok (.invokestatic 251, 3) := by decide +kernel
theorem dX6_share_123 : decode cX6_share 123 = .ok (.iload_n 2, 1) := by decide +kernel
theorem dX6_share_124 : decode cX6_share 124 = .ok (.invokestatic 258, 3) := by decide +kernel
theorem dX6_share_127 : decode cX6_share 127 = .ok (.ireturn, 1) := by decide +kernel
theorem dX6_luck_0 : decode cX6_luck 0 = .ok (.aload_n 0, 1) := by decide +kernel
theorem dX6_luck_1 : decode cX6_luck 1 = .ok (.getfield 46, 3) := by decide +kernel
theorem dX6_luck_4 : decode cX6_luck 4 = .ok (.aload_n 0, 1) := by decide +kernel
theorem dX6_luck_5 : decode cX6_luck 5 = .ok (.getfield 19, 3) := by decide +kernel
theorem dX6_luck_8 : decode cX6_luck 8 = .ok (.iconst 0, 1) := by decide +kernel
theorem dX6_luck_9 : decode cX6_luck 9 = .ok (.invokevirtual 113, 3) := by decide +kernel
theorem dX6_luck_12 : decode cX6_luck 12 = .ok (.aload_n 0, 1) := by decide +kernel
theorem dX6_luck_13 : decode cX6_luck 13 = .ok (.getfield 46, 3) := by decide +kernel
theorem dX6_luck_16 : decode cX6_luck 16 = .ok (.getfield 123, 3) := by decide +kernel
theorem dX6_luck_19 : decode cX6_luck 19 = .ok (.i2l, 1) := by decide +kernel
theorem dX6_luck_20 : decode cX6_luck 20 = .ok (.aload_n 0, 1) := by decide +kernel
theorem dX6_luck_21 : decode cX6_luck 21 = .ok (.getfield 19, 3) := by decide +kernel
theorem dX6_luck_24 : decode cX6_luck 24 = .ok (.getfield 202, 3) := by decide +kernel
theorem dX6_luck_27 : decode cX6_luck 27 = .ok (.aload_n 0, 1) := by decide +kernel
theorem dX6_luck_28 : decode cX6_luck 28 = .ok (.getfield 19, 3) := by decide +kernel
theorem dX6_luck_31 : decode cX6_luck 31 = .ok (.getfield 141, 3) := by decide +kernel
theorem dX6_luck_34 : decode cX6_luck 34 = .ok (.invokestatic 262, 3) := by decide +kernel
theorem dX6_luck_37 : decode cX6_luck 37 = .ok (.iload_n 1, 1) := by decide +kernel
theorem dX6_luck_38 : decode cX6_luck 38 = .ok (.invokestatic 258, 3) := by decide +kernel
theorem dX6_luck_41 : decode cX6_luck 41 = .ok (.ireturn, 1) := by decide +kernel
theorem dX6_lost_0 : decode cX6_lost 0 = .ok (.iload_n 1, 1) := by decide +kernel
theorem dX6_lost_1 : decode cX6_lost 1 = .ok (.ifCond .lt 9, 3) := by decide +kernel
theorem dX6_lost_4 : decode cX6_lost 4 = .ok (.iload_n 1, 1) := by decide +kernel
theorem dX6_lost_5 : decode cX6_lost 5 = .ok (.bipush 10, 2) := by decide +kernel
theorem dX6_lost_7 : decode cX6_lost 7 = .ok (.if_icmp .le 6, 3) := by decide +kernel
theorem dX6_lost_10 : decode cX6_lost 10 = .ok (.bipush (-2), 2) := by decide +kernel
theorem dX6_lost_12 : decode cX6_lost 12 = .ok (.ireturn, 1) := by decide +kernel
theorem dX6_lost_13 : decode cX6_lost 13 = .ok (.aload_n 0, 1) := by decide +kernel
theorem dX6_lost_14 : decode cX6_lost 14 = .ok (.getfield 46, 3) := by decide +kernel
theorem dX6_lost_17 : decode cX6_lost 17 = .ok (.aload_n 0, 1) := by decide +kernel
theorem dX6_lost_18 : decode cX6_lost 18 = .ok (.getfield 19, 3) := by decide +kernel
theorem dX6_lost_21 : decode cX6_lost 21 = .ok (.invokevirtual 243, 3) := by decide +kernel
theorem dX6_lost_24 : decode cX6_lost 24 = .ok (.aload_n 0, 1) := by decide +kernel
theorem dX6_lost_25 : decode cX6_lost 25 = .ok (.getfield 19, 3) := by decide +kernel
theorem dX6_lost_28 : decode cX6_lost 28 = .ok (.getfield 164, 3) := by decide +kernel
theorem dX6_lost_31 : decode cX6_lost 31 = .ok (.istore_n 3, 1) := by decide +kernel
theorem dX6_lost_32 : decode cX6_lost 32 = .ok (.lconst 0, 1) := by decide +kernel
theorem dX6_lost_33 : decode cX6_lost 33 = .ok (.lstore 4, 2) := by decide +kernel
theorem dX6_lost_35 : decode cX6_lost 35 = .ok (.iconst 0, 1) := by decide +kernel
theorem dX6_lost_36 : decode cX6_lost 36 = .ok (.istore 6, 2) := by decide +kernel
theorem dX6_lost_38 : decode cX6_lost 38 = .ok (.iload 6, 2) := by decide +kernel
theorem dX6_lost_40 : decode cX6_lost 40 = .ok (.iconst 1, 1) := by decide +kernel
theorem dX6_lost_41 : decode cX6_lost 41 = .ok (.iload_n 3, 1) := by decide +kernel
theorem dX6_lost_42 : decode cX6_lost 42 = .ok (.ishl, 1) := by decide +kernel
theorem dX6_lost_43 : decode cX6_lost 43 = .ok (.if_icmp .ge 51, 3) := by decide +kernel
theorem dX6_lost_46 : decode cX6_lost 46 = .ok (.aload_n 0, 1) := by decide +kernel
theorem dX6_lost_47 : decode cX6_lost 47 = .ok (.getfield 46, 3) := by decide +kernel
theorem dX6_lost_50 : decode cX6_lost 50 = .ok (.iload 6, 2) := by decide +kernel
theorem dX6_lost_52 : decode cX6_lost 52 = .ok (.invokevirtual 255, 3) := by decide +kernel
theorem dX6_lost_55 : decode cX6_lost 55 = .ok (.ifCond .le 33, 3) := by decide +kernel
theorem dX6_lost_58 : decode cX6_lost 58 = .ok (.iload 6, 2) := by decide +kernel
theorem dX6_lost_60 : decode cX6_lost 60 = .ok (.invokestatic 246, 3) := by decide +kernel
theorem dX6_lost_63 : decode cX6_lost 63 = .ok (.istore 7, 2) := by decide +kernel
theorem dX6_lost_65 : decode cX6_lost 65 = .ok (.lload 4, 2) := by decide +kernel
theorem dX6_lost_67 : decode cX6_lost 67 = .ok (.bipush 10, 2) := by decide +kernel
theorem dX6_lost_69 : decode cX6_lost 69 = .ok (.iload_n 1, 1) := by decide +kernel
theorem dX6_lost_70 : decode cX6_lost 70 = .ok (.isub, 1) := by decide +kernel
theorem dX6_lost_71 : decode cX6_lost 71 = .ok (.iload 7, 2) := by decide +kernel
theorem dX6_lost_73 : decode cX6_lost 73 = .ok (.invokestatic 262, 3) := by decide +kernel
theorem dX6_lost_76 : decode cX6_lost 76 = .ok (.iload_n 1, 1) := by decide +kernel
theorem dX6_lost_77 : decode cX6_lost 77 = .ok (.iload_n 3, 1) := by decide +kernel
theorem dX6_lost_78 : decode cX6_lost 78 = .ok (.iload 7, 2) := by decide +kernel
theorem dX6_lost_80 : decode cX6_lost 80 = .ok (.isub, 1) := by decide +kernel
theorem dX6_lost_81 : decode cX6_lost 81 = .ok (.invokestatic 262, 3) := by decide +kernel
theorem dX6_lost_84 : decode cX6_lost 84 = .ok (.lmul, 1) := by decide +kernel
theorem dX6_lost_85 : decode cX6_lost 85 = .ok (.ladd, 1) := by decide +kernel
theorem dX6_lost_86 : decode cX6_lost 86 = .ok (.lstore 4, 2) := by decide +kernel
theorem dX6_lost_88 : decode cX6_lost 88 = .ok (.iinc 6 1, 3) := by decide +kernel
theorem dX6_lost_91 : decode cX6_lost 91 = .ok (.goto (-53), 3) := by decide +kernel
theorem dX6_lost_94 : decode cX6_lost 94 = .ok (.lload 4, 2) := by decide +kernel
theorem dX6_lost_96 : decode cX6_lost 96 = .ok (.bipush 10, 2) := by decide +kernel
theorem dX6_lost_98 : decode cX6_lost 98 = .ok (.iload_n 3, 1) := by decide +kernel
theorem dX6_lost_99 : decode cX6_lost 99 = .ok (.invokestatic 262, 3) := by decide +kernel
theorem dX6_lost_102 : decode cX6_lost 102 = .ok (.iload_n 2, 1) := by decide +kernel
theorem dX6_lost_103 : decode cX6_lost 103 = .ok (.invokestatic 258, 3) := by decide +kernel
theorem dX6_lost_106 : decode cX6_lost 106 = .ok (.ireturn, 1) := by decide +kernel
theorem dX6_seed_0 : decode cX6_seed 0 = .ok (.aload_n 0, 1) := by decide +kernel
theorem dX6_seed_1 : decode cX6_seed 1 = .ok (.getfield 266, 3) := by decide +kernel
theorem dX6_seed_4 : decode cX6_seed 4 = .ok (.lstore_n 3, 1) := by decide +kernel
theorem dX6_seed_5 : decode cX6_seed 5 = .ok (.aload_n 0, 1) := by decide +kernel
theorem dX6_seed_6 : decode cX6_seed 6 = .ok (.lload_n 1, 1) := by decide +kernel
theorem dX6_seed_7 : decode cX6_seed 7 = .ok (.putfield 266, 3) := by decide +kernel
theorem dX6_seed_10 : decode cX6_seed 10 = .ok (.lload_n 3, 1) := by decide +kernel
theorem dX6_seed_11 : decode cX6_seed 11 = .ok (.lreturn, 1) := by decide +kernel
theorem dX6_drawn_0 : decode cX6_drawn 0 = .ok (.iload_n 1, 1) := by decide +kernel
theorem dX6_drawn_1 : decode cX6_drawn 1 = .ok (.iconst 1, 1) := by decide +kernel
theorem dX6_drawn_2 : decode cX6_drawn 2 = .ok (.if_icmp .lt 9, 3) := by decide +kernel
theorem dX6_drawn_5 : decode cX6_drawn 5 = .ok (.iload_n 1, 1) := by decide +kernel
theorem dX6_drawn_6 : decode cX6_drawn 6 = .ok (.bipush 9, 2) := by decide +kernel
theorem dX6_drawn_8 : decode cX6_drawn 8 = .ok (.if_icmp .le 6, 3) := by decide +kernel
theorem dX6_drawn_11 : decode cX6_drawn 11 = .ok (.bipush (-2), 2) := by decide +kernel
theorem dX6_drawn_13 : decode cX6_drawn 13 = .ok (.ireturn, 1) := by decide +kernel
theorem dX6_drawn_14 : decode cX6_drawn 14 = .ok (.iconst 0, 1) := by decide +kernel
theorem dX6_drawn_15 : decode cX6_drawn 15 = .ok (.istore_n 2, 1) := by decide +kernel
theorem dX6_drawn_16 : decode cX6_drawn 16 = .ok (.iconst 0, 1) := by decide +kernel
theorem dX6_drawn_17 : decode cX6_drawn 17 = .ok (.istore_n 3, 1) := by decide +kernel
theorem dX6_drawn_18 : decode cX6_drawn 18 = .ok (.iload_n 3, 1) := by decide +kernel
theorem dX6_drawn_19 : decode cX6_drawn 19 = .ok (.iload_n 1, 1) := by decide +kernel
theorem dX6_drawn_20 : decode cX6_drawn 20 = .ok (.if_icmp .ge 16, 3) := by decide +kernel
theorem dX6_drawn_23 : decode cX6_drawn 23 = .ok (.iload_n 2, 1) := by decide +kernel
theorem dX6_drawn_24 : decode cX6_drawn 24 = .ok (.aload_n 0, 1) := by decide +kernel
theorem dX6_drawn_25 : decode cX6_drawn 25 = .ok (.invokevirtual 270, 3) := by decide +kernel
theorem dX6_drawn_28 : decode cX6_drawn 28 = .ok (.iadd, 1) := by decide +kernel
theorem dX6_drawn_29 : decode cX6_drawn 29 = .ok (.istore_n 2, 1) := by decide +kernel
theorem dX6_drawn_30 : decode cX6_drawn 30 = .ok (.iinc 3 1, 3) := by decide +kernel
theorem dX6_drawn_33 : decode cX6_drawn 33 = .ok (.goto (-15), 3) := by decide +kernel
theorem dX6_drawn_36 : decode cX6_drawn 36 = .ok (.iload_n 2, 1) := by decide +kernel
theorem dX6_drawn_37 : decode cX6_drawn 37 = .ok (.ireturn, 1) := by decide +kernel
theorem dX6_keep_0 : decode cX6_keep 0 = .ok (.aload_n 0, 1) := by decide +kernel
theorem dX6_keep_1 : decode cX6_keep 1 = .ok (.iload_n 1, 1) := by decide +kernel
theorem dX6_keep_2 : decode cX6_keep 2 = .ok (.invokevirtual 76, 3) := by decide +kernel
theorem dX6_keep_5 : decode cX6_keep 5 = .ok (.astore_n 2, 1) := by decide +kernel
theorem dX6_keep_6 : decode cX6_keep 6 = .ok (.aload_n 2, 1) := by decide +kernel
theorem dX6_keep_7 : decode cX6_keep 7 = .ok (.ifnonnull 5, 3) := by decide +kernel
theorem dX6_keep_10 : decode cX6_keep 10 = .ok (.iconst (-1), 1) := by decide +kernel
theorem dX6_keep_11 : decode cX6_keep 11 = .ok (.ireturn, 1) := by decide +kernel
theorem dX6_keep_12 : decode cX6_keep 12 = .ok (.aload_n 2, 1) := by decide +kernel
theorem dX6_keep_13 : decode cX6_keep 13 = .ok (.aload_n 0, 1) := by decide +kernel
theorem dX6_keep_14 : decode cX6_keep 14 = .ok (.getfield 19, 3) := by decide +kernel
theorem dX6_keep_17 : decode cX6_keep 17 = .ok (.invokevirtual 69, 3) := by decide +kernel
theorem dX6_keep_20 : decode cX6_keep 20 = .ok (.aload_n 0, 1) := by decide +kernel
theorem dX6_keep_21 : decode cX6_keep 21 = .ok (.getfield 19, 3) := by decide +kernel
theorem dX6_keep_24 : decode cX6_keep 24 = .ok (.getfield 141, 3) := by decide +kernel
theorem dX6_keep_27 : decode cX6_keep 27 = .ok (.ireturn, 1) := by decide +kernel
theorem dX6_again_0 : decode cX6_again 0 = .ok (.aload_n 0, 1) := by decide +kernel
theorem dX6_again_1 : decode cX6_again 1 = .ok (.iload_n 1, 1) := by decide +kernel
theorem dX6_again_2 : decode cX6_again 2 = .ok (.invokevirtual 76, 3) := by decide +kernel
theorem dX6_again_5 : decode cX6_again 5 = .ok (.astore_n 2, 1) := by decide +kernel
theorem dX6_again_6 : decode cX6_again 6 = .ok (.aload_n 2, 1) := by decide +kernel
theorem dX6_again_7 : decode cX6_again 7 = .ok (.ifnonnull 5, 3) := by decide +kernel
theorem dX6_again_10 : decode cX6_again 10 = .ok (.iconst (-1), 1) := by decide +kernel
theorem dX6_again_11 : decode cX6_again 11 = .ok (.ireturn, 1) := by decide +kernel
theorem dX6_again_12 : decode cX6_again 12 = .ok (.aload_n 2, 1) := by decide +kernel
theorem dX6_again_13 : decode cX6_again 13 = .ok (.getfield 141, 3) := by decide +kernel
theorem dX6_again_16 : decode cX6_again 16 = .ok (.ifCond .ne 6, 3) := by decide +kernel
theorem dX6_again_19 : decode cX6_again 19 = .ok (.bipush (-3), 2) := by decide +kernel
theorem dX6_again_21 : decode cX6_again 21 = .ok (.ireturn, 1) := by decide +kernel
theorem dX6_again_22 : decode cX6_again 22 = .ok (.aload_n 0, 1) := by decide +kernel
theorem dX6_again_23 : decode cX6_again 23 = .ok (.getfield 19, 3) := by decide +kernel
theorem dX6_again_26 : decode cX6_again 26 = .ok (.aload_n 2, 1) := by decide +kernel
theorem dX6_again_27 : decode cX6_again 27 = .ok (.invokevirtual 69, 3) := by decide +kernel
theorem dX6_again_30 : decode cX6_again 30 = .ok (.aload_n 0, 1) := by decide +kernel
theorem dX6_again_31 : decode cX6_again 31 = .ok (.getfield 39, 3) := by decide +kernel
theorem dX6_again_34 : decode cX6_again 34 = .ok (.invokevirtual 73, 3) := by decide +kernel
theorem dX6_again_37 : decode cX6_again 37 = .ok (.aload_n 0, 1) := by decide +kernel
theorem dX6_again_38 : decode cX6_again 38 = .ok (.getfield 19, 3) := by decide +kernel
theorem dX6_again_41 : decode cX6_again 41 = .ok (.getfield 141, 3) := by decide +kernel
theorem dX6_again_44 : decode cX6_again 44 = .ok (.ireturn, 1) := by decide +kernel
theorem dX6_count_0 : decode cX6_count 0 = .ok (.iload_n 1, 1) := by decide +kernel
theorem dX6_count_1 : decode cX6_count 1 = .ok (.tableswitch 102 0 6 #[43, 51, 59, 67, 75, 83, 91], 43) := by decide +kernel
theorem dX6_count_44 : decode cX6_count 44 = .ok (.aload_n 0, 1) := by decide +kernel
theorem dX6_count_45 : decode cX6_count 45 = .ok (.getfield 10, 3) := by decide +kernel
theorem dX6_count_48 : decode cX6_count 48 = .ok (.getfield 62, 3) := by decide +kernel
theorem dX6_count_51 : decode cX6_count 51 = .ok (.ireturn, 1) := by decide +kernel
theorem dX6_count_52 : decode cX6_count 52 = .ok (.aload_n 0, 1) := by decide +kernel
theorem dX6_count_53 : decode cX6_count 53 = .ok (.getfield 19, 3) := by decide +kernel
theorem dX6_count_56 : decode cX6_count 56 = .ok (.getfield 141, 3) := by decide +kernel
theorem dX6_count_59 : decode cX6_count 59 = .ok (.ireturn, 1) := by decide +kernel
theorem dX6_count_60 : decode cX6_count 60 = .ok (.aload_n 0, 1) := by decide +kernel
theorem dX6_count_61 : decode cX6_count 61 = .ok (.getfield 19, 3) := by decide +kernel
theorem dX6_count_64 : decode cX6_count 64 = .ok (.getfield 202, 3) := by decide +kernel
theorem dX6_count_67 : decode cX6_count 67 = .ok (.ireturn, 1) := by decide +kernel
theorem dX6_count_68 : decode cX6_count 68 = .ok (.aload_n 0, 1) := by decide +kernel
theorem dX6_count_69 : decode cX6_count 69 = .ok (.getfield 19, 3) := by decide +kernel
theorem dX6_count_72 : decode cX6_count 72 = .ok (.getfield 164, 3) := by decide +kernel
theorem dX6_count_75 : decode cX6_count 75 = .ok (.ireturn, 1) := by decide +kernel
theorem dX6_count_76 : decode cX6_count 76 = .ok (.aload_n 0, 1) := by decide +kernel
theorem dX6_count_77 : decode cX6_count 77 = .ok (.getfield 19, 3) := by decide +kernel
theorem dX6_count_80 : decode cX6_count 80 = .ok (.invokevirtual 273, 3) := by decide +kernel
theorem dX6_count_83 : decode cX6_count 83 = .ok (.ireturn, 1) := by decide +kernel
theorem dX6_count_84 : decode cX6_count 84 = .ok (.aload_n 0, 1) := by decide +kernel
theorem dX6_count_85 : decode cX6_count 85 = .ok (.getfield 39, 3) := by decide +kernel
theorem dX6_count_88 : decode cX6_count 88 = .ok (.getfield 180, 3) := by decide +kernel
theorem dX6_count_91 : decode cX6_count 91 = .ok (.ireturn, 1) := by decide +kernel
theorem dX6_count_92 : decode cX6_count 92 = .ok (.aload_n 0, 1) := by decide +kernel
theorem dX6_count_93 : decode cX6_count 93 = .ok (.getfield 46, 3) := by decide +kernel
theorem dX6_count_96 : decode cX6_count 96 = .ok (.getfield 226, 3) := by decide +kernel
theorem dX6_count_99 : decode cX6_count 99 = .ok (.getfield 236, 3) := by decide +kernel
theorem dX6_count_102 : decode cX6_count 102 = .ok (.ireturn, 1) := by decide +kernel
theorem dX6_count_103 : decode cX6_count 103 = .ok (.bipush (-2), 2) := by decide +kernel
theorem dX6_count_105 : decode cX6_count 105 = .ok (.ireturn, 1) := by decide +kernel
theorem dX6_settle_0 : decode cX6_settle 0 = .ok (.aload_n 0, 1) := by decide +kernel
theorem dX6_settle_1 : decode cX6_settle 1 = .ok (.getfield 46, 3) := by decide +kernel
theorem dX6_settle_4 : decode cX6_settle 4 = .ok (.aload_n 1, 1) := by decide +kernel
theorem dX6_settle_5 : decode cX6_settle 5 = .ok (.iconst 0, 1) := by decide +kernel
theorem dX6_settle_6 : decode cX6_settle 6 = .ok (.invokevirtual 113, 3) := by decide +kernel
theorem dX6_settle_9 : decode cX6_settle 9 = .ok (.aload_n 0, 1) := by decide +kernel
theorem dX6_settle_10 : decode cX6_settle 10 = .ok (.getfield 46, 3) := by decide +kernel
theorem dX6_settle_13 : decode cX6_settle 13 = .ok (.getfield 151, 3) := by decide +kernel
theorem dX6_settle_16 : decode cX6_settle 16 = .ok (.bipush (-9), 2) := by decide +kernel
theorem dX6_settle_18 : decode cX6_settle 18 = .ok (.if_icmp .ne 29, 3) := by decide +kernel
theorem dX6_settle_21 : decode cX6_settle 21 = .ok (.aload_n 1, 1) := by decide +kernel
theorem dX6_settle_22 : decode cX6_settle 22 = .ok (.aload_n 0, 1) := by decide +kernel
theorem dX6_settle_23 : decode cX6_settle 23 = .ok (.getfield 46, 3) := by decide +kernel
theorem dX6_settle_26 : decode cX6_settle 26 = .ok (.getfield 129, 3) := by decide +kernel
theorem dX6_settle_29 : decode cX6_settle 29 = .ok (.aload_n 0, 1) := by decide +kernel
theorem dX6_settle_30 : decode cX6_settle 30 = .ok (.getfield 46, 3) := by decide +kernel
theorem dX6_settle_33 : decode cX6_settle 33 = .ok (.getfield 123, 3) := by decide +kernel
theorem dX6_settle_36 : decode cX6_settle 36 = .ok (.ifCond .le 7, 3) := by decide +kernel
theorem dX6_settle_39 : decode cX6_settle 39 = .ok (.iconst 1, 1) := by decide +kernel
theorem dX6_settle_40 : decode cX6_settle 40 = .ok (.goto 4, 3) := by decide +kernel
theorem dX6_settle_43 : decode cX6_settle 43 = .ok (.iconst 0, 1) := by decide +kernel
theorem dX6_settle_44 : decode cX6_settle 44 = .ok (.invokevirtual 137, 3) := by decide +kernel
theorem dX6_settle_47 : decode cX6_settle 47 = .ok (.aload_n 0, 1) := by decide +kernel
theorem dX6_settle_48 : decode cX6_settle 48 = .ok (.getfield 46, 3) := by decide +kernel
theorem dX6_settle_51 : decode cX6_settle 51 = .ok (.getfield 123, 3) := by decide +kernel
theorem dX6_settle_54 : decode cX6_settle 54 = .ok (.ireturn, 1) := by decide +kernel
theorem dX6_refusalOfPaint_0 : decode cX6_refusalOfPaint 0 = .ok (.aload_n 1, 1) := by decide +kernel
theorem dX6_refusalOfPaint_1 : decode cX6_refusalOfPaint 1 = .ok (.iload_n 2, 1) := by decide +kernel
theorem dX6_refusalOfPaint_2 : decode cX6_refusalOfPaint 2 = .ok (.invokevirtual 100, 3) := by decide +kernel
theorem dX6_refusalOfPaint_5 : decode cX6_refusalOfPaint 5 = .ok (.ifCond .ne 5, 3) := by decide +kernel
theorem dX6_refusalOfPaint_8 : decode cX6_refusalOfPaint 8 = .ok (.iconst (-1), 1) := by decide +kernel
theorem dX6_refusalOfPaint_9 : decode cX6_refusalOfPaint 9 = .ok (.ireturn, 1) := by decide +kernel
theorem dX6_refusalOfPaint_10 : decode cX6_refusalOfPaint 10 = .ok (.aload_n 1, 1) := by decide +kernel
theorem dX6_refusalOfPaint_11 : decode cX6_refusalOfPaint 11 = .ok (.iload_n 3, 1) := by decide +kernel
theorem dX6_refusalOfPaint_12 : decode cX6_refusalOfPaint 12 = .ok (.invokevirtual 276, 3) := by decide +kernel
theorem dX6_refusalOfPaint_15 : decode cX6_refusalOfPaint 15 = .ok (.ifCond .ne 6, 3) := by decide +kernel
theorem dX6_refusalOfPaint_18 : decode cX6_refusalOfPaint 18 = .ok (.bipush (-2), 2) := by decide +kernel
theorem dX6_refusalOfPaint_20 : decode cX6_refusalOfPaint 20 = .ok (.ireturn, 1) := by decide +kernel
theorem dX6_refusalOfPaint_21 : decode cX6_refusalOfPaint 21 = .ok (.aload_n 1, 1) := by decide +kernel
theorem dX6_refusalOfPaint_22 : decode cX6_refusalOfPaint 22 = .ok (.getfield 103, 3) := by decide +kernel
theorem dX6_refusalOfPaint_25 : decode cX6_refusalOfPaint 25 = .ok (.ifCond .eq 21, 3) := by decide +kernel
theorem dX6_refusalOfPaint_28 : decode cX6_refusalOfPaint 28 = .ok (.aload_n 1, 1) := by decide +kernel
theorem dX6_refusalOfPaint_29 : decode cX6_refusalOfPaint 29 = .ok (.iload_n 2, 1) := by decide +kernel
theorem dX6_refusalOfPaint_30 : decode cX6_refusalOfPaint 30 = .ok (.invokevirtual 107, 3) := by decide +kernel
theorem dX6_refusalOfPaint_33 : decode cX6_refusalOfPaint 33 = .ok (.iload_n 3, 1) := by decide +kernel
theorem dX6_refusalOfPaint_34 : decode cX6_refusalOfPaint 34 = .ok (.if_icmp .eq 12, 3) := by decide +kernel
theorem dX6_refusalOfPaint_37 : decode cX6_refusalOfPaint 37 = .ok (.aload_n 1, 1) := by decide +kernel
theorem dX6_refusalOfPaint_38 : decode cX6_refusalOfPaint 38 = .ok (.iload_n 2, 1) := by decide +kernel
theorem dX6_refusalOfPaint_39 : decode cX6_refusalOfPaint 39 = .ok (.iload_n 3, 1) := by decide +kernel
theorem dX6_refusalOfPaint_40 : decode cX6_refusalOfPaint 40 = .ok (.invokevirtual 279, 3) := by decide +kernel
theorem dX6_refusalOfPaint_43 : decode cX6_refusalOfPaint 43 = .ok (.ifCond .ne 6, 3) := by decide +kernel
theorem dX6_refusalOfPaint_46 : decode cX6_refusalOfPaint 46 = .ok (.bipush (-3), 2) := by decide +kernel
theorem dX6_refusalOfPaint_48 : decode cX6_refusalOfPaint 48 = .ok (.ireturn, 1) := by decide +kernel
theorem dX6_refusalOfPaint_49 : decode cX6_refusalOfPaint 49 = .ok (.aload_n 0, 1) := by decide +kernel
theorem dX6_refusalOfPaint_50 : decode cX6_refusalOfPaint 50 = .ok (.getfield 46, 3) := by decide +kernel
theorem dX6_refusalOfPaint_53 : decode cX6_refusalOfPaint 53 = .ok (.aload_n 1, 1) := by decide +kernel
theorem dX6_refusalOfPaint_54 : decode cX6_refusalOfPaint 54 = .ok (.invokevirtual 199, 3) := by decide +kernel
theorem dX6_refusalOfPaint_57 : decode cX6_refusalOfPaint 57 = .ok (.aload_n 0, 1) := by decide +kernel
theorem dX6_refusalOfPaint_58 : decode cX6_refusalOfPaint 58 = .ok (.getfield 46, 3) := by decide +kernel
theorem dX6_refusalOfPaint_61 : decode cX6_refusalOfPaint 61 = .ok (.getfield 205, 3) := by decide +kernel
theorem dX6_refusalOfPaint_64 : decode cX6_refusalOfPaint 64 = .ok (.aload_n 1, 1) := by decide +kernel
theorem dX6_refusalOfPaint_65 : decode cX6_refusalOfPaint 65 = .ok (.iload_n 3, 1) := by decide +kernel
theorem dX6_refusalOfPaint_66 : decode cX6_refusalOfPaint 66 = .ok (.invokevirtual 209, 3) := by decide +kernel
theorem dX6_refusalOfPaint_69 : decode cX6_refusalOfPaint 69 = .ok (.iconst 1, 1) := by decide +kernel
theorem dX6_refusalOfPaint_70 : decode cX6_refusalOfPaint 70 = .ok (.iload_n 2, 1) := by decide +kernel
theorem dX6_refusalOfPaint_71 : decode cX6_refusalOfPaint 71 = .ok (.ishl, 1) := by decide +kernel
theorem dX6_refusalOfPaint_72 : decode cX6_refusalOfPaint 72 = .ok (.ior, 1) := by decide +kernel
theorem dX6_refusalOfPaint_73 : decode cX6_refusalOfPaint 73 = .ok (.invokevirtual 212, 3) := by decide +kernel
theorem dX6_refusalOfPaint_76 : decode cX6_refusalOfPaint 76 = .ok (.ifCond .ne 7, 3) := by decide +kernel
theorem dX6_refusalOfPaint_79 : decode cX6_refusalOfPaint 79 = .ok (.iconst 0, 1) := by decide +kernel
theorem dX6_refusalOfPaint_80 : decode cX6_refusalOfPaint 80 = .ok (.goto 5, 3) := by decide +kernel
theorem dX6_refusalOfPaint_83 : decode cX6_refusalOfPaint 83 = .ok (.bipush (-3), 2) := by decide +kernel
theorem dX6_refusalOfPaint_85 : decode cX6_refusalOfPaint 85 = .ok (.ireturn, 1) := by decide +kernel
theorem dX6_refusalOfPin_0 : decode cX6_refusalOfPin 0 = .ok (.aload_n 0, 1) := by decide +kernel
theorem dX6_refusalOfPin_1 : decode cX6_refusalOfPin 1 = .ok (.iload_n 1, 1) := by decide +kernel
theorem dX6_refusalOfPin_2 : decode cX6_refusalOfPin 2 = .ok (.invokevirtual 100, 3) := by decide +kernel
theorem dX6_refusalOfPin_5 : decode cX6_refusalOfPin 5 = .ok (.ifCond .ne 5, 3) := by decide +kernel
theorem dX6_refusalOfPin_8 : decode cX6_refusalOfPin 8 = .ok (.iconst (-1), 1) := by decide +kernel
theorem dX6_refusalOfPin_9 : decode cX6_refusalOfPin 9 = .ok (.ireturn, 1) := by decide +kernel
theorem dX6_refusalOfPin_10 : decode cX6_refusalOfPin 10 = .ok (.aload_n 0, 1) := by decide +kernel
theorem dX6_refusalOfPin_11 : decode cX6_refusalOfPin 11 = .ok (.iload_n 2, 1) := by decide +kernel
theorem dX6_refusalOfPin_12 : decode cX6_refusalOfPin 12 = .ok (.invokevirtual 276, 3) := by decide +kernel
theorem dX6_refusalOfPin_15 : decode cX6_refusalOfPin 15 = .ok (.ifCond .ne 9, 3) := by decide +kernel
theorem dX6_refusalOfPin_18 : decode cX6_refusalOfPin 18 = .ok (.iload_n 2, 1) := by decide +kernel
theorem dX6_refusalOfPin_19 : decode cX6_refusalOfPin 19 = .ok (.bipush 9, 2) := by decide +kernel
theorem dX6_refusalOfPin_21 : decode cX6_refusalOfPin 21 = .ok (.if_icmp .ne 7, 3) := by decide +kernel
theorem dX6_refusalOfPin_24 : decode cX6_refusalOfPin 24 = .ok (.iconst 0, 1) := by decide +kernel
theorem dX6_refusalOfPin_25 : decode cX6_refusalOfPin 25 = .ok (.goto 5, 3) := by decide +kernel
theorem dX6_refusalOfPin_28 : decode cX6_refusalOfPin 28 = .ok (.bipush (-2), 2) := by decide +kernel
theorem dX6_refusalOfPin_30 : decode cX6_refusalOfPin 30 = .ok (.ireturn, 1) := by decide +kernel
theorem dX6_reachable_0 : decode cX6_reachable 0 = .ok (.iload_n 0, 1) := by decide +kernel
theorem dX6_reachable_1 : decode cX6_reachable 1 = .ok (.iconst 1, 1) := by decide +kernel
theorem dX6_reachable_2 : decode cX6_reachable 2 = .ok (.if_icmp .lt 13, 3) := by decide +kernel
theorem dX6_reachable_5 : decode cX6_reachable 5 = .ok (.iload_n 0, 1) := by decide +kernel
theorem dX6_reachable_6 : decode cX6_reachable 6 = .ok (.bipush 10, 2) := by decide +kernel
theorem dX6_reachable_8 : decode cX6_reachable 8 = .ok (.if_icmp .gt 7, 3) := by decide +kernel
theorem dX6_reachable_11 : decode cX6_reachable 11 = .ok (.iconst 1, 1) := by decide +kernel
theorem dX6_reachable_12 : decode cX6_reachable 12 = .ok (.goto 4, 3) := by decide +kernel
theorem dX6_reachable_15 : decode cX6_reachable 15 = .ok (.iconst 0, 1) := by decide +kernel
theorem dX6_reachable_16 : decode cX6_reachable 16 = .ok (.ireturn, 1) := by decide +kernel
theorem dX6_factor_0 : decode cX6_factor 0 = .ok (.iload_n 0, 1) := by decide +kernel
theorem dX6_factor_1 : decode cX6_factor 1 = .ok (.bipush (-4), 2) := by decide +kernel
theorem dX6_factor_3 : decode cX6_factor 3 = .ok (.if_icmp .lt 16, 3) := by decide +kernel
theorem dX6_factor_6 : decode cX6_factor 6 = .ok (.iload_n 0, 1) := by decide +kernel
theorem dX6_factor_7 : decode cX6_factor 7 = .ok (.iconst 4, 1) := by decide +kernel
theorem dX6_factor_8 : decode cX6_factor 8 = .ok (.if_icmp .gt 11, 3) := by decide +kernel
theorem dX6_factor_11 : decode cX6_factor 11 = .ok (.iload_n 0, 1) := by decide +kernel
theorem dX6_factor_12 : decode cX6_factor 12 = .ok (.ifCond .eq 7, 3) := by decide +kernel
theorem dX6_factor_15 : decode cX6_factor 15 = .ok (.iconst 1, 1) := by decide +kernel
theorem dX6_factor_16 : decode cX6_factor 16 = .ok (.goto 4, 3) := by decide +kernel
theorem dX6_factor_19 : decode cX6_factor 19 = .ok (.iconst 0, 1) := by decide +kernel
theorem dX6_factor_20 : decode cX6_factor 20 = .ok (.ireturn, 1) := by decide +kernel
theorem dX6_limit_0 : decode cX6_limit 0 = .ok (.aload_n 0, 1) := by decide +kernel
theorem dX6_limit_1 : decode cX6_limit 1 = .ok (.getfield 29, 3) := by decide +kernel
theorem dX6_limit_4 : decode cX6_limit 4 = .ok (.aload_n 1, 1) := by decide +kernel
theorem dX6_limit_5 : decode cX6_limit 5 = .ok (.invokevirtual 69, 3) := by decide +kernel
theorem dX6_limit_8 : decode cX6_limit 8 = .ok (.aload_n 0, 1) := by decide +kernel
theorem dX6_limit_9 : decode cX6_limit 9 = .ok (.getfield 29, 3) := by decide +kernel
theorem dX6_limit_12 : decode cX6_limit 12 = .ok (.invokevirtual 283, 3) := by decide +kernel
theorem dX6_limit_15 : decode cX6_limit 15 = .ok (.aload_n 0, 1) := by decide +kernel
theorem dX6_limit_16 : decode cX6_limit 16 = .ok (.getfield 29, 3) := by decide +kernel
theorem dX6_limit_19 : decode cX6_limit 19 = .ok (.bipush 10, 2) := by decide +kernel
theorem dX6_limit_21 : decode cX6_limit 21 = .ok (.invokevirtual 157, 3) := by decide +kernel
theorem dX6_limit_24 : decode cX6_limit 24 = .ok (.aload_n 0, 1) := by decide +kernel
theorem dX6_limit_25 : decode cX6_limit 25 = .ok (.getfield 46, 3) := by decide +kernel
theorem dX6_limit_28 : decode cX6_limit 28 = .ok (.aload_n 0, 1) := by decide +kernel
theorem dX6_limit_29 : decode cX6_limit 29 = .ok (.getfield 29, 3) := by decide +kernel
theorem dX6_limit_32 : decode cX6_limit 32 = .ok (.iconst 0, 1) := by decide +kernel
theorem dX6_limit_33 : decode cX6_limit 33 = .ok (.invokevirtual 113, 3) := by decide +kernel
theorem dX6_limit_36 : decode cX6_limit 36 = .ok (.aload_n 0, 1) := by decide +kernel
theorem dX6_limit_37 : decode cX6_limit 37 = .ok (.getfield 46, 3) := by decide +kernel
theorem dX6_limit_40 : decode cX6_limit 40 = .ok (.getfield 286, 3) := by decide +kernel
theorem dX6_limit_43 : decode cX6_limit 43 = .ok (.bipush 10, 2) := by decide +kernel
theorem dX6_limit_45 : decode cX6_limit 45 = .ok (.if_icmp .ge 15, 3) := by decide +kernel
theorem dX6_limit_48 : decode cX6_limit 48 = .ok (.aload_n 0, 1) := by decide +kernel
theorem dX6_limit_49 : decode cX6_limit 49 = .ok (.getfield 46, 3) := by decide +kernel
theorem dX6_limit_52 : decode cX6_limit 52 = .ok (.getfield 286, 3) := by decide +kernel
theorem dX6_limit_55 : decode cX6_limit 55 = .ok (.iconst 1, 1) := by decide +kernel
theorem dX6_limit_56 : decode cX6_limit 56 = .ok (.iadd, 1) := by decide +kernel
theorem dX6_limit_57 : decode cX6_limit 57 = .ok (.goto 5, 3) := by decide +kernel
theorem dX6_limit_60 : decode cX6_limit 60 = .ok (.bipush (-9), 2) := by decide +kernel
theorem dX6_limit_62 : decode cX6_limit 62 = .ok (.ireturn, 1) := by decide +kernel
theorem dX6_forcedNumbers_0 : decode cX6_forcedNumbers 0 = .ok (.aload_n 0, 1) := by decide +kernel
theorem dX6_forcedNumbers_1 : decode cX6_forcedNumbers 1 = .ok (.getfield 46, 3) := by decide +kernel
theorem dX6_forcedNumbers_4 : decode cX6_forcedNumbers 4 = .ok (.aload_n 0, 1) := by decide +kernel
theorem dX6_forcedNumbers_5 : decode cX6_forcedNumbers 5 = .ok (.getfield 19, 3) := by decide +kernel
theorem dX6_forcedNumbers_8 : decode cX6_forcedNumbers 8 = .ok (.iconst 0, 1) := by decide +kernel
theorem dX6_forcedNumbers_9 : decode cX6_forcedNumbers 9 = .ok (.invokevirtual 113, 3) := by decide +kernel
theorem dX6_forcedNumbers_12 : decode cX6_forcedNumbers 12 = .ok (.iconst 0, 1) := by decide +kernel
theorem dX6_forcedNumbers_13 : decode cX6_forcedNumbers 13 = .ok (.istore_n 1, 1) := by decide +kernel
theorem dX6_forcedNumbers_14 : decode cX6_forcedNumbers 14 = .ok (.iconst 1, 1) := by decide +kernel
theorem dX6_forcedNumbers_15 : decode cX6_forcedNumbers 15 = .ok (.istore_n 2, 1) := by decide +kernel
theorem dX6_forcedNumbers_16 : decode cX6_forcedNumbers 16 = .ok (.iload_n 2, 1) := by decide +kernel
theorem dX6_forcedNumbers_17 : decode cX6_forcedNumbers 17 = .ok (.aload_n 0, 1) := by decide +kernel
theorem dX6_forcedNumbers_18 : decode cX6_forcedNumbers 18 = .ok (.getfield 19, 3) := by decide +kernel
theorem dX6_forcedNumbers_21 : decode cX6_forcedNumbers 21 = .ok (.getfield 141, 3) := by decide +kernel
theorem dX6_forcedNumbers_24 : decode cX6_forcedNumbers 24 = .ok (.if_icmp .gt 26, 3) := by decide +kernel
theorem dX6_forcedNumbers_27 : decode cX6_forcedNumbers 27 = .ok (.aload_n 0, 1) := by decide +kernel
theorem dX6_forcedNumbers_28 : decode cX6_forcedNumbers 28 = .ok (.getfield 46, 3) := by decide +kernel
theorem dX6_forcedNumbers_31 : decode cX6_forcedNumbers 31 = .ok (.iload_n 2, 1) := by decide +kernel
theorem dX6_forcedNumbers_32 : decode cX6_forcedNumbers 32 = .ok (.invokevirtual 120, 3) := by decide +kernel
theorem dX6_forcedNumbers_35 : decode cX6_forcedNumbers 35 = .ok (.ifCond .eq 9, 3) := by decide +kernel
theorem dX6_forcedNumbers_38 : decode cX6_forcedNumbers 38 = .ok (.iload_n 1, 1) := by decide +kernel
theorem dX6_forcedNumbers_39 : decode cX6_forcedNumbers 39 = .ok (.iconst 1, 1) := by decide +kernel
theorem dX6_forcedNumbers_40 : decode cX6_forcedNumbers 40 = .ok (.iload_n 2, 1) := by decide +kernel
theorem dX6_forcedNumbers_41 : decode cX6_forcedNumbers 41 = .ok (.ishl, 1) := by decide +kernel
theorem dX6_forcedNumbers_42 : decode cX6_forcedNumbers 42 = .ok (.ior, 1) := by decide +kernel
theorem dX6_forcedNumbers_43 : decode cX6_forcedNumbers 43 = .ok (.istore_n 1, 1) := by decide +kernel
theorem dX6_forcedNumbers_44 : decode cX6_forcedNumbers 44 = .ok (.iinc 2 1, 3) := by decide +kernel
theorem dX6_forcedNumbers_47 : decode cX6_forcedNumbers 47 = .ok (.goto (-31), 3) := by decide +kernel
theorem dX6_forcedNumbers_50 : decode cX6_forcedNumbers 50 = .ok (.iload_n 1, 1) := by decide +kernel
theorem dX6_forcedNumbers_51 : decode cX6_forcedNumbers 51 = .ok (.ireturn, 1) := by decide +kernel
theorem dX6_paintable_0 : decode cX6_paintable 0 = .ok (.iconst 0, 1) := by decide +kernel
theorem dX6_paintable_1 : decode cX6_paintable 1 = .ok (.istore_n 1, 1) := by decide +kernel
theorem dX6_paintable_2 : decode cX6_paintable 2 = .ok (.iconst 1, 1) := by decide +kernel
theorem dX6_paintable_3 : decode cX6_paintable 3 = .ok (.istore_n 2, 1) := by decide +kernel
theorem dX6_paintable_4 : decode cX6_paintable 4 = .ok (.iload_n 2, 1) := by decide +kernel
theorem dX6_paintable_5 : decode cX6_paintable 5 = .ok (.aload_n 0, 1) := by decide +kernel
theorem dX6_paintable_6 : decode cX6_paintable 6 = .ok (.getfield 19, 3) := by decide +kernel
theorem dX6_paintable_9 : decode cX6_paintable 9 = .ok (.getfield 141, 3) := by decide +kernel
theorem dX6_paintable_12 : decode cX6_paintable 12 = .ok (.if_icmp .gt 44, 3) := by decide +kernel
theorem dX6_paintable_15 : decode cX6_paintable 15 = .ok (.iconst 0, 1) := by decide +kernel
theorem dX6_paintable_16 : decode cX6_paintable 16 = .ok (.istore_n 3, 1) := by decide +kernel
theorem dX6_paintable_17 : decode cX6_paintable 17 = .ok (.iload_n 3, 1) := by decide +kernel
theorem dX6_paintable_18 : decode cX6_paintable 18 = .ok (.aload_n 0, 1) := by decide +kernel
theorem dX6_paintable_19 : decode cX6_paintable 19 = .ok (.getfield 19, 3) := by decide +kernel
theorem dX6_paintable_22 : decode cX6_paintable 22 = .ok (.getfield 202, 3) := by decide +kernel
theorem dX6_paintable_25 : decode cX6_paintable 25 = .ok (.if_icmp .ge 25, 3) := by decide +kernel
theorem dX6_paintable_28 : decode cX6_paintable 28 = .ok (.aload_n 0, 1) := by decide +kernel
theorem dX6_paintable_29 : decode cX6_paintable 29 = .ok (.aload_n 0, 1) := by decide +kernel
theorem dX6_paintable_30 : decode cX6_paintable 30 = .ok (.getfield 19, 3) := by decide +kernel
theorem dX6_paintable_33 : decode cX6_paintable 33 = .ok (.iload_n 2, 1) := by decide +kernel
theorem dX6_paintable_34 : decode cX6_paintable 34 = .ok (.iload_n 3, 1) := by decide +kernel
theorem dX6_paintable_35 : decode cX6_paintable 35 = .ok (.invokevirtual 144, 3) := by decide +kernel
theorem dX6_paintable_38 : decode cX6_paintable 38 = .ok (.ifCond .ne 6, 3) := by decide +kernel
theorem dX6_paintable_41 : decode cX6_paintable 41 = .ok (.iinc 1 1, 3) := by decide +kernel
theorem dX6_paintable_44 : decode cX6_paintable 44 = .ok (.iinc 3 1, 3) := by decide +kernel
theorem dX6_paintable_47 : decode cX6_paintable 47 = .ok (.goto (-30), 3) := by decide +kernel
theorem dX6_paintable_50 : decode cX6_paintable 50 = .ok (.iinc 2 1, 3) := by decide +kernel
theorem dX6_paintable_53 : decode cX6_paintable 53 = .ok (.goto (-49), 3) := by decide +kernel
theorem dX6_paintable_56 : decode cX6_paintable 56 = .ok (.iload_n 1, 1) := by decide +kernel
theorem dX6_paintable_57 : decode cX6_paintable 57 = .ok (.ireturn, 1) := by decide +kernel
theorem dX6_cutDoings_0 : decode cX6_cutDoings 0 = .ok (.lload_n 0, 1) := by decide +kernel
theorem dX6_cutDoings_1 : decode cX6_cutDoings 1 = .ok (.lstore_n 3, 1) := by decide +kernel
theorem dX6_cutDoings_2 : decode cX6_cutDoings 2 = .ok (.iconst 0, 1) := by decide +kernel
theorem dX6_cutDoings_3 : decode cX6_cutDoings 3 = .ok (.istore 5, 2) := by decide +kernel
theorem dX6_cutDoings_5 : decode cX6_cutDoings 5 = .ok (.iload 5, 2) := by decide +kernel
theorem dX6_cutDoings_7 : decode cX6_cutDoings 7 = .ok (.iload_n 2, 1) := by decide +kernel
theorem dX6_cutDoings_8 : decode cX6_cutDoings 8 = .ok (.if_icmp .ge 15, 3) := by decide +kernel
theorem dX6_cutDoings_11 : decode cX6_cutDoings 11 = .ok (.lload_n 3, 1) := by decide +kernel
theorem dX6_cutDoings_12 : decode cX6_cutDoings 12 = .ok (.ldc2_w 221, 3) := by decide +kernel
theorem dX6_cutDoings_15 : decode cX6_cutDoings 15 = .ok (.ldiv, 1) := by decide +kernel
theorem dX6_cutDoings_16 : decode cX6_cutDoings 16 = .ok (.lstore_n 3, 1) := by decide +kernel
theorem dX6_cutDoings_17 : decode cX6_cutDoings 17 = .ok (.iinc 5 1, 3) := by decide +kernel
theorem dX6_cutDoings_20 : decode cX6_cutDoings 20 = .ok (.goto (-15), 3) := by decide +kernel
theorem dX6_cutDoings_23 : decode cX6_cutDoings 23 = .ok (.lload_n 3, 1) := by decide +kernel
theorem dX6_cutDoings_24 : decode cX6_cutDoings 24 = .ok (.lreturn, 1) := by decide +kernel
theorem dX6_stands_0 : decode cX6_stands 0 = .ok (.iload_n 1, 1) := by decide +kernel
theorem dX6_stands_1 : decode cX6_stands 1 = .ok (.sipush 1000, 3) := by decide +kernel
theorem dX6_stands_4 : decode cX6_stands 4 = .ok (.irem, 1) := by decide +kernel
theorem dX6_stands_5 : decode cX6_stands 5 = .ok (.istore_n 2, 1) := by decide +kernel
theorem dX6_stands_6 : decode cX6_stands 6 = .ok (.iload_n 2, 1) := by decide +kernel
theorem dX6_stands_7 : decode cX6_stands 7 = .ok (.bipush 10, 2) := by decide +kernel
theorem dX6_stands_9 : decode cX6_stands 9 = .ok (.idiv, 1) := by decide +kernel
theorem dX6_stands_10 : decode cX6_stands 10 = .ok (.istore_n 3, 1) := by decide +kernel
theorem dX6_stands_11 : decode cX6_stands 11 = .ok (.iload_n 2, 1) := by decide +kernel
theorem dX6_stands_12 : decode cX6_stands 12 = .ok (.bipush 10, 2) := by decide +kernel
theorem dX6_stands_14 : decode cX6_stands 14 = .ok (.irem, 1) := by decide +kernel
theorem dX6_stands_15 : decode cX6_stands 15 = .ok (.istore 4, 2) := by decide +kernel
theorem dX6_stands_17 : decode cX6_stands 17 = .ok (.iload_n 1, 1) := by decide +kernel
theorem dX6_stands_18 : decode cX6_stands 18 = .ok (.sipush 1000, 3) := by decide +kernel
theorem dX6_stands_21 : decode cX6_stands 21 = .ok (.idiv, 1) := by decide +kernel
theorem dX6_stands_22 : decode cX6_stands 22 = .ok (.tableswitch 251 1 7 #[42, 70, 106, 134, 163, 196, 224], 42) := by decide +kernel
theorem dX6_stands_64 : decode cX6_stands 64 = .ok (.aload_n 0, 1) := by decide +kernel
theorem dX6_stands_65 : decode cX6_stands 65 = .ok (.aload_n 0, 1) := by decide +kernel
theorem dX6_stands_66 : decode cX6_stands 66 = .ok (.getfield 26, 3) := by decide +kernel
theorem dX6_stands_69 : decode cX6_stands 69 = .ok (.iload_n 3, 1) := by decide +kernel
theorem dX6_stands_70 : decode cX6_stands 70 = .ok (.iload 4, 2) := by decide +kernel
theorem dX6_stands_72 : decode cX6_stands 72 = .ok (.invokevirtual 144, 3) := by decide +kernel
theorem dX6_stands_75 : decode cX6_stands 75 = .ok (.ifCond .eq 5, 3) := by decide +kernel
theorem dX6_stands_78 : decode cX6_stands 78 = .ok (.iconst 0, 1) := by decide +kernel
theorem dX6_stands_79 : decode cX6_stands 79 = .ok (.ireturn, 1) := by decide +kernel
theorem dX6_stands_80 : decode cX6_stands 80 = .ok (.aload_n 0, 1) := by decide +kernel
theorem dX6_stands_81 : decode cX6_stands 81 = .ok (.getfield 26, 3) := by decide +kernel
theorem dX6_stands_84 : decode cX6_stands 84 = .ok (.iload_n 3, 1) := by decide +kernel
theorem dX6_stands_85 : decode cX6_stands 85 = .ok (.iload 4, 2) := by decide +kernel
theorem dX6_stands_87 : decode cX6_stands 87 = .ok (.invokevirtual 148, 3) := by decide +kernel
theorem dX6_stands_90 : decode cX6_stands 90 = .ok (.iconst 1, 1) := by decide +kernel
theorem dX6_stands_91 : decode cX6_stands 91 = .ok (.ireturn, 1) := by decide +kernel
theorem dX6_stands_92 : decode cX6_stands 92 = .ok (.aload_n 0, 1) := by decide +kernel
theorem dX6_stands_93 : decode cX6_stands 93 = .ok (.getfield 26, 3) := by decide +kernel
theorem dX6_stands_96 : decode cX6_stands 96 = .ok (.iload_n 3, 1) := by decide +kernel
theorem dX6_stands_97 : decode cX6_stands 97 = .ok (.iload 4, 2) := by decide +kernel
theorem dX6_stands_99 : decode cX6_stands 99 = .ok (.invokestatic 170, 3) := by decide +kernel
theorem dX6_stands_102 : decode cX6_stands 102 = .ok (.ifCond .eq 5, 3) := by decide +kernel
theorem dX6_stands_105 : decode cX6_stands 105 = .ok (.iconst 0, 1) := by decide +kernel
theorem dX6_stands_106 : decode cX6_stands 106 = .ok (.ireturn, 1) := by decide +kernel
theorem dX6_stands_107 : decode cX6_stands 107 = .ok (.aload_n 0, 1) := by decide +kernel
theorem dX6_stands_108 : decode cX6_stands 108 = .ok (.getfield 26, 3) := by decide +kernel
theorem dX6_stands_111 : decode cX6_stands 111 = .ok (.iload_n 3, 1) := by decide +kernel
theorem dX6_stands_112 : decode cX6_stands 112 = .ok (.iload 4, 2) := by decide +kernel
theorem dX6_stands_114 : decode cX6_stands 114 = .ok (.invokevirtual 173, 3) := by decide +kernel
theorem dX6_stands_117 : decode cX6_stands 117 = .ok (.aload_n 0, 1) := by decide +kernel
theorem dX6_stands_118 : decode cX6_stands 118 = .ok (.aload_n 0, 1) := by decide +kernel
theorem dX6_stands_119 : decode cX6_stands 119 = .ok (.getfield 26, 3) := by decide +kernel
theorem dX6_stands_122 : decode cX6_stands 122 = .ok (.invokevirtual 54, 3) := by decide +kernel
theorem dX6_stands_125 : decode cX6_stands 125 = .ok (.pop, 1) := by decide +kernel
theorem dX6_stands_126 : decode cX6_stands 126 = .ok (.iconst 1, 1) := by decide +kernel
theorem dX6_stands_127 : decode cX6_stands 127 = .ok (.ireturn, 1) := by decide +kernel
theorem dX6_stands_128 : decode cX6_stands 128 = .ok (.iload_n 2, 1) := by decide +kernel
theorem dX6_stands_129 : decode cX6_stands 129 = .ok (.invokestatic 154, 3) := by decide +kernel
theorem dX6_stands_132 : decode cX6_stands 132 = .ok (.ifCond .ne 5, 3) := by decide +kernel
theorem dX6_stands_135 : decode cX6_stands 135 = .ok (.iconst 0, 1) := by decide +kernel
theorem dX6_stands_136 : decode cX6_stands 136 = .ok (.ireturn, 1) := by decide +kernel
theorem dX6_stands_137 : decode cX6_stands 137 = .ok (.aload_n 0, 1) := by decide +kernel
theorem dX6_stands_138 : decode cX6_stands 138 = .ok (.getfield 26, 3) := by decide +kernel
theorem dX6_stands_141 : decode cX6_stands 141 = .ok (.iload_n 2, 1) := by decide +kernel
theorem dX6_stands_142 : decode cX6_stands 142 = .ok (.invokevirtual 157, 3) := by decide +kernel
theorem dX6_stands_145 : decode cX6_stands 145 = .ok (.aload_n 0, 1) := by decide +kernel
theorem dX6_stands_146 : decode cX6_stands 146 = .ok (.aload_n 0, 1) := by decide +kernel
theorem dX6_stands_147 : decode cX6_stands 147 = .ok (.getfield 26, 3) := by decide +kernel
theorem dX6_stands_150 : decode cX6_stands 150 = .ok (.invokevirtual 54, 3) := by decide +kernel
theorem dX6_stands_153 : decode cX6_stands 153 = .ok (.pop, 1) := by decide +kernel
theorem dX6_stands_154 : decode cX6_stands 154 = .ok (.iconst 1, 1) := by decide +kernel
theorem dX6_stands_155 : decode cX6_stands 155 = .ok (.ireturn, 1) := by decide +kernel
theorem dX6_stands_156 : decode cX6_stands 156 = .ok (.aload_n 0, 1) := by decide +kernel
theorem dX6_stands_157 : decode cX6_stands 157 = .ok (.getfield 46, 3) := by decide +kernel
theorem dX6_stands_160 : decode cX6_stands 160 = .ok (.aload_n 0, 1) := by decide +kernel
theorem dX6_stands_161 : decode cX6_stands 161 = .ok (.getfield 26, 3) := by decide +kernel
theorem dX6_stands_164 : decode cX6_stands 164 = .ok (.iconst 0, 1) := by decide +kernel
theorem dX6_stands_165 : decode cX6_stands 165 = .ok (.invokevirtual 113, 3) := by decide +kernel
theorem dX6_stands_168 : decode cX6_stands 168 = .ok (.aload_n 0, 1) := by decide +kernel
theorem dX6_stands_169 : decode cX6_stands 169 = .ok (.getfield 46, 3) := by decide +kernel
theorem dX6_stands_172 : decode cX6_stands 172 = .ok (.getfield 123, 3) := by decide +kernel
theorem dX6_stands_175 : decode cX6_stands 175 = .ok (.iload_n 2, 1) := by decide +kernel
theorem dX6_stands_176 : decode cX6_stands 176 = .ok (.if_icmp .ne 7, 3) := by decide +kernel
theorem dX6_stands_179 : decode cX6_stands 179 = .ok (.iconst 1, 1) := by decide +kernel
theorem dX6_stands_180 : decode cX6_stands 180 = .ok (.goto 4, 3) := by decide +kernel
theorem dX6_stands_183 : decode cX6_stands 183 = .ok (.iconst 0, 1) := by decide +kernel
theorem dX6_stands_184 : decode cX6_stands 184 = .ok (.ireturn, 1) := by decide +kernel
theorem dX6_stands_185 : decode cX6_stands 185 = .ok (.aload_n 0, 1) := by decide +kernel
theorem dX6_stands_186 : decode cX6_stands 186 = .ok (.getfield 46, 3) := by decide +kernel
theorem dX6_stands_189 : decode cX6_stands 189 = .ok (.aload_n 0, 1) := by decide +kernel
theorem dX6_stands_190 : decode cX6_stands 190 = .ok (.getfield 26, 3) := by decide +kernel
theorem dX6_stands_193 : decode cX6_stands 193 = .ok (.iconst 0, 1) := by decide +kernel
theorem dX6_stands_194 : decode cX6_stands 194 = .ok (.invokevirtual 113, 3) := by decide +kernel
theorem dX6_stands_197 : decode cX6_stands 197 = .ok (.aload_n 0, 1) := by decide +kernel
theorem dX6_stands_198 : decode cX6_stands 198 = .ok (.getfield 46, 3) := by decide +kernel
theorem dX6_stands_201 : decode cX6_stands 201 = .ok (.iload_n 3, 1) := by decide +kernel
theorem dX6_stands_202 : decode cX6_stands 202 = .ok (.invokevirtual 117, 3) := by decide +kernel
theorem dX6_stands_205 : decode cX6_stands 205 = .ok (.iconst 1, 1) := by decide +kernel
theorem dX6_stands_206 : decode cX6_stands 206 = .ok (.iload 4, 2) := by decide +kernel
theorem dX6_stands_208 : decode cX6_stands 208 = .ok (.ishl, 1) := by decide +kernel
theorem dX6_stands_209 : decode cX6_stands 209 = .ok (.if_icmp .ne 7, 3) := by decide +kernel
theorem dX6_stands_212 : decode cX6_stands 212 = .ok (.iconst 1, 1) := by decide +kernel
theorem dX6_stands_213 : decode cX6_stands 213 = .ok (.goto 4, 3) := by decide +kernel
theorem dX6_stands_216 : decode cX6_stands 216 = .ok (.iconst 0, 1) := by decide +kernel
theorem dX6_stands_217 : decode cX6_stands 217 = .ok (.ireturn, 1) := by decide +kernel
theorem dX6_stands_218 : decode cX6_stands 218 = .ok (.aload_n 0, 1) := by decide +kernel
theorem dX6_stands_219 : decode cX6_stands 219 = .ok (.getfield 26, 3) := by decide +kernel
theorem dX6_stands_222 : decode cX6_stands 222 = .ok (.iload_n 2, 1) := by decide +kernel
theorem dX6_stands_223 : decode cX6_stands 223 = .ok (.invokevirtual 83, 3) := by decide +kernel
theorem dX6_stands_226 : decode cX6_stands 226 = .ok (.ifCond .eq 18, 3) := by decide +kernel
theorem dX6_stands_229 : decode cX6_stands 229 = .ok (.aload_n 0, 1) := by decide +kernel
theorem dX6_stands_230 : decode cX6_stands 230 = .ok (.getfield 26, 3) := by decide +kernel
theorem dX6_stands_233 : decode cX6_stands 233 = .ok (.iload_n 2, 1) := by decide +kernel
theorem dX6_stands_234 : decode cX6_stands 234 = .ok (.invokevirtual 90, 3) := by decide +kernel
theorem dX6_stands_237 : decode cX6_stands 237 = .ok (.ifCond .eq 7, 3) := by decide +kernel
theorem dX6_stands_240 : decode cX6_stands 240 = .ok (.iconst 1, 1) := by decide +kernel
theorem dX6_stands_241 : decode cX6_stands 241 = .ok (.goto 4, 3) := by decide +kernel
theorem dX6_stands_244 : decode cX6_stands 244 = .ok (.iconst 0, 1) := by decide +kernel
theorem dX6_stands_245 : decode cX6_stands 245 = .ok (.ireturn, 1) := by decide +kernel
theorem dX6_stands_246 : decode cX6_stands 246 = .ok (.aload_n 0, 1) := by decide +kernel
theorem dX6_stands_247 : decode cX6_stands 247 = .ok (.aload_n 0, 1) := by decide +kernel
theorem dX6_stands_248 : decode cX6_stands 248 = .ok (.getfield 26, 3) := by decide +kernel
theorem dX6_stands_251 : decode cX6_stands 251 = .ok (.invokevirtual 183, 3) := by decide +kernel
theorem dX6_stands_254 : decode cX6_stands 254 = .ok (.iload_n 2, 1) := by decide +kernel
theorem dX6_stands_255 : decode cX6_stands 255 = .ok (.ifCond .ne 8, 3) := by decide +kernel
theorem dX6_stands_258 : decode cX6_stands 258 = .ok (.bipush (-9), 2) := by decide +kernel
theorem dX6_stands_260 : decode cX6_stands 260 = .ok (.goto 4, 3) := by decide +kernel
theorem dX6_stands_263 : decode cX6_stands 263 = .ok (.iload_n 2, 1) := by decide +kernel
theorem dX6_stands_264 : decode cX6_stands 264 = .ok (.if_icmp .ne 7, 3) := by decide +kernel
theorem dX6_stands_267 : decode cX6_stands 267 = .ok (.iconst 1, 1) := by decide +kernel
theorem dX6_stands_268 : decode cX6_stands 268 = .ok (.goto 4, 3) := by decide +kernel
theorem dX6_stands_271 : decode cX6_stands 271 = .ok (.iconst 0, 1) := by decide +kernel
theorem dX6_stands_272 : decode cX6_stands 272 = .ok (.ireturn, 1) := by decide +kernel
theorem dX6_stands_273 : decode cX6_stands 273 = .ok (.iconst 0, 1) := by decide +kernel
theorem dX6_stands_274 : decode cX6_stands 274 = .ok (.ireturn, 1) := by decide +kernel
theorem dX6_drawAll_0 : decode cX6_drawAll 0 = .ok (.aload_n 0, 1) := by decide +kernel
theorem dX6_drawAll_1 : decode cX6_drawAll 1 = .ok (.getfield 46, 3) := by decide +kernel
theorem dX6_drawAll_4 : decode cX6_drawAll 4 = .ok (.aload_n 0, 1) := by decide +kernel
theorem dX6_drawAll_5 : decode cX6_drawAll 5 = .ok (.getfield 19, 3) := by decide +kernel
theorem dX6_drawAll_8 : decode cX6_drawAll 8 = .ok (.invokevirtual 199, 3) := by decide +kernel
theorem dX6_drawAll_11 : decode cX6_drawAll 11 = .ok (.iconst 1, 1) := by decide +kernel
theorem dX6_drawAll_12 : decode cX6_drawAll 12 = .ok (.istore_n 1, 1) := by decide +kernel
theorem dX6_drawAll_13 : decode cX6_drawAll 13 = .ok (.iload_n 1, 1) := by decide +kernel
theorem dX6_drawAll_14 : decode cX6_drawAll 14 = .ok (.aload_n 0, 1) := by decide +kernel
theorem dX6_drawAll_15 : decode cX6_drawAll 15 = .ok (.getfield 19, 3) := by decide +kernel
theorem dX6_drawAll_18 : decode cX6_drawAll 18 = .ok (.getfield 141, 3) := by decide +kernel
theorem dX6_drawAll_21 : decode cX6_drawAll 21 = .ok (.if_icmp .gt 21, 3) := by decide +kernel
theorem dX6_drawAll_24 : decode cX6_drawAll 24 = .ok (.aload_n 0, 1) := by decide +kernel
theorem dX6_drawAll_25 : decode cX6_drawAll 25 = .ok (.iload_n 1, 1) := by decide +kernel
theorem dX6_drawAll_26 : decode cX6_drawAll 26 = .ok (.invokevirtual 289, 3) := by decide +kernel
theorem dX6_drawAll_29 : decode cX6_drawAll 29 = .ok (.ifCond .ne 7, 3) := by decide +kernel
theorem dX6_drawAll_32 : decode cX6_drawAll 32 = .ok (.iload_n 1, 1) := by decide +kernel
theorem dX6_drawAll_33 : decode cX6_drawAll 33 = .ok (.iconst 1, 1) := by decide +kernel
theorem dX6_drawAll_34 : decode cX6_drawAll 34 = .ok (.isub, 1) := by decide +kernel
theorem dX6_drawAll_35 : decode cX6_drawAll 35 = .ok (.ireturn, 1) := by decide +kernel
theorem dX6_drawAll_36 : decode cX6_drawAll 36 = .ok (.iinc 1 1, 3) := by decide +kernel
theorem dX6_drawAll_39 : decode cX6_drawAll 39 = .ok (.goto (-26), 3) := by decide +kernel
theorem dX6_drawAll_42 : decode cX6_drawAll 42 = .ok (.aload_n 0, 1) := by decide +kernel
theorem dX6_drawAll_43 : decode cX6_drawAll 43 = .ok (.getfield 19, 3) := by decide +kernel
theorem dX6_drawAll_46 : decode cX6_drawAll 46 = .ok (.getfield 141, 3) := by decide +kernel
theorem dX6_drawAll_49 : decode cX6_drawAll 49 = .ok (.ireturn, 1) := by decide +kernel
theorem dX6_draw_0 : decode cX6_draw 0 = .ok (.aload_n 0, 1) := by decide +kernel
theorem dX6_draw_1 : decode cX6_draw 1 = .ok (.aload_n 0, 1) := by decide +kernel
theorem dX6_draw_2 : decode cX6_draw 2 = .ok (.getfield 266, 3) := by decide +kernel
theorem dX6_draw_5 : decode cX6_draw 5 = .ok (.ldc2_w 292, 3) := by decide +kernel
theorem dX6_draw_8 : decode cX6_draw 8 = .ok (.lmul, 1) := by decide +kernel
theorem dX6_draw_9 : decode cX6_draw 9 = .ok (.ldc2_w 294, 3) := by decide +kernel
theorem dX6_draw_12 : decode cX6_draw 12 = .ok (.ladd, 1) := by decide +kernel
theorem dX6_draw_13 : decode cX6_draw 13 = .ok (.putfield 266, 3) := by decide +kernel
theorem dX6_draw_16 : decode cX6_draw 16 = .ok (.aload_n 0, 1) := by decide +kernel
theorem dX6_draw_17 : decode cX6_draw 17 = .ok (.getfield 266, 3) := by decide +kernel
theorem dX6_draw_20 : decode cX6_draw 20 = .ok (.bipush 33, 2) := by decide +kernel
theorem dX6_draw_22 : decode cX6_draw 22 = .ok (.lushr, 1) := by decide +kernel
theorem dX6_draw_23 : decode cX6_draw 23 = .ok (.l2i, 1) := by decide +kernel
theorem dX6_draw_24 : decode cX6_draw 24 = .ok (.istore_n 2, 1) := by decide +kernel
theorem dX6_draw_25 : decode cX6_draw 25 = .ok (.aload_n 0, 1) := by decide +kernel
theorem dX6_draw_26 : decode cX6_draw 26 = .ok (.getfield 19, 3) := by decide +kernel
theorem dX6_draw_29 : decode cX6_draw 29 = .ok (.getfield 202, 3) := by decide +kernel
theorem dX6_draw_32 : decode cX6_draw 32 = .ok (.istore_n 3, 1) := by decide +kernel
theorem dX6_draw_33 : decode cX6_draw 33 = .ok (.iconst 0, 1) := by decide +kernel
theorem dX6_draw_34 : decode cX6_draw 34 = .ok (.istore 4, 2) := by decide +kernel
theorem dX6_draw_36 : decode cX6_draw 36 = .ok (.iload 4, 2) := by decide +kernel
theorem dX6_draw_38 : decode cX6_draw 38 = .ok (.iload_n 3, 1) := by decide +kernel
theorem dX6_draw_39 : decode cX6_draw 39 = .ok (.if_icmp .ge 30, 3) := by decide +kernel
theorem dX6_draw_42 : decode cX6_draw 42 = .ok (.aload_n 0, 1) := by decide +kernel
theorem dX6_draw_43 : decode cX6_draw 43 = .ok (.getfield 46, 3) := by decide +kernel
theorem dX6_draw_46 : decode cX6_draw 46 = .ok (.iload_n 1, 1) := by decide +kernel
theorem dX6_draw_47 : decode cX6_draw 47 = .ok (.iload_n 2, 1) := by decide +kernel
theorem dX6_draw_48 : decode cX6_draw 48 = .ok (.iload_n 3, 1) := by decide +kernel
theorem dX6_draw_49 : decode cX6_draw 49 = .ok (.irem, 1) := by decide +kernel
theorem dX6_draw_50 : decode cX6_draw 50 = .ok (.iload 4, 2) := by decide +kernel
theorem dX6_draw_52 : decode cX6_draw 52 = .ok (.iadd, 1) := by decide +kernel
theorem dX6_draw_53 : decode cX6_draw 53 = .ok (.iload_n 3, 1) := by decide +kernel
theorem dX6_draw_54 : decode cX6_draw 54 = .ok (.irem, 1) := by decide +kernel
theorem dX6_draw_55 : decode cX6_draw 55 = .ok (.invokevirtual 296, 3) := by decide +kernel
theorem dX6_draw_58 : decode cX6_draw 58 = .ok (.ifCond .eq 5, 3) := by decide +kernel
theorem dX6_draw_61 : decode cX6_draw 61 = .ok (.iconst 1, 1) := by decide +kernel
theorem dX6_draw_62 : decode cX6_draw 62 = .ok (.ireturn, 1) := by decide +kernel
theorem dX6_draw_63 : decode cX6_draw 63 = .ok (.iinc 4 1, 3) := by decide +kernel
theorem dX6_draw_66 : decode cX6_draw 66 = .ok (.goto (-30), 3) := by decide +kernel
theorem dX6_draw_69 : decode cX6_draw 69 = .ok (.iconst 0, 1) := by decide +kernel
theorem dX6_draw_70 : decode cX6_draw 70 = .ok (.ireturn, 1) := by decide +kernel
theorem dX6_slotAt_0 : decode cX6_slotAt 0 = .ok (.iload_n 1, 1) := by decide +kernel
theorem dX6_slotAt_1 : decode cX6_slotAt 1 = .ok (.ifCond .lt 21, 3) := by decide +kernel
theorem dX6_slotAt_4 : decode cX6_slotAt 4 = .ok (.iload_n 1, 1) := by decide +kernel
theorem dX6_slotAt_5 : decode cX6_slotAt 5 = .ok (.aload_n 0, 1) := by decide +kernel
theorem dX6_slotAt_6 : decode cX6_slotAt 6 = .ok (.getfield 32, 3) := by decide +kernel
theorem dX6_slotAt_9 : decode cX6_slotAt 9 = .ok (.arraylength, 1) := by decide +kernel
theorem dX6_slotAt_10 : decode cX6_slotAt 10 = .ok (.if_icmp .ge 12, 3) := by decide +kernel
theorem dX6_slotAt_13 : decode cX6_slotAt 13 = .ok (.aload_n 0, 1) := by decide +kernel
theorem dX6_slotAt_14 : decode cX6_slotAt 14 = .ok (.getfield 32, 3) := by decide +kernel
theorem dX6_slotAt_17 : decode cX6_slotAt 17 = .ok (.iload_n 1, 1) := by decide +kernel
theorem dX6_slotAt_18 : decode cX6_slotAt 18 = .ok (.aaload, 1) := by decide +kernel
theorem dX6_slotAt_19 : decode cX6_slotAt 19 = .ok (.goto 4, 3) := by decide +kernel
theorem dX6_slotAt_22 : decode cX6_slotAt 22 = .ok (.aconst_null, 1) := by decide +kernel
theorem dX6_slotAt_23 : decode cX6_slotAt 23 = .ok (.areturn, 1) := by decide +kernel
theorem dX6_empty_0 : decode cX6_empty 0 = .ok (.aload_n 0, 1) := by decide +kernel
theorem dX6_empty_1 : decode cX6_empty 1 = .ok (.ifnull 8, 3) := by decide +kernel
theorem dX6_empty_4 : decode cX6_empty 4 = .ok (.aload_n 0, 1) := by decide +kernel
theorem dX6_empty_5 : decode cX6_empty 5 = .ok (.iconst 0, 1) := by decide +kernel
theorem dX6_empty_6 : decode cX6_empty 6 = .ok (.putfield 141, 3) := by decide +kernel
theorem dX6_empty_9 : decode cX6_empty 9 = .ok (.return_, 1) := by decide +kernel
theorem dX6_power_0 : decode cX6_power 0 = .ok (.lconst 1, 1) := by decide +kernel
theorem dX6_power_1 : decode cX6_power 1 = .ok (.lstore_n 2, 1) := by decide +kernel
theorem dX6_power_2 : decode cX6_power 2 = .ok (.iconst 0, 1) := by decide +kernel
theorem dX6_power_3 : decode cX6_power 3 = .ok (.istore 4, 2) := by decide +kernel
theorem dX6_power_5 : decode cX6_power 5 = .ok (.iload 4, 2) := by decide +kernel
theorem dX6_power_7 : decode cX6_power 7 = .ok (.iload_n 1, 1) := by decide +kernel
theorem dX6_power_8 : decode cX6_power 8 = .ok (.if_icmp .ge 14, 3) := by decide +kernel
theorem dX6_power_11 : decode cX6_power 11 = .ok (.lload_n 2, 1) := by decide +kernel
theorem dX6_power_12 : decode cX6_power 12 = .ok (.iload_n 0, 1) := by decide +kernel
theorem dX6_power_13 : decode cX6_power 13 = .ok (.i2l, 1) := by decide +kernel
theorem dX6_power_14 : decode cX6_power 14 = .ok (.lmul, 1) := by decide +kernel
theorem dX6_power_15 : decode cX6_power 15 = .ok (.lstore_n 2, 1) := by decide +kernel
theorem dX6_power_16 : decode cX6_power 16 = .ok (.iinc 4 1, 3) := by decide +kernel
theorem dX6_power_19 : decode cX6_power 19 = .ok (.goto (-14), 3) := by decide +kernel
theorem dX6_power_22 : decode cX6_power 22 = .ok (.lload_n 2, 1) := by decide +kernel
theorem dX6_power_23 : decode cX6_power 23 = .ok (.lreturn, 1) := by decide +kernel
theorem dX6_factorial_0 : decode cX6_factorial 0 = .ok (.lconst 1, 1) := by decide +kernel
theorem dX6_factorial_1 : decode cX6_factorial 1 = .ok (.lstore_n 1, 1) := by decide +kernel
theorem dX6_factorial_2 : decode cX6_factorial 2 = .ok (.iconst 2, 1) := by decide +kernel
theorem dX6_factorial_3 : decode cX6_factorial 3 = .ok (.istore_n 3, 1) := by decide +kernel
theorem dX6_factorial_4 : decode cX6_factorial 4 = .ok (.iload_n 3, 1) := by decide +kernel
theorem dX6_factorial_5 : decode cX6_factorial 5 = .ok (.iload_n 0, 1) := by decide +kernel
theorem dX6_factorial_6 : decode cX6_factorial 6 = .ok (.if_icmp .gt 14, 3) := by decide +kernel
theorem dX6_factorial_9 : decode cX6_factorial 9 = .ok (.lload_n 1, 1) := by decide +kernel
theorem dX6_factorial_10 : decode cX6_factorial 10 = .ok (.iload_n 3, 1) := by decide +kernel
theorem dX6_factorial_11 : decode cX6_factorial 11 = .ok (.i2l, 1) := by decide +kernel
theorem dX6_factorial_12 : decode cX6_factorial 12 = .ok (.lmul, 1) := by decide +kernel
theorem dX6_factorial_13 : decode cX6_factorial 13 = .ok (.lstore_n 1, 1) := by decide +kernel
theorem dX6_factorial_14 : decode cX6_factorial 14 = .ok (.iinc 3 1, 3) := by decide +kernel
theorem dX6_factorial_17 : decode cX6_factorial 17 = .ok (.goto (-13), 3) := by decide +kernel
theorem dX6_factorial_20 : decode cX6_factorial 20 = .ok (.lload_n 1, 1) := by decide +kernel
theorem dX6_factorial_21 : decode cX6_factorial 21 = .ok (.lreturn, 1) := by decide +kernel
theorem dX6_fraction_0 : decode cX6_fraction 0 = .ok (.lload_n 2, 1) := by decide +kernel
theorem dX6_fraction_1 : decode cX6_fraction 1 = .ok (.lstore 5, 2) := by decide +kernel
theorem dX6_fraction_3 : decode cX6_fraction 3 = .ok (.lload_n 0, 1) := by decide +kernel
theorem dX6_fraction_4 : decode cX6_fraction 4 = .ok (.lstore 7, 2) := by decide +kernel
theorem dX6_fraction_6 : decode cX6_fraction 6 = .ok (.iconst 0, 1) := by decide +kernel
theorem dX6_fraction_7 : decode cX6_fraction 7 = .ok (.istore 9, 2) := by decide +kernel
theorem dX6_fraction_9 : decode cX6_fraction 9 = .ok (.iload 9, 2) := by decide +kernel
theorem dX6_fraction_11 : decode cX6_fraction 11 = .ok (.bipush 100, 2) := by decide +kernel
theorem dX6_fraction_13 : decode cX6_fraction 13 = .ok (.if_icmp .ge 31, 3) := by decide +kernel
theorem dX6_fraction_16 : decode cX6_fraction 16 = .ok (.lload 7, 2) := by decide +kernel
theorem dX6_fraction_18 : decode cX6_fraction 18 = .ok (.lconst 0, 1) := by decide +kernel
theorem dX6_fraction_19 : decode cX6_fraction 19 = .ok (.lcmp, 1) := by decide +kernel
theorem dX6_fraction_20 : decode cX6_fraction 20 = .ok (.ifCond .eq 24, 3) := by decide +kernel
theorem dX6_fraction_23 : decode cX6_fraction 23 = .ok (.lload 5, 2) := by decide +kernel
theorem dX6_fraction_25 : decode cX6_fraction 25 = .ok (.lload 7, 2) := by decide +kernel
theorem dX6_fraction_27 : decode cX6_fraction 27 = .ok (.lrem, 1) := by decide +kernel
theorem dX6_fraction_28 : decode cX6_fraction 28 = .ok (.lstore 10, 2) := by decide +kernel
theorem dX6_fraction_30 : decode cX6_fraction 30 = .ok (.lload 7, 2) := by decide +kernel
theorem dX6_fraction_32 : decode cX6_fraction 32 = .ok (.lstore 5, 2) := by decide +kernel
theorem dX6_fraction_34 : decode cX6_fraction 34 = .ok (.lload 10, 2) := by decide +kernel
theorem dX6_fraction_36 : decode cX6_fraction 36 = .ok (.lstore 7, 2) := by decide +kernel
theorem dX6_fraction_38 : decode cX6_fraction 38 = .ok (.iinc 9 1, 3) := by decide +kernel
theorem dX6_fraction_41 : decode cX6_fraction 41 = .ok (.goto (-32), 3) := by decide +kernel
theorem dX6_fraction_44 : decode cX6_fraction 44 = .ok (.lload 5, 2) := by decide +kernel
theorem dX6_fraction_46 : decode cX6_fraction 46 = .ok (.lconst 0, 1) := by decide +kernel
theorem dX6_fraction_47 : decode cX6_fraction 47 = .ok (.lcmp, 1) := by decide +kernel
theorem dX6_fraction_48 : decode cX6_fraction 48 = .ok (.ifCond .ne 5, 3) := by decide +kernel
theorem dX6_fraction_51 : decode cX6_fraction 51 = .ok (.iconst 0, 1) := by decide +kernel
theorem dX6_fraction_52 : decode cX6_fraction 52 = .ok (.ireturn, 1) := by decide +kernel
theorem dX6_fraction_53 : decode cX6_fraction 53 = .ok (.iload 4, 2) := by decide +kernel
theorem dX6_fraction_55 : decode cX6_fraction 55 = .ok (.ifCond .eq 7, 3) := by decide +kernel
theorem dX6_fraction_58 : decode cX6_fraction 58 = .ok (.lload_n 0, 1) := by decide +kernel
theorem dX6_fraction_59 : decode cX6_fraction 59 = .ok (.goto 4, 3) := by decide +kernel
theorem dX6_fraction_62 : decode cX6_fraction 62 = .ok (.lload_n 2, 1) := by decide +kernel
theorem dX6_fraction_63 : decode cX6_fraction 63 = .ok (.lload 5, 2) := by decide +kernel
theorem dX6_fraction_65 : decode cX6_fraction 65 = .ok (.ldiv, 1) := by decide +kernel
theorem dX6_fraction_66 : decode cX6_fraction 66 = .ok (.l2i, 1) := by decide +kernel
theorem dX6_fraction_67 : decode cX6_fraction 67 = .ok (.ireturn, 1) := by decide +kernel
theorem dX7_init_0 : decode cX7_init 0 = .ok (.aload_n 0, 1) := by decide +kernel
theorem dX7_init_1 : decode cX7_init 1 = .ok (.invokespecial 1, 3) := by decide +kernel
theorem dX7_init_4 : decode cX7_init 4 = .ok (.aload_n 0, 1) := by decide +kernel
theorem dX7_init_5 : decode cX7_init 5 = .ok (.bipush 60, 2) := by decide +kernel
theorem dX7_init_7 : decode cX7_init 7 = .ok (.newarray .int, 2) := by decide +kernel
theorem dX7_init_9 : decode cX7_init 9 = .ok (.putfield 7, 3) := by decide +kernel
theorem dX7_init_12 : decode cX7_init 12 = .ok (.aload_n 0, 1) := by decide +kernel
theorem dX7_init_13 : decode cX7_init 13 = .ok (.iconst 2, 1) := by decide +kernel
theorem dX7_init_14 : decode cX7_init 14 = .ok (.putfield 13, 3) := by decide +kernel
theorem dX7_init_17 : decode cX7_init 17 = .ok (.aload_n 0, 1) := by decide +kernel
theorem dX7_init_18 : decode cX7_init 18 = .ok (.bipush 39, 2) := by decide +kernel
theorem dX7_init_20 : decode cX7_init 20 = .ok (.newarray .int, 2) := by decide +kernel
theorem dX7_init_22 : decode cX7_init 22 = .ok (.putfield 17, 3) := by decide +kernel
theorem dX7_init_25 : decode cX7_init 25 = .ok (.aload_n 0, 1) := by decide +kernel
theorem dX7_init_26 : decode cX7_init 26 = .ok (.bipush 39, 2) := by decide +kernel
theorem dX7_init_28 : decode cX7_init 28 = .ok (.newarray .int, 2) := by decide +kernel
theorem dX7_init_30 : decode cX7_init 30 = .ok (.putfield 20, 3) := by decide +kernel
theorem dX7_init_33 : decode cX7_init 33 = .ok (.aload_n 0, 1) := by decide +kernel
theorem dX7_init_34 : decode cX7_init 34 = .ok (.bipush 39, 2) := by decide +kernel
theorem dX7_init_36 : decode cX7_init 36 = .ok (.newarray .int, 2) := by decide +kernel
theorem dX7_init_38 : decode cX7_init 38 = .ok (.putfield 23, 3) := by decide +kernel
theorem dX7_init_41 : decode cX7_init 41 = .ok (.aload_n 0, 1) := by decide +kernel
theorem dX7_init_42 : decode cX7_init 42 = .ok (.sipush 546, 3) := by decide +kernel
theorem dX7_init_45 : decode cX7_init 45 = .ok (.newarray .int, 2) := by decide +kernel
theorem dX7_init_47 : decode cX7_init 47 = .ok (.putfield 26, 3) := by decide +kernel
theorem dX7_init_50 : decode cX7_init 50 = .ok (.aload_n 0, 1) := by decide +kernel
theorem dX7_init_51 : decode cX7_init 51 = .ok (.bipush 78, 2) := by decide +kernel
theorem dX7_init_53 : decode cX7_init 53 = .ok (.newarray .int, 2) := by decide +kernel
theorem dX7_init_55 : decode cX7_init 55 = .ok (.putfield 29, 3) := by decide +kernel
theorem dX7_init_58 : decode cX7_init 58 = .ok (.aload_n 0, 1) := by decide +kernel
theorem dX7_init_59 : decode cX7_init 59 = .ok (.iconst 2, 1) := by decide +kernel
theorem dX7_init_60 : decode cX7_init 60 = .ok (.newarray .boolean, 2) := by decide +kernel
theorem dX7_init_62 : decode cX7_init 62 = .ok (.putfield 32, 3) := by decide +kernel
theorem dX7_init_65 : decode cX7_init 65 = .ok (.aload_n 0, 1) := by decide +kernel
theorem dX7_init_66 : decode cX7_init 66 = .ok (.bipush 6, 2) := by decide +kernel
theorem dX7_init_68 : decode cX7_init 68 = .ok (.newarray .int, 2) := by decide +kernel
theorem dX7_init_70 : decode cX7_init 70 = .ok (.putfield 36, 3) := by decide +kernel
theorem dX7_init_73 : decode cX7_init 73 = .ok (.aload_n 0, 1) := by decide +kernel
theorem dX7_init_74 : decode cX7_init 74 = .ok (.bipush 6, 2) := by decide +kernel
theorem dX7_init_76 : decode cX7_init 76 = .ok (.newarray .int, 2) := by decide +kernel
theorem dX7_init_78 : decode cX7_init 78 = .ok (.putfield 39, 3) := by decide +kernel
theorem dX7_init_81 : decode cX7_init 81 = .ok (.aload_n 0, 1) := by decide +kernel
theorem dX7_init_82 : decode cX7_init 82 = .ok (.bipush 6, 2) := by decide +kernel
theorem dX7_init_84 : decode cX7_init 84 = .ok (.newarray .int, 2) := by decide +kernel
theorem dX7_init_86 : decode cX7_init 86 = .ok (.putfield 42, 3) := by decide +kernel
theorem dX7_init_89 : decode cX7_init 89 = .ok (.aload_n 0, 1) := by decide +kernel
theorem dX7_init_90 : decode cX7_init 90 = .ok (.sipush 400, 3) := by decide +kernel
theorem dX7_init_93 : decode cX7_init 93 = .ok (.newarray .int, 2) := by decide +kernel
theorem dX7_init_95 : decode cX7_init 95 = .ok (.putfield 45, 3) := by decide +kernel
theorem dX7_init_98 : decode cX7_init 98 = .ok (.aload_n 0, 1) := by decide +kernel
theorem dX7_init_99 : decode cX7_init 99 = .ok (.bipush 12, 2) := by decide +kernel
theorem dX7_init_101 : decode cX7_init 101 = .ok (.newarray .int, 2) := by decide +kernel
theorem dX7_init_103 : decode cX7_init 103 = .ok (.putfield 48, 3) := by decide +kernel
theorem dX7_init_106 : decode cX7_init 106 = .ok (.aload_n 0, 1) := by decide +kernel
theorem dX7_init_107 : decode cX7_init 107 = .ok (.bipush 11, 2) := by decide +kernel
theorem dX7_init_109 : decode cX7_init 109 = .ok (.newarray .int, 2) := by decide +kernel
theorem dX7_init_111 : decode cX7_init 111 = .ok (.putfield 51, 3) := by decide +kernel
theorem dX7_init_114 : decode cX7_init 114 = .ok (.aload_n 0, 1) := by decide +kernel
theorem dX7_init_115 : decode cX7_init 115 = .ok (.iconst 3, 1) := by decide +kernel
theorem dX7_init_116 : decode cX7_init 116 = .ok (.newarray .int, 2) := by decide +kernel
theorem dX7_init_118 : decode cX7_init 118 = .ok (.putfield 54, 3) := by decide +kernel
theorem dX7_init_121 : decode cX7_init 121 = .ok (.aload_n 0, 1) := by decide +kernel
theorem dX7_init_122 : decode cX7_init 122 = .ok (.aload_n 0, 1) := by decide +kernel
theorem dX7_init_123 : decode cX7_init 123 = .ok (.getfield 20, 3) := by decide +kernel
theorem dX7_init_126 : decode cX7_init 126 = .ok (.putfield 57, 3) := by decide +kernel
theorem dX7_init_129 : decode cX7_init 129 = .ok (.aload_n 0, 1) := by decide +kernel
theorem dX7_init_130 : decode cX7_init 130 = .ok (.ldc 60, 2) := by decide +kernel
theorem dX7_init_132 : decode cX7_init 132 = .ok (.newarray .boolean, 2) := by decide +kernel
theorem dX7_init_134 : decode cX7_init 134 = .ok (.putfield 61, 3) := by decide +kernel
theorem dX7_init_137 : decode cX7_init 137 = .ok (.aload_n 0, 1) := by decide +kernel
theorem dX7_init_138 : decode cX7_init 138 = .ok (.bipush 12, 2) := by decide +kernel
theorem dX7_init_140 : decode cX7_init 140 = .ok (.newarray .boolean, 2) := by decide +kernel
theorem dX7_init_142 : decode cX7_init 142 = .ok (.putfield 64, 3) := by decide +kernel
theorem dX7_init_145 : decode cX7_init 145 = .ok (.aload_n 0, 1) := by decide +kernel
theorem dX7_init_146 : decode cX7_init 146 = .ok (.getfield 20, 3) := by decide +kernel
theorem dX7_init_149 : decode cX7_init 149 = .ok (.iconst 0, 1) := by decide +kernel
theorem dX7_init_150 : decode cX7_init 150 = .ok (.iconst 1, 1) := by decide +kernel
theorem dX7_init_151 : decode cX7_init 151 = .ok (.iastore, 1) := by decide +kernel
theorem dX7_init_152 : decode cX7_init 152 = .ok (.aload_n 0, 1) := by decide +kernel
theorem dX7_init_153 : decode cX7_init 153 = .ok (.getfield 20, 3) := by decide +kernel
theorem dX7_init_156 : decode cX7_init 156 = .ok (.bipush 28, 2) := by decide +kernel
theorem dX7_init_158 : decode cX7_init 158 = .ok (.iconst 1, 1) := by decide +kernel
theorem dX7_init_159 : decode cX7_init 159 = .ok (.iastore, 1) := by decide +kernel
theorem dX7_init_160 : decode cX7_init 160 = .ok (.return_, 1) := by decide +kernel
theorem dX7_in_0 : decode cX7_in 0 = .ok (.lload_n 0, 1) := by decide +kernel
theorem dX7_in_1 : decode cX7_in 1 = .ok (.lload_n 2, 1) := by decide +kernel
theorem dX7_in_2 : decode cX7_in 2 = .ok (.lcmp, 1) := by decide +kernel
theorem dX7_in_3 : decode cX7_in 3 = .ok (.ifCond .lt 14, 3) := by decide +kernel
theorem dX7_in_6 : decode cX7_in 6 = .ok (.lload_n 0, 1) := by decide +kernel
theorem dX7_in_7 : decode cX7_in 7 = .ok (.lload 4, 2) := by decide +kernel
theorem dX7_in_9 : decode cX7_in 9 = .ok (.lcmp, 1) := by decide +kernel
theorem dX7_in_10 : decode cX7_in 10 = .ok (.ifCond .gt 7, 3) := by decide +kernel
theorem dX7_in_13 : decode cX7_in 13 = .ok (.iconst 1, 1) := by decide +kernel
theorem dX7_in_14 : decode cX7_in 14 = .ok (.goto 4, 3) := by decide +kernel
theorem dX7_in_17 : decode cX7_in 17 = .ok (.iconst 0, 1) := by decide +kernel
theorem dX7_in_18 : decode cX7_in 18 = .ok (.ireturn, 1) := by decide +kernel
theorem dX7_has_0 : decode cX7_has 0 = .ok (.iload_n 0, 1) := by decide +kernel
theorem dX7_has_1 : decode cX7_has 1 = .ok (.iload_n 1, 1) := by decide +kernel
theorem dX7_has_2 : decode cX7_has 2 = .ok (.ishr, 1) := by decide +kernel
theorem dX7_has_3 : decode cX7_has 3 = .ok (.iconst 1, 1) := by decide +kernel
theorem dX7_has_4 : decode cX7_has 4 = .ok (.iand, 1) := by decide +kernel
theorem dX7_has_5 : decode cX7_has 5 = .ok (.iconst 1, 1) := by decide +kernel
theorem dX7_has_6 : decode cX7_has 6 = .ok (.if_icmp .ne 7, 3) := by decide +kernel
theorem dX7_has_9 : decode cX7_has 9 = .ok (.iconst 1, 1) := by decide +kernel
theorem dX7_has_10 : decode cX7_has 10 = .ok (.goto 4, 3) := by decide +kernel
theorem dX7_has_13 : decode cX7_has 13 = .ok (.iconst 0, 1) := by decide +kernel
theorem dX7_has_14 : decode cX7_has 14 = .ok (.ireturn, 1) := by decide +kernel
theorem dX7_ones_0 : decode cX7_ones 0 = .ok (.iconst 0, 1) := by decide +kernel
theorem dX7_ones_1 : decode cX7_ones 1 = .ok (.istore_n 1, 1) := by decide +kernel
theorem dX7_ones_2 : decode cX7_ones 2 = .ok (.iconst 0, 1) := by decide +kernel
theorem dX7_ones_3 : decode cX7_ones 3 = .ok (.istore_n 2, 1) := by decide +kernel
theorem dX7_ones_4 : decode cX7_ones 4 = .ok (.iload_n 2, 1) := by decide +kernel
theorem dX7_ones_5 : decode cX7_ones 5 = .ok (.bipush 12, 2) := by decide +kernel
theorem dX7_ones_7 : decode cX7_ones 7 = .ok (.if_icmp .ge 17, 3) := by decide +kernel
theorem dX7_ones_10 : decode cX7_ones 10 = .ok (.iload_n 1, 1) := by decide +kernel
theorem dX7_ones_11 : decode cX7_ones 11 = .ok (.iload_n 0, 1) := by decide +kernel
theorem dX7_ones_12 : decode cX7_ones 12 = .ok (.iload_n 2, 1) := by decide +kernel
theorem dX7_ones_13 : decode cX7_ones 13 = .ok (.ishr, 1) := by decide +kernel
theorem dX7_ones_14 : decode cX7_ones 14 = .ok (.iconst 1, 1) := by decide +kernel
theorem dX7_ones_15 : decode cX7_ones 15 = .ok (.iand, 1) := by decide +kernel
theorem dX7_ones_16 : decode cX7_ones 16 = .ok (.iadd, 1) := by decide +kernel
theorem dX7_ones_17 : decode cX7_ones 17 = .ok (.istore_n 1, 1) := by decide +kernel
theorem dX7_ones_18 : decode cX7_ones 18 = .ok (.iinc 2 1, 3) := by decide +kernel
theorem dX7_ones_21 : decode cX7_ones 21 = .ok (.goto (-17), 3) := by decide +kernel
theorem dX7_ones_24 : decode cX7_ones 24 = .ok (.iload_n 1, 1) := by decide +kernel
theorem dX7_ones_25 : decode cX7_ones 25 = .ok (.ireturn, 1) := by decide +kernel
theorem dX7_power_0 : decode cX7_power 0 = .ok (.iconst 1, 1) := by decide +kernel
theorem dX7_power_1 : decode cX7_power 1 = .ok (.istore_n 2, 1) := by decide +kernel
theorem dX7_power_2 : decode cX7_power 2 = .ok (.iconst 0, 1) := by decide +kernel
theorem dX7_power_3 : decode cX7_power 3 = .ok (.istore_n 3, 1) := by decide +kernel
theorem dX7_power_4 : decode cX7_power 4 = .ok (.iload_n 3, 1) := by decide +kernel
theorem dX7_power_5 : decode cX7_power 5 = .ok (.iload_n 1, 1) := by decide +kernel
theorem dX7_power_6 : decode cX7_power 6 = .ok (.if_icmp .ge 13, 3) := by decide +kernel
theorem dX7_power_9 : decode cX7_power 9 = .ok (.iload_n 2, 1) := by decide +kernel
theorem dX7_power_10 : decode cX7_power 10 = .ok (.iload_n 0, 1) := by decide +kernel
theorem dX7_power_11 : decode cX7_power 11 = .ok (.imul, 1) := by decide +kernel
theorem dX7_power_12 : decode cX7_power 12 = .ok (.istore_n 2, 1) := by decide +kernel
theorem dX7_power_13 : decode cX7_power 13 = .ok (.iinc 3 1, 3) := by decide +kernel
theorem dX7_power_16 : decode cX7_power 16 = .ok (.goto (-12), 3) := by decide +kernel
theorem dX7_power_19 : decode cX7_power 19 = .ok (.iload_n 2, 1) := by decide +kernel
theorem dX7_power_20 : decode cX7_power 20 = .ok (.ireturn, 1) := by decide +kernel
theorem dX7_layTrial_0 : decode cX7_layTrial 0 = .ok (.iconst 0, 1) := by decide +kernel
theorem dX7_layTrial_1 : decode cX7_layTrial 1 = .ok (.istore_n 1, 1) := by decide +kernel
theorem dX7_layTrial_2 : decode cX7_layTrial 2 = .ok (.iload_n 1, 1) := by decide +kernel
theorem dX7_layTrial_3 : decode cX7_layTrial 3 = .ok (.bipush 39, 2) := by decide +kernel
theorem dX7_layTrial_5 : decode cX7_layTrial 5 = .ok (.if_icmp .ge 21, 3) := by decide +kernel
theorem dX7_layTrial_8 : decode cX7_layTrial 8 = .ok (.aload_n 0, 1) := by decide +kernel
theorem dX7_layTrial_9 : decode cX7_layTrial 9 = .ok (.getfield 23, 3) := by decide +kernel
theorem dX7_layTrial_12 : decode cX7_layTrial 12 = .ok (.iload_n 1, 1) := by decide +kernel
theorem dX7_layTrial_13 : decode cX7_layTrial 13 = .ok (.aload_n 0, 1) := by decide +kernel
theorem dX7_layTrial_14 : decode cX7_layTrial 14 = .ok (.getfield 20, 3) := by decide +kernel
theorem dX7_layTrial_17 : decode cX7_layTrial 17 = .ok (.iload_n 1, 1) := by decide +kernel
theorem dX7_layTrial_18 : decode cX7_layTrial 18 = .ok (.iaload, 1) := by decide +kernel
theorem dX7_layTrial_19 : decode cX7_layTrial 19 = .ok (.iastore, 1) := by decide +kernel
theorem dX7_layTrial_20 : decode cX7_layTrial 20 = .ok (.iinc 1 1, 3) := by decide +kernel
theorem dX7_layTrial_23 : decode cX7_layTrial 23 = .ok (.goto (-21), 3) := by decide +kernel
theorem dX7_layTrial_26 : decode cX7_layTrial 26 = .ok (.return_, 1) := by decide +kernel
theorem dX7_write_0 : decode cX7_write 0 = .ok (.aload_n 0, 1) := by decide +kernel
theorem dX7_write_1 : decode cX7_write 1 = .ok (.iconst 0, 1) := by decide +kernel
theorem dX7_write_2 : decode cX7_write 2 = .ok (.putfield 67, 3) := by decide +kernel
theorem dX7_write_5 : decode cX7_write 5 = .ok (.iload_n 1, 1) := by decide +kernel
theorem dX7_write_6 : decode cX7_write 6 = .ok (.i2l, 1) := by decide +kernel
theorem dX7_write_7 : decode cX7_write 7 = .ok (.lconst 0, 1) := by decide +kernel
theorem dX7_write_8 : decode cX7_write 8 = .ok (.ldc2_w 70, 3) := by decide +kernel
theorem dX7_write_11 : decode cX7_write 11 = .ok (.invokestatic 72, 3) := by decide +kernel
theorem dX7_write_14 : decode cX7_write 14 = .ok (.ifCond .ne 6, 3) := by decide +kernel
theorem dX7_write_17 : decode cX7_write 17 = .ok (.bipush (-2), 2) := by decide +kernel
theorem dX7_write_19 : decode cX7_write 19 = .ok (.ireturn, 1) := by decide +kernel
theorem dX7_write_20 : decode cX7_write 20 = .ok (.aload_n 0, 1) := by decide +kernel
theorem dX7_write_21 : decode cX7_write 21 = .ok (.getfield 76, 3) := by decide +kernel
theorem dX7_write_24 : decode cX7_write 24 = .ok (.bipush 60, 2) := by decide +kernel
theorem dX7_write_26 : decode cX7_write 26 = .ok (.if_icmp .ne 6, 3) := by decide +kernel
theorem dX7_write_29 : decode cX7_write 29 = .ok (.bipush (-4), 2) := by decide +kernel
theorem dX7_write_31 : decode cX7_write 31 = .ok (.ireturn, 1) := by decide +kernel
theorem dX7_write_32 : decode cX7_write 32 = .ok (.aload_n 0, 1) := by decide +kernel
theorem dX7_write_33 : decode cX7_write 33 = .ok (.getfield 7, 3) := by decide +kernel
theorem dX7_write_36 : decode cX7_write 36 = .ok (.aload_n 0, 1) := by decide +kernel
theorem dX7_write_37 : decode cX7_write 37 = .ok (.getfield 76, 3) := by decide +kernel
theorem dX7_write_40 : decode cX7_write 40 = .ok (.iload_n 1, 1) := by decide +kernel
theorem dX7_write_41 : decode cX7_write 41 = .ok (.iastore, 1) := by decide +kernel
theorem dX7_write_42 : decode cX7_write 42 = .ok (.aload_n 0, 1) := by decide +kernel
theorem dX7_write_43 : decode cX7_write 43 = .ok (.dup, 1) := by decide +kernel
theorem dX7_write_44 : decode cX7_write 44 = .ok (.getfield 76, 3) := by decide +kernel
theorem dX7_write_47 : decode cX7_write 47 = .ok (.iconst 1, 1) := by decide +kernel
theorem dX7_write_48 : decode cX7_write 48 = .ok (.iadd, 1) := by decide +kernel
theorem dX7_write_49 : decode cX7_write 49 = .ok (.putfield 76, 3) := by decide +kernel
theorem dX7_write_52 : decode cX7_write 52 = .ok (.aload_n 0, 1) := by decide +kernel
theorem dX7_write_53 : decode cX7_write 53 = .ok (.getfield 76, 3) := by decide +kernel
theorem dX7_write_56 : decode cX7_write 56 = .ok (.ireturn, 1) := by decide +kernel
theorem dX7_wipe_0 : decode cX7_wipe 0 = .ok (.aload_n 0, 1) := by decide +kernel
theorem dX7_wipe_1 : decode cX7_wipe 1 = .ok (.iconst 0, 1) := by decide +kernel
theorem dX7_wipe_2 : decode cX7_wipe 2 = .ok (.putfield 67, 3) := by decide +kernel
theorem dX7_wipe_5 : decode cX7_wipe 5 = .ok (.aload_n 0, 1) := by decide +kernel
theorem dX7_wipe_6 : decode cX7_wipe 6 = .ok (.getfield 76, 3) := by decide +kernel
theorem dX7_wipe_9 : decode cX7_wipe 9 = .ok (.istore_n 1, 1) := by decide +kernel
theorem dX7_wipe_10 : decode cX7_wipe 10 = .ok (.aload_n 0, 1) := by decide +kernel
theorem dX7_wipe_11 : decode cX7_wipe 11 = .ok (.iconst 0, 1) := by decide +kernel
theorem dX7_wipe_12 : decode cX7_wipe 12 = .ok (.putfield 76, 3) := by decide +kernel
theorem dX7_wipe_15 : decode cX7_wipe 15 = .ok (.iload_n 1, 1) := by decide +kernel
theorem dX7_wipe_16 : decode cX7_wipe 16 = .ok (.ireturn, 1) := by decide +kernel
theorem dX7_figure_0 : decode cX7_figure 0 = .ok (.aload_n 0, 1) := by decide +kernel
theorem dX7_figure_1 : decode cX7_figure 1 = .ok (.getfield 79, 3) := by decide +kernel
theorem dX7_figure_4 : decode cX7_figure 4 = .ok (.aload_n 0, 1) := by decide +kernel
theorem dX7_figure_5 : decode cX7_figure 5 = .ok (.getfield 76, 3) := by decide +kernel
theorem dX7_figure_8 : decode cX7_figure 8 = .ok (.if_icmp .ge 18, 3) := by decide +kernel
theorem dX7_figure_11 : decode cX7_figure 11 = .ok (.aload_n 0, 1) := by decide +kernel
theorem dX7_figure_12 : decode cX7_figure 12 = .ok (.getfield 7, 3) := by decide +kernel
theorem dX7_figure_15 : decode cX7_figure 15 = .ok (.aload_n 0, 1) := by decide +kernel
theorem dX7_figure_16 : decode cX7_figure 16 = .ok (.getfield 79, 3) := by decide +kernel
theorem dX7_figure_19 : decode cX7_figure 19 = .ok (.iaload, 1) := by decide +kernel
theorem dX7_figure_20 : decode cX7_figure 20 = .ok (.bipush 48, 2) := by decide +kernel
theorem dX7_figure_22 : decode cX7_figure 22 = .ok (.isub, 1) := by decide +kernel
theorem dX7_figure_23 : decode cX7_figure 23 = .ok (.goto 6, 3) := by decide +kernel
theorem dX7_figure_26 : decode cX7_figure 26 = .ok (.sipush 1000, 3) := by decide +kernel
theorem dX7_figure_29 : decode cX7_figure 29 = .ok (.istore_n 3, 1) := by decide +kernel
theorem dX7_figure_30 : decode cX7_figure 30 = .ok (.iload_n 3, 1) := by decide +kernel
theorem dX7_figure_31 : decode cX7_figure 31 = .ok (.i2l, 1) := by decide +kernel
theorem dX7_figure_32 : decode cX7_figure 32 = .ok (.iload_n 1, 1) := by decide +kernel
theorem dX7_figure_33 : decode cX7_figure 33 = .ok (.i2l, 1) := by decide +kernel
theorem dX7_figure_34 : decode cX7_figure 34 = .ok (.iload_n 2, 1) := by decide +kernel
theorem dX7_figure_35 : decode cX7_figure 35 = .ok (.i2l, 1) := by decide +kernel
theorem dX7_figure_36 : decode cX7_figure 36 = .ok (.invokestatic 72, 3) := by decide +kernel
theorem dX7_figure_39 : decode cX7_figure 39 = .ok (.ifCond .ne 7, 3) := by decide +kernel
theorem dX7_figure_42 : decode cX7_figure 42 = .ok (.sipush 1000, 3) := by decide +kernel
theorem dX7_figure_45 : decode cX7_figure 45 = .ok (.ireturn, 1) := by decide +kernel
theorem dX7_figure_46 : decode cX7_figure 46 = .ok (.aload_n 0, 1) := by decide +kernel
theorem dX7_figure_47 : decode cX7_figure 47 = .ok (.dup, 1) := by decide +kernel
theorem dX7_figure_48 : decode cX7_figure 48 = .ok (.getfield 79, 3) := by decide +kernel
theorem dX7_figure_51 : decode cX7_figure 51 = .ok (.iconst 1, 1) := by decide +kernel
theorem dX7_figure_52 : decode cX7_figure 52 = .ok (.iadd, 1) := by decide +kernel
theorem dX7_figure_53 : decode cX7_figure 53 = .ok (.putfield 79, 3) := by decide +kernel
theorem dX7_figure_56 : decode cX7_figure 56 = .ok (.iload_n 3, 1) := by decide +kernel
theorem dX7_figure_57 : decode cX7_figure 57 = .ok (.ireturn, 1) := by decide +kernel
theorem dX7_factor_0 : decode cX7_factor 0 = .ok (.aload_n 0, 1) := by decide +kernel
theorem dX7_factor_1 : decode cX7_factor 1 = .ok (.getfield 79, 3) := by decide +kernel
theorem dX7_factor_4 : decode cX7_factor 4 = .ok (.aload_n 0, 1) := by decide +kernel
theorem dX7_factor_5 : decode cX7_factor 5 = .ok (.getfield 76, 3) := by decide +kernel
theorem dX7_factor_8 : decode cX7_factor 8 = .ok (.if_icmp .ge 18, 3) := by decide +kernel
theorem dX7_factor_11 : decode cX7_factor 11 = .ok (.aload_n 0, 1) := by decide +kernel
theorem dX7_factor_12 : decode cX7_factor 12 = .ok (.getfield 7, 3) := by decide +kernel
theorem dX7_factor_15 : decode cX7_factor 15 = .ok (.aload_n 0, 1) := by decide +kernel
theorem dX7_factor_16 : decode cX7_factor 16 = .ok (.getfield 79, 3) := by decide +kernel
theorem dX7_factor_19 : decode cX7_factor 19 = .ok (.iaload, 1) := by decide +kernel
theorem dX7_factor_20 : decode cX7_factor 20 = .ok (.bipush 96, 2) := by decide +kernel
theorem dX7_factor_22 : decode cX7_factor 22 = .ok (.isub, 1) := by decide +kernel
theorem dX7_factor_23 : decode cX7_factor 23 = .ok (.goto 6, 3) := by decide +kernel
theorem dX7_factor_26 : decode cX7_factor 26 = .ok (.sipush 1000, 3) := by decide +kernel
theorem dX7_factor_29 : decode cX7_factor 29 = .ok (.istore_n 1, 1) := by decide +kernel
theorem dX7_factor_30 : decode cX7_factor 30 = .ok (.iload_n 1, 1) := by decide +kernel
theorem dX7_factor_31 : decode cX7_factor 31 = .ok (.i2l, 1) := by decide +kernel
theorem dX7_factor_32 : decode cX7_factor 32 = .ok (.lconst 1, 1) := by decide +kernel
theorem dX7_factor_33 : decode cX7_factor 33 = .ok (.ldc2_w 82, 3) := by decide +kernel
theorem dX7_factor_36 : decode cX7_factor 36 = .ok (.invokestatic 72, 3) := by decide +kernel
theorem dX7_factor_39 : decode cX7_factor 39 = .ok (.ifCond .eq 16, 3) := by decide +kernel
theorem dX7_factor_42 : decode cX7_factor 42 = .ok (.aload_n 0, 1) := by decide +kernel
theorem dX7_factor_43 : decode cX7_factor 43 = .ok (.dup, 1) := by decide +kernel
theorem dX7_factor_44 : decode cX7_factor 44 = .ok (.getfield 79, 3) := by decide +kernel
theorem dX7_factor_47 : decode cX7_factor 47 = .ok (.iconst 1, 1) := by decide +kernel
theorem dX7_factor_48 : decode cX7_factor 48 = .ok (.iadd, 1) := by decide +kernel
theorem dX7_factor_49 : decode cX7_factor 49 = .ok (.putfield 79, 3) := by decide +kernel
theorem dX7_factor_52 : decode cX7_factor 52 = .ok (.iload_n 1, 1) := by decide +kernel
theorem dX7_factor_53 : decode cX7_factor 53 = .ok (.ineg, 1) := by decide +kernel
theorem dX7_factor_54 : decode cX7_factor 54 = .ok (.ireturn, 1) := by decide +kernel
theorem dX7_factor_55 : decode cX7_factor 55 = .ok (.aload_n 0, 1) := by decide +kernel
theorem dX7_factor_56 : decode cX7_factor 56 = .ok (.iconst 1, 1) := by decide +kernel
theorem dX7_factor_57 : decode cX7_factor 57 = .ok (.iconst 4, 1) := by decide +kernel
theorem dX7_factor_58 : decode cX7_factor 58 = .ok (.invokevirtual 84, 3) := by decide +kernel
theorem dX7_factor_61 : decode cX7_factor 61 = .ok (.ireturn, 1) := by decide +kernel
theorem dX7_readEquation_0 : decode cX7_readEquation 0 = .ok (.aload_n 0, 1) := by decide +kernel
theorem dX7_readEquation_1 : decode cX7_readEquation 1 = .ok (.getfield 17, 3) := by decide +kernel
theorem dX7_readEquation_4 : decode cX7_readEquation 4 = .ok (.iconst 1, 1) := by decide +kernel
theorem dX7_readEquation_5 : decode cX7_readEquation 5 = .ok (.iaload, 1) := by decide +kernel
theorem dX7_readEquation_6 : decode cX7_readEquation 6 = .ok (.iconst 4, 1) := by decide +kernel
theorem dX7_readEquation_7 : decode cX7_readEquation 7 = .ok (.if_icmp .ne 5, 3) := by decide +kernel
theorem dX7_readEquation_10 : decode cX7_readEquation 10 = .ok (.iconst 0, 1) := by decide +kernel
theorem dX7_readEquation_11 : decode cX7_readEquation 11 = .ok (.ireturn, 1) := by decide +kernel
theorem dX7_readEquation_12 : decode cX7_readEquation 12 = .ok (.aload_n 0, 1) := by decide +kernel
theorem dX7_readEquation_13 : decode cX7_readEquation 13 = .ok (.dup, 1) := by decide +kernel
theorem dX7_readEquation_14 : decode cX7_readEquation 14 = .ok (.getfield 79, 3) := by decide +kernel
theorem dX7_readEquation_17 : decode cX7_readEquation 17 = .ok (.iconst 1, 1) := by decide +kernel
theorem dX7_readEquation_18 : decode cX7_readEquation 18 = .ok (.iadd, 1) := by decide +kernel
theorem dX7_readEquation_19 : decode cX7_readEquation 19 = .ok (.putfield 79, 3) := by decide +kernel
theorem dX7_readEquation_22 : decode cX7_readEquation 22 = .ok (.iconst 2, 1) := by decide +kernel
theorem dX7_readEquation_23 : decode cX7_readEquation 23 = .ok (.iconst 4, 1) := by decide +kernel
theorem dX7_readEquation_24 : decode cX7_readEquation 24 = .ok (.aload_n 0, 1) := by decide +kernel
theorem dX7_readEquation_25 : decode cX7_readEquation 25 = .ok (.getfield 17, 3) := by decide +kernel
theorem dX7_readEquation_28 : decode cX7_readEquation 28 = .ok (.iconst 1, 1) := by decide +kernel
theorem dX7_readEquation_29 : decode cX7_readEquation 29 = .ok (.iaload, 1) := by decide +kernel
theorem dX7_readEquation_30 : decode cX7_readEquation 30 = .ok (.imul, 1) := by decide +kernel
theorem dX7_readEquation_31 : decode cX7_readEquation 31 = .ok (.iadd, 1) := by decide +kernel
theorem dX7_readEquation_32 : decode cX7_readEquation 32 = .ok (.istore_n 1, 1) := by decide +kernel
theorem dX7_readEquation_33 : decode cX7_readEquation 33 = .ok (.iconst 0, 1) := by decide +kernel
theorem dX7_readEquation_34 : decode cX7_readEquation 34 = .ok (.istore_n 2, 1) := by decide +kernel
theorem dX7_readEquation_35 : decode cX7_readEquation 35 = .ok (.iload_n 2, 1) := by decide +kernel
theorem dX7_readEquation_36 : decode cX7_readEquation 36 = .ok (.iconst 3, 1) := by decide +kernel
theorem dX7_readEquation_37 : decode cX7_readEquation 37 = .ok (.if_icmp .ge 32, 3) := by decide +kernel
theorem dX7_readEquation_40 : decode cX7_readEquation 40 = .ok (.aload_n 0, 1) := by decide +kernel
theorem dX7_readEquation_41 : decode cX7_readEquation 41 = .ok (.invokevirtual 88, 3) := by decide +kernel
theorem dX7_readEquation_44 : decode cX7_readEquation 44 = .ok (.istore_n 3, 1) := by decide +kernel
theorem dX7_readEquation_45 : decode cX7_readEquation 45 = .ok (.iload_n 3, 1) := by decide +kernel
theorem dX7_readEquation_46 : decode cX7_readEquation 46 = .ok (.sipush 1000, 3) := by decide +kernel
theorem dX7_readEquation_49 : decode cX7_readEquation 49 = .ok (.if_icmp .ne 5, 3) := by decide +kernel
theorem dX7_readEquation_52 : decode cX7_readEquation 52 = .ok (.iconst 0, 1) := by decide +kernel
theorem dX7_readEquation_53 : decode cX7_readEquation 53 = .ok (.ireturn, 1) := by decide +kernel
theorem dX7_readEquation_54 : decode cX7_readEquation 54 = .ok (.aload_n 0, 1) := by decide +kernel
theorem dX7_readEquation_55 : decode cX7_readEquation 55 = .ok (.getfield 17, 3) := by decide +kernel
theorem dX7_readEquation_58 : decode cX7_readEquation 58 = .ok (.iload_n 1, 1) := by decide +kernel
theorem dX7_readEquation_59 : decode cX7_readEquation 59 = .ok (.iload_n 2, 1) := by decide +kernel
theorem dX7_readEquation_60 : decode cX7_readEquation 60 = .ok (.iadd, 1) := by decide +kernel
theorem dX7_readEquation_61 : decode cX7_readEquation 61 = .ok (.iload_n 3, 1) := by decide +kernel
theorem dX7_readEquation_62 : decode cX7_readEquation 62 = .ok (.iastore, 1) := by decide +kernel
theorem dX7_readEquation_63 : decode cX7_readEquation 63 = .ok (.iinc 2 1, 3) := by decide +kernel
theorem dX7_readEquation_66 : decode cX7_readEquation 66 = .ok (.goto (-31), 3) := by decide +kernel
theorem dX7_readEquation_69 : decode cX7_readEquation 69 = .ok (.aload_n 0, 1) := by decide +kernel
theorem dX7_readEquation_70 : decode cX7_readEquation 70 = .ok (.getfield 79, 3) := by decide +kernel
theorem dX7_readEquation_73 : decode cX7_readEquation 73 = .ok (.aload_n 0, 1) := by decide +kernel
theorem dX7_readEquation_74 : decode cX7_readEquation 74 = .ok (.getfield 76, 3) := by decide +kernel
theorem dX7_readEquation_77 : decode cX7_readEquation 77 = .ok (.if_icmp .ge 15, 3) := by decide +kernel
theorem dX7_readEquation_80 : decode cX7_readEquation 80 = .ok (.aload_n 0, 1) := by decide +kernel
theorem dX7_readEquation_81 : decode cX7_readEquation 81 = .ok (.getfield 7, 3) := by decide +kernel
theorem dX7_readEquation_84 : decode cX7_readEquation 84 = .ok (.aload_n 0, 1) := by decide +kernel
theorem dX7_readEquation_85 : decode cX7_readEquation 85 = .ok (.getfield 79, 3) := by decide +kernel
theorem dX7_readEquation_88 : decode cX7_readEquation 88 = .ok (.iaload, 1) := by decide +kernel
theorem dX7_readEquation_89 : decode cX7_readEquation 89 = .ok (.goto 4, 3) := by decide +kernel
theorem dX7_readEquation_92 : decode cX7_readEquation 92 = .ok (.iconst 0, 1) := by decide +kernel
theorem dX7_readEquation_93 : decode cX7_readEquation 93 = .ok (.istore_n 2, 1) := by decide +kernel
theorem dX7_readEquation_94 : decode cX7_readEquation 94 = .ok (.iload_n 2, 1) := by decide +kernel
theorem dX7_readEquation_95 : decode cX7_readEquation 95 = .ok (.bipush 61, 2) := by decide +kernel
theorem dX7_readEquation_97 : decode cX7_readEquation 97 = .ok (.if_icmp .eq 11, 3) := by decide +kernel
theorem dX7_readEquation_100 : decode cX7_readEquation 100 = .ok (.iload_n 2, 1) := by decide +kernel
theorem dX7_readEquation_101 : decode cX7_readEquation 101 = .ok (.bipush 33, 2) := by decide +kernel
theorem dX7_readEquation_103 : decode cX7_readEquation 103 = .ok (.if_icmp .eq 5, 3) := by decide +kernel
theorem dX7_readEquation_106 : decode cX7_readEquation 106 = .ok (.iconst 0, 1) := by decide +kernel
theorem dX7_readEquation_107 : decode cX7_readEquation 107 = .ok (.ireturn, 1) := by decide +kernel
theorem dX7_readEquation_108 : decode cX7_readEquation 108 = .ok (.aload_n 0, 1) := by decide +kernel
theorem dX7_readEquation_109 : decode cX7_readEquation 109 = .ok (.dup, 1) := by decide +kernel
theorem dX7_readEquation_110 : decode cX7_readEquation 110 = .ok (.getfield 79, 3) := by decide +kernel
theorem dX7_readEquation_113 : decode cX7_readEquation 113 = .ok (.iconst 1, 1) := by decide +kernel
theorem dX7_readEquation_114 : decode cX7_readEquation 114 = .ok (.iadd, 1) := by decide +kernel
theorem dX7_readEquation_115 : decode cX7_readEquation 115 = .ok (.putfield 79, 3) := by decide +kernel
theorem dX7_readEquation_118 : decode cX7_readEquation 118 = .ok (.aload_n 0, 1) := by decide +kernel
theorem dX7_readEquation_119 : decode cX7_readEquation 119 = .ok (.getfield 17, 3) := by decide +kernel
theorem dX7_readEquation_122 : decode cX7_readEquation 122 = .ok (.iload_n 1, 1) := by decide +kernel
theorem dX7_readEquation_123 : decode cX7_readEquation 123 = .ok (.iconst 3, 1) := by decide +kernel
theorem dX7_readEquation_124 : decode cX7_readEquation 124 = .ok (.iadd, 1) := by decide +kernel
theorem dX7_readEquation_125 : decode cX7_readEquation 125 = .ok (.iload_n 2, 1) := by decide +kernel
theorem dX7_readEquation_126 : decode cX7_readEquation 126 = .ok (.bipush 33, 2) := by decide +kernel
theorem dX7_readEquation_128 : decode cX7_readEquation 128 = .ok (.if_icmp .ne 7, 3) := by decide +kernel
theorem dX7_readEquation_131 : decode cX7_readEquation 131 = .ok (.iconst 1, 1) := by decide +kernel
theorem dX7_readEquation_132 : decode cX7_readEquation 132 = .ok (.goto 4, 3) := by decide +kernel
theorem dX7_readEquation_135 : decode cX7_readEquation 135 = .ok (.iconst 0, 1) := by decide +kernel
theorem dX7_readEquation_136 : decode cX7_readEquation 136 = .ok (.iastore, 1) := by decide +kernel
theorem dX7_readEquation_137 : decode cX7_readEquation 137 = .ok (.aload_n 0, 1) := by decide +kernel
theorem dX7_readEquation_138 : decode cX7_readEquation 138 = .ok (.getfield 17, 3) := by decide +kernel
theorem dX7_readEquation_141 : decode cX7_readEquation 141 = .ok (.iconst 1, 1) := by decide +kernel
theorem dX7_readEquation_142 : decode cX7_readEquation 142 = .ok (.dup2, 1) := by decide +kernel
theorem dX7_readEquation_143 : decode cX7_readEquation 143 = .ok (.iaload, 1) := by decide +kernel
theorem dX7_readEquation_144 : decode cX7_readEquation 144 = .ok (.iconst 1, 1) := by decide +kernel
theorem dX7_readEquation_145 : decode cX7_readEquation 145 = .ok (.iadd, 1) := by decide +kernel
theorem dX7_readEquation_146 : decode cX7_readEquation 146 = .ok (.iastore, 1) := by decide +kernel
theorem dX7_readEquation_147 : decode cX7_readEquation 147 = .ok (.iconst 1, 1) := by decide +kernel
theorem dX7_readEquation_148 : decode cX7_readEquation 148 = .ok (.ireturn, 1) := by decide +kernel
theorem dX7_isBare_0 : decode cX7_isBare 0 = .ok (.iload_n 1, 1) := by decide +kernel
theorem dX7_isBare_1 : decode cX7_isBare 1 = .ok (.i2l, 1) := by decide +kernel
theorem dX7_isBare_2 : decode cX7_isBare 2 = .ok (.lconst 1, 1) := by decide +kernel
theorem dX7_isBare_3 : decode cX7_isBare 3 = .ok (.aload_n 0, 1) := by decide +kernel
theorem dX7_isBare_4 : decode cX7_isBare 4 = .ok (.getfield 17, 3) := by decide +kernel
theorem dX7_isBare_7 : decode cX7_isBare 7 = .ok (.iconst 0, 1) := by decide +kernel
theorem dX7_isBare_8 : decode cX7_isBare 8 = .ok (.iaload, 1) := by decide +kernel
theorem dX7_isBare_9 : decode cX7_isBare 9 = .ok (.i2l, 1) := by decide +kernel
theorem dX7_isBare_10 : decode cX7_isBare 10 = .ok (.invokestatic 72, 3) := by decide +kernel
theorem dX7_isBare_13 : decode cX7_isBare 13 = .ok (.ifCond .eq 21, 3) := by decide +kernel
theorem dX7_isBare_16 : decode cX7_isBare 16 = .ok (.aload_n 0, 1) := by decide +kernel
theorem dX7_isBare_17 : decode cX7_isBare 17 = .ok (.getfield 17, 3) := by decide +kernel
theorem dX7_isBare_20 : decode cX7_isBare 20 = .ok (.bipush 18, 2) := by decide +kernel
theorem dX7_isBare_22 : decode cX7_isBare 22 = .ok (.iload_n 1, 1) := by decide +kernel
theorem dX7_isBare_23 : decode cX7_isBare 23 = .ok (.iadd, 1) := by decide +kernel
theorem dX7_isBare_24 : decode cX7_isBare 24 = .ok (.iconst 1, 1) := by decide +kernel
theorem dX7_isBare_25 : decode cX7_isBare 25 = .ok (.isub, 1) := by decide +kernel
theorem dX7_isBare_26 : decode cX7_isBare 26 = .ok (.iaload, 1) := by decide +kernel
theorem dX7_isBare_27 : decode cX7_isBare 27 = .ok (.ifCond .ne 7, 3) := by decide +kernel
theorem dX7_isBare_30 : decode cX7_isBare 30 = .ok (.iconst 1, 1) := by decide +kernel
theorem dX7_isBare_31 : decode cX7_isBare 31 = .ok (.goto 4, 3) := by decide +kernel
theorem dX7_isBare_34 : decode cX7_isBare 34 = .ok (.iconst 0, 1) := by decide +kernel
theorem dX7_isBare_35 : decode cX7_isBare 35 = .ok (.ireturn, 1) := by decide +kernel
theorem dX7_readPin_0 : decode cX7_readPin 0 = .ok (.iconst 0, 1) := by decide +kernel
theorem dX7_readPin_1 : decode cX7_readPin 1 = .ok (.istore_n 1, 1) := by decide +kernel
theorem dX7_readPin_2 : decode cX7_readPin 2 = .ok (.iconst 1, 1) := by decide +kernel
theorem dX7_readPin_3 : decode cX7_readPin 3 = .ok (.istore_n 2, 1) := by decide +kernel
theorem dX7_readPin_4 : decode cX7_readPin 4 = .ok (.iload_n 2, 1) := by decide +kernel
theorem dX7_readPin_5 : decode cX7_readPin 5 = .ok (.bipush 10, 2) := by decide +kernel
theorem dX7_readPin_7 : decode cX7_readPin 7 = .ok (.if_icmp .gt 27, 3) := by decide +kernel
end
section
theorem dX7_readPin_10 : decode cX7_readPin 10 = .ok (.iload_n 1, 1) := by decide +kernel
theorem dX7_readPin_11 : decode cX7_readPin 11 = .ok (.ifCond .ne 11, 3) := by decide +kernel
theorem dX7_readPin_14 : decode cX7_readPin 14 = .ok (.aload_n 0, 1) := by decide +kernel
theorem dX7_readPin_15 : decode cX7_readPin 15 = .ok (.iload_n 2, 1) := by decide +kernel
theorem dX7_readPin_16 : decode cX7_readPin 16 = .ok (.invokevirtual 92, 3) := by decide +kernel
theorem dX7_readPin_19 : decode cX7_readPin 19 = .ok (.ifCond .eq 7, 3) := by decide +kernel
theorem dX7_readPin_22 : decode cX7_readPin 22 = .ok (.iconst 1, 1) := by decide +kernel
theorem dX7_readPin_23 : decode cX7_readPin 23 = .ok (.goto 4, 3) := by decide +kernel
theorem dX7_readPin_26 : decode cX7_readPin 26 = .ok (.iconst 0, 1) := by decide +kernel
theorem dX7_readPin_27 : decode cX7_readPin 27 = .ok (.istore_n 1, 1) := by decide +kernel
theorem dX7_readPin_28 : decode cX7_readPin 28 = .ok (.iinc 2 1, 3) := by decide +kernel
theorem dX7_readPin_31 : decode cX7_readPin 31 = .ok (.goto (-27), 3) := by decide +kernel
theorem dX7_readPin_34 : decode cX7_readPin 34 = .ok (.iload_n 1, 1) := by decide +kernel
theorem dX7_readPin_35 : decode cX7_readPin 35 = .ok (.ifCond .ne 5, 3) := by decide +kernel
theorem dX7_readPin_38 : decode cX7_readPin 38 = .ok (.iconst 0, 1) := by decide +kernel
theorem dX7_readPin_39 : decode cX7_readPin 39 = .ok (.ireturn, 1) := by decide +kernel
theorem dX7_readPin_40 : decode cX7_readPin 40 = .ok (.aload_n 0, 1) := by decide +kernel
theorem dX7_readPin_41 : decode cX7_readPin 41 = .ok (.dup, 1) := by decide +kernel
theorem dX7_readPin_42 : decode cX7_readPin 42 = .ok (.getfield 79, 3) := by decide +kernel
theorem dX7_readPin_45 : decode cX7_readPin 45 = .ok (.iconst 1, 1) := by decide +kernel
theorem dX7_readPin_46 : decode cX7_readPin 46 = .ok (.iadd, 1) := by decide +kernel
theorem dX7_readPin_47 : decode cX7_readPin 47 = .ok (.putfield 79, 3) := by decide +kernel
theorem dX7_readPin_50 : decode cX7_readPin 50 = .ok (.aload_n 0, 1) := by decide +kernel
theorem dX7_readPin_51 : decode cX7_readPin 51 = .ok (.getfield 79, 3) := by decide +kernel
theorem dX7_readPin_54 : decode cX7_readPin 54 = .ok (.aload_n 0, 1) := by decide +kernel
theorem dX7_readPin_55 : decode cX7_readPin 55 = .ok (.getfield 76, 3) := by decide +kernel
theorem dX7_readPin_58 : decode cX7_readPin 58 = .ok (.if_icmp .ge 18, 3) := by decide +kernel
theorem dX7_readPin_61 : decode cX7_readPin 61 = .ok (.aload_n 0, 1) := by decide +kernel
theorem dX7_readPin_62 : decode cX7_readPin 62 = .ok (.getfield 7, 3) := by decide +kernel
theorem dX7_readPin_65 : decode cX7_readPin 65 = .ok (.aload_n 0, 1) := by decide +kernel
theorem dX7_readPin_66 : decode cX7_readPin 66 = .ok (.getfield 79, 3) := by decide +kernel
theorem dX7_readPin_69 : decode cX7_readPin 69 = .ok (.iaload, 1) := by decide +kernel
theorem dX7_readPin_70 : decode cX7_readPin 70 = .ok (.bipush 48, 2) := by decide +kernel
theorem dX7_readPin_72 : decode cX7_readPin 72 = .ok (.isub, 1) := by decide +kernel
theorem dX7_readPin_73 : decode cX7_readPin 73 = .ok (.goto 6, 3) := by decide +kernel
theorem dX7_readPin_76 : decode cX7_readPin 76 = .ok (.sipush 1000, 3) := by decide +kernel
theorem dX7_readPin_79 : decode cX7_readPin 79 = .ok (.istore_n 2, 1) := by decide +kernel
theorem dX7_readPin_80 : decode cX7_readPin 80 = .ok (.iconst 0, 1) := by decide +kernel
theorem dX7_readPin_81 : decode cX7_readPin 81 = .ok (.istore_n 3, 1) := by decide +kernel
theorem dX7_readPin_82 : decode cX7_readPin 82 = .ok (.iconst 0, 1) := by decide +kernel
theorem dX7_readPin_83 : decode cX7_readPin 83 = .ok (.istore 4, 2) := by decide +kernel
theorem dX7_readPin_85 : decode cX7_readPin 85 = .ok (.iload 4, 2) := by decide +kernel
theorem dX7_readPin_87 : decode cX7_readPin 87 = .ok (.bipush 10, 2) := by decide +kernel
theorem dX7_readPin_89 : decode cX7_readPin 89 = .ok (.if_icmp .ge 43, 3) := by decide +kernel
theorem dX7_readPin_92 : decode cX7_readPin 92 = .ok (.iload_n 3, 1) := by decide +kernel
theorem dX7_readPin_93 : decode cX7_readPin 93 = .ok (.ifCond .ne 27, 3) := by decide +kernel
theorem dX7_readPin_96 : decode cX7_readPin 96 = .ok (.iload_n 2, 1) := by decide +kernel
theorem dX7_readPin_97 : decode cX7_readPin 97 = .ok (.i2l, 1) := by decide +kernel
theorem dX7_readPin_98 : decode cX7_readPin 98 = .ok (.lconst 0, 1) := by decide +kernel
theorem dX7_readPin_99 : decode cX7_readPin 99 = .ok (.lconst 1, 1) := by decide +kernel
theorem dX7_readPin_100 : decode cX7_readPin 100 = .ok (.invokestatic 72, 3) := by decide +kernel
theorem dX7_readPin_103 : decode cX7_readPin 103 = .ok (.ifCond .eq 21, 3) := by decide +kernel
theorem dX7_readPin_106 : decode cX7_readPin 106 = .ok (.aload_n 0, 1) := by decide +kernel
theorem dX7_readPin_107 : decode cX7_readPin 107 = .ok (.bipush 10, 2) := by decide +kernel
theorem dX7_readPin_109 : decode cX7_readPin 109 = .ok (.iload_n 2, 1) := by decide +kernel
theorem dX7_readPin_110 : decode cX7_readPin 110 = .ok (.imul, 1) := by decide +kernel
theorem dX7_readPin_111 : decode cX7_readPin 111 = .ok (.iload 4, 2) := by decide +kernel
theorem dX7_readPin_113 : decode cX7_readPin 113 = .ok (.iadd, 1) := by decide +kernel
theorem dX7_readPin_114 : decode cX7_readPin 114 = .ok (.invokevirtual 92, 3) := by decide +kernel
theorem dX7_readPin_117 : decode cX7_readPin 117 = .ok (.ifCond .eq 7, 3) := by decide +kernel
theorem dX7_readPin_120 : decode cX7_readPin 120 = .ok (.iconst 1, 1) := by decide +kernel
theorem dX7_readPin_121 : decode cX7_readPin 121 = .ok (.goto 4, 3) := by decide +kernel
theorem dX7_readPin_124 : decode cX7_readPin 124 = .ok (.iconst 0, 1) := by decide +kernel
theorem dX7_readPin_125 : decode cX7_readPin 125 = .ok (.istore_n 3, 1) := by decide +kernel
theorem dX7_readPin_126 : decode cX7_readPin 126 = .ok (.iinc 4 1, 3) := by decide +kernel
theorem dX7_readPin_129 : decode cX7_readPin 129 = .ok (.goto (-44), 3) := by decide +kernel
theorem dX7_readPin_132 : decode cX7_readPin 132 = .ok (.iload_n 3, 1) := by decide +kernel
theorem dX7_readPin_133 : decode cX7_readPin 133 = .ok (.ifCond .ne 5, 3) := by decide +kernel
theorem dX7_readPin_136 : decode cX7_readPin 136 = .ok (.iconst 0, 1) := by decide +kernel
theorem dX7_readPin_137 : decode cX7_readPin 137 = .ok (.ireturn, 1) := by decide +kernel
theorem dX7_readPin_138 : decode cX7_readPin 138 = .ok (.aload_n 0, 1) := by decide +kernel
theorem dX7_readPin_139 : decode cX7_readPin 139 = .ok (.dup, 1) := by decide +kernel
theorem dX7_readPin_140 : decode cX7_readPin 140 = .ok (.getfield 79, 3) := by decide +kernel
theorem dX7_readPin_143 : decode cX7_readPin 143 = .ok (.iconst 1, 1) := by decide +kernel
theorem dX7_readPin_144 : decode cX7_readPin 144 = .ok (.iadd, 1) := by decide +kernel
theorem dX7_readPin_145 : decode cX7_readPin 145 = .ok (.putfield 79, 3) := by decide +kernel
theorem dX7_readPin_148 : decode cX7_readPin 148 = .ok (.aload_n 0, 1) := by decide +kernel
theorem dX7_readPin_149 : decode cX7_readPin 149 = .ok (.getfield 79, 3) := by decide +kernel
theorem dX7_readPin_152 : decode cX7_readPin 152 = .ok (.aload_n 0, 1) := by decide +kernel
theorem dX7_readPin_153 : decode cX7_readPin 153 = .ok (.getfield 76, 3) := by decide +kernel
theorem dX7_readPin_156 : decode cX7_readPin 156 = .ok (.if_icmp .ge 18, 3) := by decide +kernel
theorem dX7_readPin_159 : decode cX7_readPin 159 = .ok (.aload_n 0, 1) := by decide +kernel
theorem dX7_readPin_160 : decode cX7_readPin 160 = .ok (.getfield 7, 3) := by decide +kernel
theorem dX7_readPin_163 : decode cX7_readPin 163 = .ok (.aload_n 0, 1) := by decide +kernel
theorem dX7_readPin_164 : decode cX7_readPin 164 = .ok (.getfield 79, 3) := by decide +kernel
theorem dX7_readPin_167 : decode cX7_readPin 167 = .ok (.iaload, 1) := by decide +kernel
theorem dX7_readPin_168 : decode cX7_readPin 168 = .ok (.bipush 48, 2) := by decide +kernel
theorem dX7_readPin_170 : decode cX7_readPin 170 = .ok (.isub, 1) := by decide +kernel
theorem dX7_readPin_171 : decode cX7_readPin 171 = .ok (.goto 6, 3) := by decide +kernel
theorem dX7_readPin_174 : decode cX7_readPin 174 = .ok (.sipush 1000, 3) := by decide +kernel
theorem dX7_readPin_177 : decode cX7_readPin 177 = .ok (.istore 4, 2) := by decide +kernel
theorem dX7_readPin_179 : decode cX7_readPin 179 = .ok (.iload 4, 2) := by decide +kernel
theorem dX7_readPin_181 : decode cX7_readPin 181 = .ok (.i2l, 1) := by decide +kernel
theorem dX7_readPin_182 : decode cX7_readPin 182 = .ok (.lconst 0, 1) := by decide +kernel
theorem dX7_readPin_183 : decode cX7_readPin 183 = .ok (.ldc2_w 96, 3) := by decide +kernel
theorem dX7_readPin_186 : decode cX7_readPin 186 = .ok (.invokestatic 72, 3) := by decide +kernel
theorem dX7_readPin_189 : decode cX7_readPin 189 = .ok (.ifCond .eq 17, 3) := by decide +kernel
theorem dX7_readPin_192 : decode cX7_readPin 192 = .ok (.aload_n 0, 1) := by decide +kernel
theorem dX7_readPin_193 : decode cX7_readPin 193 = .ok (.bipush 10, 2) := by decide +kernel
theorem dX7_readPin_195 : decode cX7_readPin 195 = .ok (.iload_n 2, 1) := by decide +kernel
theorem dX7_readPin_196 : decode cX7_readPin 196 = .ok (.imul, 1) := by decide +kernel
theorem dX7_readPin_197 : decode cX7_readPin 197 = .ok (.iload 4, 2) := by decide +kernel
theorem dX7_readPin_199 : decode cX7_readPin 199 = .ok (.iadd, 1) := by decide +kernel
theorem dX7_readPin_200 : decode cX7_readPin 200 = .ok (.invokevirtual 92, 3) := by decide +kernel
theorem dX7_readPin_203 : decode cX7_readPin 203 = .ok (.ifCond .ne 5, 3) := by decide +kernel
theorem dX7_readPin_206 : decode cX7_readPin 206 = .ok (.iconst 0, 1) := by decide +kernel
theorem dX7_readPin_207 : decode cX7_readPin 207 = .ok (.ireturn, 1) := by decide +kernel
theorem dX7_readPin_208 : decode cX7_readPin 208 = .ok (.aload_n 0, 1) := by decide +kernel
theorem dX7_readPin_209 : decode cX7_readPin 209 = .ok (.dup, 1) := by decide +kernel
theorem dX7_readPin_210 : decode cX7_readPin 210 = .ok (.getfield 79, 3) := by decide +kernel
theorem dX7_readPin_213 : decode cX7_readPin 213 = .ok (.iconst 1, 1) := by decide +kernel
theorem dX7_readPin_214 : decode cX7_readPin 214 = .ok (.iadd, 1) := by decide +kernel
theorem dX7_readPin_215 : decode cX7_readPin 215 = .ok (.putfield 79, 3) := by decide +kernel
theorem dX7_readPin_218 : decode cX7_readPin 218 = .ok (.aload_n 0, 1) := by decide +kernel
theorem dX7_readPin_219 : decode cX7_readPin 219 = .ok (.iconst 0, 1) := by decide +kernel
theorem dX7_readPin_220 : decode cX7_readPin 220 = .ok (.aload_n 0, 1) := by decide +kernel
theorem dX7_readPin_221 : decode cX7_readPin 221 = .ok (.getfield 98, 3) := by decide +kernel
theorem dX7_readPin_224 : decode cX7_readPin 224 = .ok (.iconst 1, 1) := by decide +kernel
theorem dX7_readPin_225 : decode cX7_readPin 225 = .ok (.isub, 1) := by decide +kernel
theorem dX7_readPin_226 : decode cX7_readPin 226 = .ok (.invokevirtual 84, 3) := by decide +kernel
theorem dX7_readPin_229 : decode cX7_readPin 229 = .ok (.istore 5, 2) := by decide +kernel
theorem dX7_readPin_231 : decode cX7_readPin 231 = .ok (.iload 5, 2) := by decide +kernel
theorem dX7_readPin_233 : decode cX7_readPin 233 = .ok (.sipush 1000, 3) := by decide +kernel
theorem dX7_readPin_236 : decode cX7_readPin 236 = .ok (.if_icmp .ne 5, 3) := by decide +kernel
theorem dX7_readPin_239 : decode cX7_readPin 239 = .ok (.iconst 0, 1) := by decide +kernel
theorem dX7_readPin_240 : decode cX7_readPin 240 = .ok (.ireturn, 1) := by decide +kernel
theorem dX7_readPin_241 : decode cX7_readPin 241 = .ok (.aload_n 0, 1) := by decide +kernel
theorem dX7_readPin_242 : decode cX7_readPin 242 = .ok (.getfield 17, 3) := by decide +kernel
theorem dX7_readPin_245 : decode cX7_readPin 245 = .ok (.bipush 18, 2) := by decide +kernel
theorem dX7_readPin_247 : decode cX7_readPin 247 = .ok (.bipush 10, 2) := by decide +kernel
theorem dX7_readPin_249 : decode cX7_readPin 249 = .ok (.iload_n 2, 1) := by decide +kernel
theorem dX7_readPin_250 : decode cX7_readPin 250 = .ok (.imul, 1) := by decide +kernel
theorem dX7_readPin_251 : decode cX7_readPin 251 = .ok (.iadd, 1) := by decide +kernel
theorem dX7_readPin_252 : decode cX7_readPin 252 = .ok (.iload 4, 2) := by decide +kernel
theorem dX7_readPin_254 : decode cX7_readPin 254 = .ok (.iadd, 1) := by decide +kernel
theorem dX7_readPin_255 : decode cX7_readPin 255 = .ok (.iconst 1, 1) := by decide +kernel
theorem dX7_readPin_256 : decode cX7_readPin 256 = .ok (.isub, 1) := by decide +kernel
theorem dX7_readPin_257 : decode cX7_readPin 257 = .ok (.iload 5, 2) := by decide +kernel
theorem dX7_readPin_259 : decode cX7_readPin 259 = .ok (.iconst 1, 1) := by decide +kernel
theorem dX7_readPin_260 : decode cX7_readPin 260 = .ok (.iadd, 1) := by decide +kernel
theorem dX7_readPin_261 : decode cX7_readPin 261 = .ok (.iastore, 1) := by decide +kernel
theorem dX7_readPin_262 : decode cX7_readPin 262 = .ok (.iconst 1, 1) := by decide +kernel
theorem dX7_readPin_263 : decode cX7_readPin 263 = .ok (.ireturn, 1) := by decide +kernel
theorem dX7_readTask_0 : decode cX7_readTask 0 = .ok (.aload_n 0, 1) := by decide +kernel
theorem dX7_readTask_1 : decode cX7_readTask 1 = .ok (.iconst 0, 1) := by decide +kernel
theorem dX7_readTask_2 : decode cX7_readTask 2 = .ok (.putfield 79, 3) := by decide +kernel
theorem dX7_readTask_5 : decode cX7_readTask 5 = .ok (.iconst 0, 1) := by decide +kernel
theorem dX7_readTask_6 : decode cX7_readTask 6 = .ok (.istore_n 1, 1) := by decide +kernel
theorem dX7_readTask_7 : decode cX7_readTask 7 = .ok (.iload_n 1, 1) := by decide +kernel
theorem dX7_readTask_8 : decode cX7_readTask 8 = .ok (.bipush 39, 2) := by decide +kernel
theorem dX7_readTask_10 : decode cX7_readTask 10 = .ok (.if_icmp .ge 16, 3) := by decide +kernel
theorem dX7_readTask_13 : decode cX7_readTask 13 = .ok (.aload_n 0, 1) := by decide +kernel
theorem dX7_readTask_14 : decode cX7_readTask 14 = .ok (.getfield 17, 3) := by decide +kernel
theorem dX7_readTask_17 : decode cX7_readTask 17 = .ok (.iload_n 1, 1) := by decide +kernel
theorem dX7_readTask_18 : decode cX7_readTask 18 = .ok (.iconst 0, 1) := by decide +kernel
theorem dX7_readTask_19 : decode cX7_readTask 19 = .ok (.iastore, 1) := by decide +kernel
theorem dX7_readTask_20 : decode cX7_readTask 20 = .ok (.iinc 1 1, 3) := by decide +kernel
theorem dX7_readTask_23 : decode cX7_readTask 23 = .ok (.goto (-16), 3) := by decide +kernel
theorem dX7_readTask_26 : decode cX7_readTask 26 = .ok (.aload_n 0, 1) := by decide +kernel
theorem dX7_readTask_27 : decode cX7_readTask 27 = .ok (.getfield 76, 3) := by decide +kernel
theorem dX7_readTask_30 : decode cX7_readTask 30 = .ok (.ifCond .eq 14, 3) := by decide +kernel
theorem dX7_readTask_33 : decode cX7_readTask 33 = .ok (.aload_n 0, 1) := by decide +kernel
theorem dX7_readTask_34 : decode cX7_readTask 34 = .ok (.getfield 7, 3) := by decide +kernel
theorem dX7_readTask_37 : decode cX7_readTask 37 = .ok (.iconst 0, 1) := by decide +kernel
theorem dX7_readTask_38 : decode cX7_readTask 38 = .ok (.iaload, 1) := by decide +kernel
theorem dX7_readTask_39 : decode cX7_readTask 39 = .ok (.bipush 82, 2) := by decide +kernel
theorem dX7_readTask_41 : decode cX7_readTask 41 = .ok (.if_icmp .eq 5, 3) := by decide +kernel
theorem dX7_readTask_44 : decode cX7_readTask 44 = .ok (.iconst 0, 1) := by decide +kernel
theorem dX7_readTask_45 : decode cX7_readTask 45 = .ok (.ireturn, 1) := by decide +kernel
theorem dX7_readTask_46 : decode cX7_readTask 46 = .ok (.aload_n 0, 1) := by decide +kernel
theorem dX7_readTask_47 : decode cX7_readTask 47 = .ok (.iconst 1, 1) := by decide +kernel
theorem dX7_readTask_48 : decode cX7_readTask 48 = .ok (.putfield 79, 3) := by decide +kernel
theorem dX7_readTask_51 : decode cX7_readTask 51 = .ok (.aload_n 0, 1) := by decide +kernel
theorem dX7_readTask_52 : decode cX7_readTask 52 = .ok (.iconst 0, 1) := by decide +kernel
theorem dX7_readTask_53 : decode cX7_readTask 53 = .ok (.iconst 1, 1) := by decide +kernel
theorem dX7_readTask_54 : decode cX7_readTask 54 = .ok (.invokevirtual 84, 3) := by decide +kernel
theorem dX7_readTask_57 : decode cX7_readTask 57 = .ok (.istore_n 1, 1) := by decide +kernel
theorem dX7_readTask_58 : decode cX7_readTask 58 = .ok (.iload_n 1, 1) := by decide +kernel
theorem dX7_readTask_59 : decode cX7_readTask 59 = .ok (.sipush 1000, 3) := by decide +kernel
theorem dX7_readTask_62 : decode cX7_readTask 62 = .ok (.if_icmp .ne 9, 3) := by decide +kernel
theorem dX7_readTask_65 : decode cX7_readTask 65 = .ok (.sipush 1000, 3) := by decide +kernel
theorem dX7_readTask_68 : decode cX7_readTask 68 = .ok (.goto 26, 3) := by decide +kernel
theorem dX7_readTask_71 : decode cX7_readTask 71 = .ok (.aload_n 0, 1) := by decide +kernel
theorem dX7_readTask_72 : decode cX7_readTask 72 = .ok (.iload_n 1, 1) := by decide +kernel
theorem dX7_readTask_73 : decode cX7_readTask 73 = .ok (.ifCond .ne 7, 3) := by decide +kernel
theorem dX7_readTask_76 : decode cX7_readTask 76 = .ok (.iconst 1, 1) := by decide +kernel
theorem dX7_readTask_77 : decode cX7_readTask 77 = .ok (.goto 4, 3) := by decide +kernel
theorem dX7_readTask_80 : decode cX7_readTask 80 = .ok (.iconst 0, 1) := by decide +kernel
theorem dX7_readTask_81 : decode cX7_readTask 81 = .ok (.iload_n 1, 1) := by decide +kernel
theorem dX7_readTask_82 : decode cX7_readTask 82 = .ok (.ifCond .ne 8, 3) := by decide +kernel
theorem dX7_readTask_85 : decode cX7_readTask 85 = .ok (.bipush 9, 2) := by decide +kernel
theorem dX7_readTask_87 : decode cX7_readTask 87 = .ok (.goto 4, 3) := by decide +kernel
theorem dX7_readTask_90 : decode cX7_readTask 90 = .ok (.iconst 0, 1) := by decide +kernel
theorem dX7_readTask_91 : decode cX7_readTask 91 = .ok (.invokevirtual 84, 3) := by decide +kernel
theorem dX7_readTask_94 : decode cX7_readTask 94 = .ok (.istore_n 2, 1) := by decide +kernel
theorem dX7_readTask_95 : decode cX7_readTask 95 = .ok (.aload_n 0, 1) := by decide +kernel
theorem dX7_readTask_96 : decode cX7_readTask 96 = .ok (.iload_n 2, 1) := by decide +kernel
theorem dX7_readTask_97 : decode cX7_readTask 97 = .ok (.sipush 1000, 3) := by decide +kernel
theorem dX7_readTask_100 : decode cX7_readTask 100 = .ok (.if_icmp .ne 9, 3) := by decide +kernel
theorem dX7_readTask_103 : decode cX7_readTask 103 = .ok (.sipush 1000, 3) := by decide +kernel
theorem dX7_readTask_106 : decode cX7_readTask 106 = .ok (.goto 9, 3) := by decide +kernel
theorem dX7_readTask_109 : decode cX7_readTask 109 = .ok (.aload_n 0, 1) := by decide +kernel
theorem dX7_readTask_110 : decode cX7_readTask 110 = .ok (.iconst 2, 1) := by decide +kernel
theorem dX7_readTask_111 : decode cX7_readTask 111 = .ok (.iconst 3, 1) := by decide +kernel
theorem dX7_readTask_112 : decode cX7_readTask 112 = .ok (.invokevirtual 84, 3) := by decide +kernel
theorem dX7_readTask_115 : decode cX7_readTask 115 = .ok (.putfield 98, 3) := by decide +kernel
theorem dX7_readTask_118 : decode cX7_readTask 118 = .ok (.aload_n 0, 1) := by decide +kernel
theorem dX7_readTask_119 : decode cX7_readTask 119 = .ok (.getfield 98, 3) := by decide +kernel
theorem dX7_readTask_122 : decode cX7_readTask 122 = .ok (.sipush 1000, 3) := by decide +kernel
theorem dX7_readTask_125 : decode cX7_readTask 125 = .ok (.if_icmp .ne 8, 3) := by decide +kernel
theorem dX7_readTask_128 : decode cX7_readTask 128 = .ok (.aload_n 0, 1) := by decide +kernel
theorem dX7_readTask_129 : decode cX7_readTask 129 = .ok (.getfield 79, 3) := by decide +kernel
theorem dX7_readTask_132 : decode cX7_readTask 132 = .ok (.ireturn, 1) := by decide +kernel
theorem dX7_readTask_133 : decode cX7_readTask 133 = .ok (.aload_n 0, 1) := by decide +kernel
theorem dX7_readTask_134 : decode cX7_readTask 134 = .ok (.getfield 17, 3) := by decide +kernel
theorem dX7_readTask_137 : decode cX7_readTask 137 = .ok (.iconst 0, 1) := by decide +kernel
theorem dX7_readTask_138 : decode cX7_readTask 138 = .ok (.bipush 10, 2) := by decide +kernel
theorem dX7_readTask_140 : decode cX7_readTask 140 = .ok (.iload_n 1, 1) := by decide +kernel
theorem dX7_readTask_141 : decode cX7_readTask 141 = .ok (.imul, 1) := by decide +kernel
theorem dX7_readTask_142 : decode cX7_readTask 142 = .ok (.iload_n 2, 1) := by decide +kernel
theorem dX7_readTask_143 : decode cX7_readTask 143 = .ok (.iadd, 1) := by decide +kernel
theorem dX7_readTask_144 : decode cX7_readTask 144 = .ok (.iastore, 1) := by decide +kernel
theorem dX7_readTask_145 : decode cX7_readTask 145 = .ok (.aload_n 0, 1) := by decide +kernel
theorem dX7_readTask_146 : decode cX7_readTask 146 = .ok (.getfield 79, 3) := by decide +kernel
theorem dX7_readTask_149 : decode cX7_readTask 149 = .ok (.aload_n 0, 1) := by decide +kernel
theorem dX7_readTask_150 : decode cX7_readTask 150 = .ok (.getfield 76, 3) := by decide +kernel
theorem dX7_readTask_153 : decode cX7_readTask 153 = .ok (.if_icmp .ge 63, 3) := by decide +kernel
theorem dX7_readTask_156 : decode cX7_readTask 156 = .ok (.aload_n 0, 1) := by decide +kernel
theorem dX7_readTask_157 : decode cX7_readTask 157 = .ok (.getfield 7, 3) := by decide +kernel
theorem dX7_readTask_160 : decode cX7_readTask 160 = .ok (.aload_n 0, 1) := by decide +kernel
theorem dX7_readTask_161 : decode cX7_readTask 161 = .ok (.getfield 79, 3) := by decide +kernel
theorem dX7_readTask_164 : decode cX7_readTask 164 = .ok (.iaload, 1) := by decide +kernel
theorem dX7_readTask_165 : decode cX7_readTask 165 = .ok (.bipush 101, 2) := by decide +kernel
theorem dX7_readTask_167 : decode cX7_readTask 167 = .ok (.if_icmp .ne 10, 3) := by decide +kernel
theorem dX7_readTask_170 : decode cX7_readTask 170 = .ok (.aload_n 0, 1) := by decide +kernel
theorem dX7_readTask_171 : decode cX7_readTask 171 = .ok (.invokevirtual 101, 3) := by decide +kernel
theorem dX7_readTask_174 : decode cX7_readTask 174 = .ok (.goto 29, 3) := by decide +kernel
theorem dX7_readTask_177 : decode cX7_readTask 177 = .ok (.aload_n 0, 1) := by decide +kernel
theorem dX7_readTask_178 : decode cX7_readTask 178 = .ok (.getfield 7, 3) := by decide +kernel
theorem dX7_readTask_181 : decode cX7_readTask 181 = .ok (.aload_n 0, 1) := by decide +kernel
theorem dX7_readTask_182 : decode cX7_readTask 182 = .ok (.getfield 79, 3) := by decide +kernel
theorem dX7_readTask_185 : decode cX7_readTask 185 = .ok (.iaload, 1) := by decide +kernel
theorem dX7_readTask_186 : decode cX7_readTask 186 = .ok (.bipush 112, 2) := by decide +kernel
theorem dX7_readTask_188 : decode cX7_readTask 188 = .ok (.if_icmp .ne 14, 3) := by decide +kernel
theorem dX7_readTask_191 : decode cX7_readTask 191 = .ok (.aload_n 0, 1) := by decide +kernel
theorem dX7_readTask_192 : decode cX7_readTask 192 = .ok (.invokevirtual 105, 3) := by decide +kernel
theorem dX7_readTask_195 : decode cX7_readTask 195 = .ok (.ifCond .eq 7, 3) := by decide +kernel
theorem dX7_readTask_198 : decode cX7_readTask 198 = .ok (.iconst 1, 1) := by decide +kernel
theorem dX7_readTask_199 : decode cX7_readTask 199 = .ok (.goto 4, 3) := by decide +kernel
theorem dX7_readTask_202 : decode cX7_readTask 202 = .ok (.iconst 0, 1) := by decide +kernel
theorem dX7_readTask_203 : decode cX7_readTask 203 = .ok (.istore_n 3, 1) := by decide +kernel
theorem dX7_readTask_204 : decode cX7_readTask 204 = .ok (.iload_n 3, 1) := by decide +kernel
theorem dX7_readTask_205 : decode cX7_readTask 205 = .ok (.ifCond .ne 8, 3) := by decide +kernel
theorem dX7_readTask_208 : decode cX7_readTask 208 = .ok (.aload_n 0, 1) := by decide +kernel
theorem dX7_readTask_209 : decode cX7_readTask 209 = .ok (.getfield 79, 3) := by decide +kernel
theorem dX7_readTask_212 : decode cX7_readTask 212 = .ok (.ireturn, 1) := by decide +kernel
theorem dX7_readTask_213 : decode cX7_readTask 213 = .ok (.goto (-68), 3) := by decide +kernel
theorem dX7_readTask_216 : decode cX7_readTask 216 = .ok (.bipush (-9), 2) := by decide +kernel
theorem dX7_readTask_218 : decode cX7_readTask 218 = .ok (.ireturn, 1) := by decide +kernel
theorem dX7_fault_0 : decode cX7_fault 0 = .ok (.aload_n 0, 1) := by decide +kernel
theorem dX7_fault_1 : decode cX7_fault 1 = .ok (.iconst 0, 1) := by decide +kernel
theorem dX7_fault_2 : decode cX7_fault 2 = .ok (.putfield 67, 3) := by decide +kernel
theorem dX7_fault_5 : decode cX7_fault 5 = .ok (.aload_n 0, 1) := by decide +kernel
theorem dX7_fault_6 : decode cX7_fault 6 = .ok (.invokevirtual 108, 3) := by decide +kernel
theorem dX7_fault_9 : decode cX7_fault 9 = .ok (.ireturn, 1) := by decide +kernel
theorem dX7_task_0 : decode cX7_task 0 = .ok (.aload_n 0, 1) := by decide +kernel
theorem dX7_task_1 : decode cX7_task 1 = .ok (.iconst 0, 1) := by decide +kernel
theorem dX7_task_2 : decode cX7_task 2 = .ok (.putfield 67, 3) := by decide +kernel
theorem dX7_task_5 : decode cX7_task 5 = .ok (.aload_n 0, 1) := by decide +kernel
theorem dX7_task_6 : decode cX7_task 6 = .ok (.invokevirtual 108, 3) := by decide +kernel
theorem dX7_task_9 : decode cX7_task 9 = .ok (.bipush (-9), 2) := by decide +kernel
theorem dX7_task_11 : decode cX7_task 11 = .ok (.if_icmp .eq 6, 3) := by decide +kernel
theorem dX7_task_14 : decode cX7_task 14 = .ok (.bipush (-3), 2) := by decide +kernel
theorem dX7_task_16 : decode cX7_task 16 = .ok (.ireturn, 1) := by decide +kernel
theorem dX7_task_17 : decode cX7_task 17 = .ok (.aload_n 0, 1) := by decide +kernel
theorem dX7_task_18 : decode cX7_task 18 = .ok (.aload_n 0, 1) := by decide +kernel
theorem dX7_task_19 : decode cX7_task 19 = .ok (.getfield 98, 3) := by decide +kernel
theorem dX7_task_22 : decode cX7_task 22 = .ok (.putfield 13, 3) := by decide +kernel
theorem dX7_task_25 : decode cX7_task 25 = .ok (.iconst 0, 1) := by decide +kernel
theorem dX7_task_26 : decode cX7_task 26 = .ok (.istore_n 1, 1) := by decide +kernel
theorem dX7_task_27 : decode cX7_task 27 = .ok (.iload_n 1, 1) := by decide +kernel
theorem dX7_task_28 : decode cX7_task 28 = .ok (.bipush 39, 2) := by decide +kernel
theorem dX7_task_30 : decode cX7_task 30 = .ok (.if_icmp .ge 21, 3) := by decide +kernel
theorem dX7_task_33 : decode cX7_task 33 = .ok (.aload_n 0, 1) := by decide +kernel
theorem dX7_task_34 : decode cX7_task 34 = .ok (.getfield 20, 3) := by decide +kernel
theorem dX7_task_37 : decode cX7_task 37 = .ok (.iload_n 1, 1) := by decide +kernel
theorem dX7_task_38 : decode cX7_task 38 = .ok (.aload_n 0, 1) := by decide +kernel
theorem dX7_task_39 : decode cX7_task 39 = .ok (.getfield 17, 3) := by decide +kernel
theorem dX7_task_42 : decode cX7_task 42 = .ok (.iload_n 1, 1) := by decide +kernel
theorem dX7_task_43 : decode cX7_task 43 = .ok (.iaload, 1) := by decide +kernel
theorem dX7_task_44 : decode cX7_task 44 = .ok (.iastore, 1) := by decide +kernel
theorem dX7_task_45 : decode cX7_task 45 = .ok (.iinc 1 1, 3) := by decide +kernel
theorem dX7_task_48 : decode cX7_task 48 = .ok (.goto (-21), 3) := by decide +kernel
theorem dX7_task_51 : decode cX7_task 51 = .ok (.aload_n 0, 1) := by decide +kernel
theorem dX7_task_52 : decode cX7_task 52 = .ok (.aload_n 0, 1) := by decide +kernel
theorem dX7_task_53 : decode cX7_task 53 = .ok (.getfield 20, 3) := by decide +kernel
theorem dX7_task_56 : decode cX7_task 56 = .ok (.invokevirtual 111, 3) := by decide +kernel
theorem dX7_task_59 : decode cX7_task 59 = .ok (.aload_n 0, 1) := by decide +kernel
theorem dX7_task_60 : decode cX7_task 60 = .ok (.iconst 0, 1) := by decide +kernel
theorem dX7_task_61 : decode cX7_task 61 = .ok (.putfield 115, 3) := by decide +kernel
theorem dX7_task_64 : decode cX7_task 64 = .ok (.aload_n 0, 1) := by decide +kernel
theorem dX7_task_65 : decode cX7_task 65 = .ok (.getfield 32, 3) := by decide +kernel
theorem dX7_task_68 : decode cX7_task 68 = .ok (.iconst 0, 1) := by decide +kernel
theorem dX7_task_69 : decode cX7_task 69 = .ok (.iconst 0, 1) := by decide +kernel
theorem dX7_task_70 : decode cX7_task 70 = .ok (.bastore, 1) := by decide +kernel
theorem dX7_task_71 : decode cX7_task 71 = .ok (.aload_n 0, 1) := by decide +kernel
theorem dX7_task_72 : decode cX7_task 72 = .ok (.getfield 32, 3) := by decide +kernel
theorem dX7_task_75 : decode cX7_task 75 = .ok (.iconst 1, 1) := by decide +kernel
theorem dX7_task_76 : decode cX7_task 76 = .ok (.iconst 0, 1) := by decide +kernel
theorem dX7_task_77 : decode cX7_task 77 = .ok (.bastore, 1) := by decide +kernel
theorem dX7_task_78 : decode cX7_task 78 = .ok (.aload_n 0, 1) := by decide +kernel
theorem dX7_task_79 : decode cX7_task 79 = .ok (.aload_n 0, 1) := by decide +kernel
theorem dX7_task_80 : decode cX7_task 80 = .ok (.getfield 20, 3) := by decide +kernel
theorem dX7_task_83 : decode cX7_task 83 = .ok (.invokevirtual 118, 3) := by decide +kernel
theorem dX7_task_86 : decode cX7_task 86 = .ok (.ireturn, 1) := by decide +kernel
theorem dX7_third_0 : decode cX7_third 0 = .ok (.iconst 2, 1) := by decide +kernel
theorem dX7_third_1 : decode cX7_third 1 = .ok (.iconst 4, 1) := by decide +kernel
theorem dX7_third_2 : decode cX7_third 2 = .ok (.iload_n 1, 1) := by decide +kernel
theorem dX7_third_3 : decode cX7_third 3 = .ok (.imul, 1) := by decide +kernel
theorem dX7_third_4 : decode cX7_third 4 = .ok (.iadd, 1) := by decide +kernel
theorem dX7_third_5 : decode cX7_third 5 = .ok (.istore 5, 2) := by decide +kernel
theorem dX7_third_7 : decode cX7_third 7 = .ok (.aload_n 0, 1) := by decide +kernel
theorem dX7_third_8 : decode cX7_third 8 = .ok (.iload 5, 2) := by decide +kernel
theorem dX7_third_10 : decode cX7_third 10 = .ok (.iaload, 1) := by decide +kernel
theorem dX7_third_11 : decode cX7_third 11 = .ok (.iload_n 2, 1) := by decide +kernel
theorem dX7_third_12 : decode cX7_third 12 = .ok (.imul, 1) := by decide +kernel
theorem dX7_third_13 : decode cX7_third 13 = .ok (.aload_n 0, 1) := by decide +kernel
theorem dX7_third_14 : decode cX7_third 14 = .ok (.iload 5, 2) := by decide +kernel
theorem dX7_third_16 : decode cX7_third 16 = .ok (.iconst 1, 1) := by decide +kernel
theorem dX7_third_17 : decode cX7_third 17 = .ok (.iadd, 1) := by decide +kernel
theorem dX7_third_18 : decode cX7_third 18 = .ok (.iaload, 1) := by decide +kernel
theorem dX7_third_19 : decode cX7_third 19 = .ok (.iload_n 3, 1) := by decide +kernel
theorem dX7_third_20 : decode cX7_third 20 = .ok (.imul, 1) := by decide +kernel
theorem dX7_third_21 : decode cX7_third 21 = .ok (.iadd, 1) := by decide +kernel
theorem dX7_third_22 : decode cX7_third 22 = .ok (.istore 6, 2) := by decide +kernel
theorem dX7_third_24 : decode cX7_third 24 = .ok (.iload 6, 2) := by decide +kernel
theorem dX7_third_26 : decode cX7_third 26 = .ok (.aload_n 0, 1) := by decide +kernel
theorem dX7_third_27 : decode cX7_third 27 = .ok (.iload 5, 2) := by decide +kernel
theorem dX7_third_29 : decode cX7_third 29 = .ok (.iconst 2, 1) := by decide +kernel
theorem dX7_third_30 : decode cX7_third 30 = .ok (.iadd, 1) := by decide +kernel
theorem dX7_third_31 : decode cX7_third 31 = .ok (.iaload, 1) := by decide +kernel
theorem dX7_third_32 : decode cX7_third 32 = .ok (.irem, 1) := by decide +kernel
theorem dX7_third_33 : decode cX7_third 33 = .ok (.ifCond .ne 15, 3) := by decide +kernel
theorem dX7_third_36 : decode cX7_third 36 = .ok (.iload 6, 2) := by decide +kernel
theorem dX7_third_38 : decode cX7_third 38 = .ok (.aload_n 0, 1) := by decide +kernel
theorem dX7_third_39 : decode cX7_third 39 = .ok (.iload 5, 2) := by decide +kernel
theorem dX7_third_41 : decode cX7_third 41 = .ok (.iconst 2, 1) := by decide +kernel
theorem dX7_third_42 : decode cX7_third 42 = .ok (.iadd, 1) := by decide +kernel
theorem dX7_third_43 : decode cX7_third 43 = .ok (.iaload, 1) := by decide +kernel
theorem dX7_third_44 : decode cX7_third 44 = .ok (.idiv, 1) := by decide +kernel
theorem dX7_third_45 : decode cX7_third 45 = .ok (.goto 4, 3) := by decide +kernel
theorem dX7_third_48 : decode cX7_third 48 = .ok (.iconst 0, 1) := by decide +kernel
theorem dX7_third_49 : decode cX7_third 49 = .ok (.istore 7, 2) := by decide +kernel
theorem dX7_third_51 : decode cX7_third 51 = .ok (.aload_n 0, 1) := by decide +kernel
theorem dX7_third_52 : decode cX7_third 52 = .ok (.iload 5, 2) := by decide +kernel
theorem dX7_third_54 : decode cX7_third 54 = .ok (.iconst 3, 1) := by decide +kernel
theorem dX7_third_55 : decode cX7_third 55 = .ok (.iadd, 1) := by decide +kernel
theorem dX7_third_56 : decode cX7_third 56 = .ok (.iaload, 1) := by decide +kernel
theorem dX7_third_57 : decode cX7_third 57 = .ok (.iconst 1, 1) := by decide +kernel
theorem dX7_third_58 : decode cX7_third 58 = .ok (.if_icmp .ne 7, 3) := by decide +kernel
theorem dX7_third_61 : decode cX7_third 61 = .ok (.iconst 1, 1) := by decide +kernel
theorem dX7_third_62 : decode cX7_third 62 = .ok (.goto 4, 3) := by decide +kernel
theorem dX7_third_65 : decode cX7_third 65 = .ok (.iconst 0, 1) := by decide +kernel
theorem dX7_third_66 : decode cX7_third 66 = .ok (.istore 8, 2) := by decide +kernel
theorem dX7_third_68 : decode cX7_third 68 = .ok (.iload 7, 2) := by decide +kernel
theorem dX7_third_70 : decode cX7_third 70 = .ok (.i2l, 1) := by decide +kernel
theorem dX7_third_71 : decode cX7_third 71 = .ok (.lconst 1, 1) := by decide +kernel
theorem dX7_third_72 : decode cX7_third 72 = .ok (.iload 4, 2) := by decide +kernel
theorem dX7_third_74 : decode cX7_third 74 = .ok (.i2l, 1) := by decide +kernel
theorem dX7_third_75 : decode cX7_third 75 = .ok (.invokestatic 72, 3) := by decide +kernel
theorem dX7_third_78 : decode cX7_third 78 = .ok (.ifCond .eq 25, 3) := by decide +kernel
theorem dX7_third_81 : decode cX7_third 81 = .ok (.iload 8, 2) := by decide +kernel
theorem dX7_third_83 : decode cX7_third 83 = .ok (.ifCond .eq 24, 3) := by decide +kernel
theorem dX7_third_86 : decode cX7_third 86 = .ok (.iload_n 2, 1) := by decide +kernel
theorem dX7_third_87 : decode cX7_third 87 = .ok (.iload_n 3, 1) := by decide +kernel
theorem dX7_third_88 : decode cX7_third 88 = .ok (.if_icmp .eq 15, 3) := by decide +kernel
theorem dX7_third_91 : decode cX7_third 91 = .ok (.iload_n 3, 1) := by decide +kernel
theorem dX7_third_92 : decode cX7_third 92 = .ok (.iload 7, 2) := by decide +kernel
theorem dX7_third_94 : decode cX7_third 94 = .ok (.if_icmp .eq 9, 3) := by decide +kernel
theorem dX7_third_97 : decode cX7_third 97 = .ok (.iload_n 2, 1) := by decide +kernel
theorem dX7_third_98 : decode cX7_third 98 = .ok (.iload 7, 2) := by decide +kernel
theorem dX7_third_100 : decode cX7_third 100 = .ok (.if_icmp .ne 7, 3) := by decide +kernel
theorem dX7_third_103 : decode cX7_third 103 = .ok (.iconst 0, 1) := by decide +kernel
theorem dX7_third_104 : decode cX7_third 104 = .ok (.goto 5, 3) := by decide +kernel
theorem dX7_third_107 : decode cX7_third 107 = .ok (.iload 7, 2) := by decide +kernel
theorem dX7_third_109 : decode cX7_third 109 = .ok (.ireturn, 1) := by decide +kernel
theorem dX7_greatest_0 : decode cX7_greatest 0 = .ok (.iload_n 0, 1) := by decide +kernel
theorem dX7_greatest_1 : decode cX7_greatest 1 = .ok (.iload_n 1, 1) := by decide +kernel
theorem dX7_greatest_2 : decode cX7_greatest 2 = .ok (.if_icmp .le 7, 3) := by decide +kernel
theorem dX7_greatest_5 : decode cX7_greatest 5 = .ok (.iload_n 0, 1) := by decide +kernel
theorem dX7_greatest_6 : decode cX7_greatest 6 = .ok (.goto 4, 3) := by decide +kernel
theorem dX7_greatest_9 : decode cX7_greatest 9 = .ok (.iload_n 1, 1) := by decide +kernel
theorem dX7_greatest_10 : decode cX7_greatest 10 = .ok (.istore_n 3, 1) := by decide +kernel
theorem dX7_greatest_11 : decode cX7_greatest 11 = .ok (.iload_n 3, 1) := by decide +kernel
theorem dX7_greatest_12 : decode cX7_greatest 12 = .ok (.iload_n 2, 1) := by decide +kernel
theorem dX7_greatest_13 : decode cX7_greatest 13 = .ok (.if_icmp .le 7, 3) := by decide +kernel
theorem dX7_greatest_16 : decode cX7_greatest 16 = .ok (.iload_n 3, 1) := by decide +kernel
theorem dX7_greatest_17 : decode cX7_greatest 17 = .ok (.goto 4, 3) := by decide +kernel
theorem dX7_greatest_20 : decode cX7_greatest 20 = .ok (.iload_n 2, 1) := by decide +kernel
theorem dX7_greatest_21 : decode cX7_greatest 21 = .ok (.ireturn, 1) := by decide +kernel
theorem dX7_laySets_0 : decode cX7_laySets 0 = .ok (.iconst 0, 1) := by decide +kernel
theorem dX7_laySets_1 : decode cX7_laySets 1 = .ok (.istore_n 3, 1) := by decide +kernel
theorem dX7_laySets_2 : decode cX7_laySets 2 = .ok (.iconst 1, 1) := by decide +kernel
theorem dX7_laySets_3 : decode cX7_laySets 3 = .ok (.istore 4, 2) := by decide +kernel
theorem dX7_laySets_5 : decode cX7_laySets 5 = .ok (.iload 4, 2) := by decide +kernel
theorem dX7_laySets_7 : decode cX7_laySets 7 = .ok (.bipush 10, 2) := by decide +kernel
theorem dX7_laySets_9 : decode cX7_laySets 9 = .ok (.if_icmp .gt 131, 3) := by decide +kernel
theorem dX7_laySets_12 : decode cX7_laySets 12 = .ok (.aload_n 0, 1) := by decide +kernel
theorem dX7_laySets_13 : decode cX7_laySets 13 = .ok (.getfield 48, 3) := by decide +kernel
theorem dX7_laySets_16 : decode cX7_laySets 16 = .ok (.iload 4, 2) := by decide +kernel
theorem dX7_laySets_18 : decode cX7_laySets 18 = .ok (.iload_n 3, 1) := by decide +kernel
theorem dX7_laySets_19 : decode cX7_laySets 19 = .ok (.iastore, 1) := by decide +kernel
theorem dX7_laySets_20 : decode cX7_laySets 20 = .ok (.iconst 0, 1) := by decide +kernel
theorem dX7_laySets_21 : decode cX7_laySets 21 = .ok (.istore 5, 2) := by decide +kernel
theorem dX7_laySets_23 : decode cX7_laySets 23 = .ok (.iload 5, 2) := by decide +kernel
theorem dX7_laySets_25 : decode cX7_laySets 25 = .ok (.aload_n 1, 1) := by decide +kernel
theorem dX7_laySets_26 : decode cX7_laySets 26 = .ok (.iconst 1, 1) := by decide +kernel
theorem dX7_laySets_27 : decode cX7_laySets 27 = .ok (.iaload, 1) := by decide +kernel
theorem dX7_laySets_28 : decode cX7_laySets 28 = .ok (.if_icmp .ge 106, 3) := by decide +kernel
theorem dX7_laySets_31 : decode cX7_laySets 31 = .ok (.iconst 1, 1) := by decide +kernel
theorem dX7_laySets_32 : decode cX7_laySets 32 = .ok (.istore 6, 2) := by decide +kernel
theorem dX7_laySets_34 : decode cX7_laySets 34 = .ok (.iload 6, 2) := by decide +kernel
theorem dX7_laySets_36 : decode cX7_laySets 36 = .ok (.iload 4, 2) := by decide +kernel
theorem dX7_laySets_38 : decode cX7_laySets 38 = .ok (.if_icmp .gt 90, 3) := by decide +kernel
theorem dX7_laySets_41 : decode cX7_laySets 41 = .ok (.iload_n 2, 1) := by decide +kernel
theorem dX7_laySets_42 : decode cX7_laySets 42 = .ok (.iload 5, 2) := by decide +kernel
theorem dX7_laySets_44 : decode cX7_laySets 44 = .ok (.invokestatic 122, 3) := by decide +kernel
theorem dX7_laySets_47 : decode cX7_laySets 47 = .ok (.ifCond .eq 81, 3) := by decide +kernel
theorem dX7_laySets_50 : decode cX7_laySets 50 = .ok (.iconst 1, 1) := by decide +kernel
theorem dX7_laySets_51 : decode cX7_laySets 51 = .ok (.istore 7, 2) := by decide +kernel
theorem dX7_laySets_53 : decode cX7_laySets 53 = .ok (.iload 7, 2) := by decide +kernel
theorem dX7_laySets_55 : decode cX7_laySets 55 = .ok (.iload 4, 2) := by decide +kernel
theorem dX7_laySets_57 : decode cX7_laySets 57 = .ok (.if_icmp .gt 65, 3) := by decide +kernel
theorem dX7_laySets_60 : decode cX7_laySets 60 = .ok (.aload_n 1, 1) := by decide +kernel
theorem dX7_laySets_61 : decode cX7_laySets 61 = .ok (.iload 5, 2) := by decide +kernel
theorem dX7_laySets_63 : decode cX7_laySets 63 = .ok (.iload 6, 2) := by decide +kernel
theorem dX7_laySets_65 : decode cX7_laySets 65 = .ok (.iload 7, 2) := by decide +kernel
theorem dX7_laySets_67 : decode cX7_laySets 67 = .ok (.iload 4, 2) := by decide +kernel
theorem dX7_laySets_69 : decode cX7_laySets 69 = .ok (.invokestatic 126, 3) := by decide +kernel
theorem dX7_laySets_72 : decode cX7_laySets 72 = .ok (.istore 8, 2) := by decide +kernel
theorem dX7_laySets_74 : decode cX7_laySets 74 = .ok (.iload 8, 2) := by decide +kernel
theorem dX7_laySets_76 : decode cX7_laySets 76 = .ok (.ifCond .le 40, 3) := by decide +kernel
theorem dX7_laySets_79 : decode cX7_laySets 79 = .ok (.iload 6, 2) := by decide +kernel
theorem dX7_laySets_81 : decode cX7_laySets 81 = .ok (.iload 7, 2) := by decide +kernel
theorem dX7_laySets_83 : decode cX7_laySets 83 = .ok (.iload 8, 2) := by decide +kernel
theorem dX7_laySets_85 : decode cX7_laySets 85 = .ok (.invokestatic 130, 3) := by decide +kernel
theorem dX7_laySets_88 : decode cX7_laySets 88 = .ok (.iload 4, 2) := by decide +kernel
theorem dX7_laySets_90 : decode cX7_laySets 90 = .ok (.if_icmp .ne 26, 3) := by decide +kernel
theorem dX7_laySets_93 : decode cX7_laySets 93 = .ok (.aload_n 0, 1) := by decide +kernel
theorem dX7_laySets_94 : decode cX7_laySets 94 = .ok (.getfield 45, 3) := by decide +kernel
theorem dX7_laySets_97 : decode cX7_laySets 97 = .ok (.iload_n 3, 1) := by decide +kernel
theorem dX7_laySets_98 : decode cX7_laySets 98 = .ok (.iconst 1, 1) := by decide +kernel
theorem dX7_laySets_99 : decode cX7_laySets 99 = .ok (.iload 6, 2) := by decide +kernel
theorem dX7_laySets_101 : decode cX7_laySets 101 = .ok (.ishl, 1) := by decide +kernel
theorem dX7_laySets_102 : decode cX7_laySets 102 = .ok (.iconst 1, 1) := by decide +kernel
theorem dX7_laySets_103 : decode cX7_laySets 103 = .ok (.iload 7, 2) := by decide +kernel
theorem dX7_laySets_105 : decode cX7_laySets 105 = .ok (.ishl, 1) := by decide +kernel
theorem dX7_laySets_106 : decode cX7_laySets 106 = .ok (.ior, 1) := by decide +kernel
theorem dX7_laySets_107 : decode cX7_laySets 107 = .ok (.iconst 1, 1) := by decide +kernel
theorem dX7_laySets_108 : decode cX7_laySets 108 = .ok (.iload 8, 2) := by decide +kernel
theorem dX7_laySets_110 : decode cX7_laySets 110 = .ok (.ishl, 1) := by decide +kernel
theorem dX7_laySets_111 : decode cX7_laySets 111 = .ok (.ior, 1) := by decide +kernel
theorem dX7_laySets_112 : decode cX7_laySets 112 = .ok (.iastore, 1) := by decide +kernel
theorem dX7_laySets_113 : decode cX7_laySets 113 = .ok (.iinc 3 1, 3) := by decide +kernel
theorem dX7_laySets_116 : decode cX7_laySets 116 = .ok (.iinc 7 1, 3) := by decide +kernel
theorem dX7_laySets_119 : decode cX7_laySets 119 = .ok (.goto (-66), 3) := by decide +kernel
theorem dX7_laySets_122 : decode cX7_laySets 122 = .ok (.iinc 6 1, 3) := by decide +kernel
theorem dX7_laySets_125 : decode cX7_laySets 125 = .ok (.goto (-91), 3) := by decide +kernel
theorem dX7_laySets_128 : decode cX7_laySets 128 = .ok (.iinc 5 1, 3) := by decide +kernel
theorem dX7_laySets_131 : decode cX7_laySets 131 = .ok (.goto (-108), 3) := by decide +kernel
theorem dX7_laySets_134 : decode cX7_laySets 134 = .ok (.iinc 4 1, 3) := by decide +kernel
theorem dX7_laySets_137 : decode cX7_laySets 137 = .ok (.goto (-132), 3) := by decide +kernel
theorem dX7_laySets_140 : decode cX7_laySets 140 = .ok (.aload_n 0, 1) := by decide +kernel
theorem dX7_laySets_141 : decode cX7_laySets 141 = .ok (.getfield 48, 3) := by decide +kernel
theorem dX7_laySets_144 : decode cX7_laySets 144 = .ok (.bipush 11, 2) := by decide +kernel
theorem dX7_laySets_146 : decode cX7_laySets 146 = .ok (.iload_n 3, 1) := by decide +kernel
theorem dX7_laySets_147 : decode cX7_laySets 147 = .ok (.iastore, 1) := by decide +kernel
theorem dX7_laySets_148 : decode cX7_laySets 148 = .ok (.return_, 1) := by decide +kernel
theorem dX7_may_0 : decode cX7_may 0 = .ok (.aload_n 0, 1) := by decide +kernel
theorem dX7_may_1 : decode cX7_may 1 = .ok (.getfield 54, 3) := by decide +kernel
theorem dX7_may_4 : decode cX7_may 4 = .ok (.iload_n 2, 1) := by decide +kernel
theorem dX7_may_5 : decode cX7_may 5 = .ok (.iaload, 1) := by decide +kernel
theorem dX7_may_6 : decode cX7_may 6 = .ok (.iconst 1, 1) := by decide +kernel
theorem dX7_may_7 : decode cX7_may 7 = .ok (.iload_n 1, 1) := by decide +kernel
theorem dX7_may_8 : decode cX7_may 8 = .ok (.ishl, 1) := by decide +kernel
theorem dX7_may_9 : decode cX7_may 9 = .ok (.ior, 1) := by decide +kernel
theorem dX7_may_10 : decode cX7_may 10 = .ok (.istore_n 3, 1) := by decide +kernel
theorem dX7_may_11 : decode cX7_may 11 = .ok (.aload_n 0, 1) := by decide +kernel
theorem dX7_may_12 : decode cX7_may 12 = .ok (.getfield 48, 3) := by decide +kernel
theorem dX7_may_15 : decode cX7_may 15 = .ok (.iload_n 1, 1) := by decide +kernel
theorem dX7_may_16 : decode cX7_may 16 = .ok (.iaload, 1) := by decide +kernel
theorem dX7_may_17 : decode cX7_may 17 = .ok (.istore 4, 2) := by decide +kernel
theorem dX7_may_19 : decode cX7_may 19 = .ok (.iload 4, 2) := by decide +kernel
theorem dX7_may_21 : decode cX7_may 21 = .ok (.aload_n 0, 1) := by decide +kernel
theorem dX7_may_22 : decode cX7_may 22 = .ok (.getfield 48, 3) := by decide +kernel
theorem dX7_may_25 : decode cX7_may 25 = .ok (.iload_n 1, 1) := by decide +kernel
theorem dX7_may_26 : decode cX7_may 26 = .ok (.iconst 1, 1) := by decide +kernel
theorem dX7_may_27 : decode cX7_may 27 = .ok (.iadd, 1) := by decide +kernel
theorem dX7_may_28 : decode cX7_may 28 = .ok (.iaload, 1) := by decide +kernel
theorem dX7_may_29 : decode cX7_may 29 = .ok (.if_icmp .ge 25, 3) := by decide +kernel
theorem dX7_may_32 : decode cX7_may 32 = .ok (.aload_n 0, 1) := by decide +kernel
theorem dX7_may_33 : decode cX7_may 33 = .ok (.getfield 45, 3) := by decide +kernel
theorem dX7_may_36 : decode cX7_may 36 = .ok (.iload 4, 2) := by decide +kernel
theorem dX7_may_38 : decode cX7_may 38 = .ok (.iaload, 1) := by decide +kernel
theorem dX7_may_39 : decode cX7_may 39 = .ok (.iload_n 3, 1) := by decide +kernel
theorem dX7_may_40 : decode cX7_may 40 = .ok (.iconst (-1), 1) := by decide +kernel
theorem dX7_may_41 : decode cX7_may 41 = .ok (.ixor, 1) := by decide +kernel
theorem dX7_may_42 : decode cX7_may 42 = .ok (.iand, 1) := by decide +kernel
theorem dX7_may_43 : decode cX7_may 43 = .ok (.ifCond .ne 5, 3) := by decide +kernel
theorem dX7_may_46 : decode cX7_may 46 = .ok (.iconst 0, 1) := by decide +kernel
theorem dX7_may_47 : decode cX7_may 47 = .ok (.ireturn, 1) := by decide +kernel
theorem dX7_may_48 : decode cX7_may 48 = .ok (.iinc 4 1, 3) := by decide +kernel
theorem dX7_may_51 : decode cX7_may 51 = .ok (.goto (-32), 3) := by decide +kernel
theorem dX7_may_54 : decode cX7_may 54 = .ok (.iconst 1, 1) := by decide +kernel
theorem dX7_may_55 : decode cX7_may 55 = .ok (.ireturn, 1) := by decide +kernel
theorem dX7_allows_0 : decode cX7_allows 0 = .ok (.aload_n 0, 1) := by decide +kernel
theorem dX7_allows_1 : decode cX7_allows 1 = .ok (.getfield 57, 3) := by decide +kernel
theorem dX7_allows_4 : decode cX7_allows 4 = .ok (.bipush 18, 2) := by decide +kernel
theorem dX7_allows_6 : decode cX7_allows 6 = .ok (.iload_n 1, 1) := by decide +kernel
theorem dX7_allows_7 : decode cX7_allows 7 = .ok (.iadd, 1) := by decide +kernel
theorem dX7_allows_8 : decode cX7_allows 8 = .ok (.iconst 1, 1) := by decide +kernel
theorem dX7_allows_9 : decode cX7_allows 9 = .ok (.isub, 1) := by decide +kernel
theorem dX7_allows_10 : decode cX7_allows 10 = .ok (.iaload, 1) := by decide +kernel
theorem dX7_allows_11 : decode cX7_allows 11 = .ok (.istore_n 3, 1) := by decide +kernel
theorem dX7_allows_12 : decode cX7_allows 12 = .ok (.aload_n 0, 1) := by decide +kernel
theorem dX7_allows_13 : decode cX7_allows 13 = .ok (.getfield 134, 3) := by decide +kernel
theorem dX7_allows_16 : decode cX7_allows 16 = .ok (.ifCond .eq 14, 3) := by decide +kernel
theorem dX7_allows_19 : decode cX7_allows 19 = .ok (.iload_n 3, 1) := by decide +kernel
theorem dX7_allows_20 : decode cX7_allows 20 = .ok (.ifCond .eq 10, 3) := by decide +kernel
theorem dX7_allows_23 : decode cX7_allows 23 = .ok (.iload_n 3, 1) := by decide +kernel
theorem dX7_allows_24 : decode cX7_allows 24 = .ok (.iload_n 2, 1) := by decide +kernel
theorem dX7_allows_25 : decode cX7_allows 25 = .ok (.iconst 1, 1) := by decide +kernel
theorem dX7_allows_26 : decode cX7_allows 26 = .ok (.iadd, 1) := by decide +kernel
theorem dX7_allows_27 : decode cX7_allows 27 = .ok (.if_icmp .ne 7, 3) := by decide +kernel
theorem dX7_allows_30 : decode cX7_allows 30 = .ok (.iconst 1, 1) := by decide +kernel
theorem dX7_allows_31 : decode cX7_allows 31 = .ok (.goto 4, 3) := by decide +kernel
theorem dX7_allows_34 : decode cX7_allows 34 = .ok (.iconst 0, 1) := by decide +kernel
theorem dX7_allows_35 : decode cX7_allows 35 = .ok (.ireturn, 1) := by decide +kernel
theorem dX7_begin_0 : decode cX7_begin 0 = .ok (.aload_n 0, 1) := by decide +kernel
theorem dX7_begin_1 : decode cX7_begin 1 = .ok (.aload_n 1, 1) := by decide +kernel
theorem dX7_begin_2 : decode cX7_begin 2 = .ok (.putfield 57, 3) := by decide +kernel
theorem dX7_begin_5 : decode cX7_begin 5 = .ok (.aload_n 0, 1) := by decide +kernel
theorem dX7_begin_6 : decode cX7_begin 6 = .ok (.aload_n 1, 1) := by decide +kernel
theorem dX7_begin_7 : decode cX7_begin 7 = .ok (.iload_n 2, 1) := by decide +kernel
theorem dX7_begin_8 : decode cX7_begin 8 = .ok (.invokevirtual 138, 3) := by decide +kernel
theorem dX7_begin_11 : decode cX7_begin 11 = .ok (.aload_n 0, 1) := by decide +kernel
theorem dX7_begin_12 : decode cX7_begin 12 = .ok (.iload_n 3, 1) := by decide +kernel
theorem dX7_begin_13 : decode cX7_begin 13 = .ok (.putfield 142, 3) := by decide +kernel
theorem dX7_begin_16 : decode cX7_begin 16 = .ok (.aload_n 0, 1) := by decide +kernel
theorem dX7_begin_17 : decode cX7_begin 17 = .ok (.iload 4, 2) := by decide +kernel
theorem dX7_begin_19 : decode cX7_begin 19 = .ok (.putfield 134, 3) := by decide +kernel
theorem dX7_begin_22 : decode cX7_begin 22 = .ok (.aload_n 0, 1) := by decide +kernel
theorem dX7_begin_23 : decode cX7_begin 23 = .ok (.iconst 0, 1) := by decide +kernel
theorem dX7_begin_24 : decode cX7_begin 24 = .ok (.putfield 145, 3) := by decide +kernel
theorem dX7_begin_27 : decode cX7_begin 27 = .ok (.iconst 0, 1) := by decide +kernel
theorem dX7_begin_28 : decode cX7_begin 28 = .ok (.istore 5, 2) := by decide +kernel
theorem dX7_begin_30 : decode cX7_begin 30 = .ok (.iload 5, 2) := by decide +kernel
theorem dX7_begin_32 : decode cX7_begin 32 = .ok (.iconst 3, 1) := by decide +kernel
theorem dX7_begin_33 : decode cX7_begin 33 = .ok (.if_icmp .ge 17, 3) := by decide +kernel
theorem dX7_begin_36 : decode cX7_begin 36 = .ok (.aload_n 0, 1) := by decide +kernel
theorem dX7_begin_37 : decode cX7_begin 37 = .ok (.getfield 54, 3) := by decide +kernel
theorem dX7_begin_40 : decode cX7_begin 40 = .ok (.iload 5, 2) := by decide +kernel
theorem dX7_begin_42 : decode cX7_begin 42 = .ok (.iconst 0, 1) := by decide +kernel
theorem dX7_begin_43 : decode cX7_begin 43 = .ok (.iastore, 1) := by decide +kernel
theorem dX7_begin_44 : decode cX7_begin 44 = .ok (.iinc 5 1, 3) := by decide +kernel
theorem dX7_begin_47 : decode cX7_begin 47 = .ok (.goto (-17), 3) := by decide +kernel
theorem dX7_begin_50 : decode cX7_begin 50 = .ok (.return_, 1) := by decide +kernel
theorem dX7_all_0 : decode cX7_all 0 = .ok (.iconst 1, 1) := by decide +kernel
theorem dX7_all_1 : decode cX7_all 1 = .ok (.aload_n 0, 1) := by decide +kernel
theorem dX7_all_2 : decode cX7_all 2 = .ok (.iconst 1, 1) := by decide +kernel
theorem dX7_all_3 : decode cX7_all 3 = .ok (.iaload, 1) := by decide +kernel
theorem dX7_all_4 : decode cX7_all 4 = .ok (.ishl, 1) := by decide +kernel
theorem dX7_all_5 : decode cX7_all 5 = .ok (.iconst 1, 1) := by decide +kernel
theorem dX7_all_6 : decode cX7_all 6 = .ok (.isub, 1) := by decide +kernel
theorem dX7_all_7 : decode cX7_all 7 = .ok (.ireturn, 1) := by decide +kernel
theorem dX7_next_0 : decode cX7_next 0 = .ok (.aload_n 0, 1) := by decide +kernel
theorem dX7_next_1 : decode cX7_next 1 = .ok (.getfield 51, 3) := by decide +kernel
theorem dX7_next_4 : decode cX7_next 4 = .ok (.iload_n 1, 1) := by decide +kernel
theorem dX7_next_5 : decode cX7_next 5 = .ok (.iaload, 1) := by decide +kernel
theorem dX7_next_6 : decode cX7_next 6 = .ok (.istore_n 2, 1) := by decide +kernel
theorem dX7_next_7 : decode cX7_next 7 = .ok (.iload_n 2, 1) := by decide +kernel
theorem dX7_next_8 : decode cX7_next 8 = .ok (.ifCond .lt 17, 3) := by decide +kernel
theorem dX7_next_11 : decode cX7_next 11 = .ok (.aload_n 0, 1) := by decide +kernel
theorem dX7_next_12 : decode cX7_next 12 = .ok (.getfield 54, 3) := by decide +kernel
theorem dX7_next_15 : decode cX7_next 15 = .ok (.iload_n 2, 1) := by decide +kernel
theorem dX7_next_16 : decode cX7_next 16 = .ok (.dup2, 1) := by decide +kernel
theorem dX7_next_17 : decode cX7_next 17 = .ok (.iaload, 1) := by decide +kernel
theorem dX7_next_18 : decode cX7_next 18 = .ok (.iconst 1, 1) := by decide +kernel
theorem dX7_next_19 : decode cX7_next 19 = .ok (.iload_n 1, 1) := by decide +kernel
theorem dX7_next_20 : decode cX7_next 20 = .ok (.ishl, 1) := by decide +kernel
theorem dX7_next_21 : decode cX7_next 21 = .ok (.iconst (-1), 1) := by decide +kernel
theorem dX7_next_22 : decode cX7_next 22 = .ok (.ixor, 1) := by decide +kernel
theorem dX7_next_23 : decode cX7_next 23 = .ok (.iand, 1) := by decide +kernel
theorem dX7_next_24 : decode cX7_next 24 = .ok (.iastore, 1) := by decide +kernel
theorem dX7_next_25 : decode cX7_next 25 = .ok (.iinc 2 1, 3) := by decide +kernel
theorem dX7_next_28 : decode cX7_next 28 = .ok (.iload_n 2, 1) := by decide +kernel
theorem dX7_next_29 : decode cX7_next 29 = .ok (.aload_n 0, 1) := by decide +kernel
theorem dX7_next_30 : decode cX7_next 30 = .ok (.getfield 13, 3) := by decide +kernel
theorem dX7_next_33 : decode cX7_next 33 = .ok (.if_icmp .ge 27, 3) := by decide +kernel
theorem dX7_next_36 : decode cX7_next 36 = .ok (.aload_n 0, 1) := by decide +kernel
theorem dX7_next_37 : decode cX7_next 37 = .ok (.iload_n 1, 1) := by decide +kernel
theorem dX7_next_38 : decode cX7_next 38 = .ok (.iload_n 2, 1) := by decide +kernel
theorem dX7_next_39 : decode cX7_next 39 = .ok (.invokevirtual 148, 3) := by decide +kernel
theorem dX7_next_42 : decode cX7_next 42 = .ok (.ifCond .eq 12, 3) := by decide +kernel
theorem dX7_next_45 : decode cX7_next 45 = .ok (.aload_n 0, 1) := by decide +kernel
theorem dX7_next_46 : decode cX7_next 46 = .ok (.iload_n 1, 1) := by decide +kernel
theorem dX7_next_47 : decode cX7_next 47 = .ok (.iload_n 2, 1) := by decide +kernel
theorem dX7_next_48 : decode cX7_next 48 = .ok (.invokevirtual 151, 3) := by decide +kernel
theorem dX7_next_51 : decode cX7_next 51 = .ok (.ifCond .ne 9, 3) := by decide +kernel
theorem dX7_next_54 : decode cX7_next 54 = .ok (.iinc 2 1, 3) := by decide +kernel
theorem dX7_next_57 : decode cX7_next 57 = .ok (.goto (-29), 3) := by decide +kernel
theorem dX7_next_60 : decode cX7_next 60 = .ok (.aload_n 0, 1) := by decide +kernel
theorem dX7_next_61 : decode cX7_next 61 = .ok (.getfield 51, 3) := by decide +kernel
theorem dX7_next_64 : decode cX7_next 64 = .ok (.iload_n 1, 1) := by decide +kernel
theorem dX7_next_65 : decode cX7_next 65 = .ok (.iload_n 2, 1) := by decide +kernel
theorem dX7_next_66 : decode cX7_next 66 = .ok (.aload_n 0, 1) := by decide +kernel
theorem dX7_next_67 : decode cX7_next 67 = .ok (.getfield 13, 3) := by decide +kernel
theorem dX7_next_70 : decode cX7_next 70 = .ok (.if_icmp .ge 7, 3) := by decide +kernel
theorem dX7_next_73 : decode cX7_next 73 = .ok (.iload_n 2, 1) := by decide +kernel
theorem dX7_next_74 : decode cX7_next 74 = .ok (.goto 4, 3) := by decide +kernel
theorem dX7_next_77 : decode cX7_next 77 = .ok (.iconst (-1), 1) := by decide +kernel
theorem dX7_next_78 : decode cX7_next 78 = .ok (.iastore, 1) := by decide +kernel
theorem dX7_next_79 : decode cX7_next 79 = .ok (.iload_n 2, 1) := by decide +kernel
theorem dX7_next_80 : decode cX7_next 80 = .ok (.aload_n 0, 1) := by decide +kernel
theorem dX7_next_81 : decode cX7_next 81 = .ok (.getfield 13, 3) := by decide +kernel
theorem dX7_next_84 : decode cX7_next 84 = .ok (.if_icmp .ge 15, 3) := by decide +kernel
theorem dX7_next_87 : decode cX7_next 87 = .ok (.aload_n 0, 1) := by decide +kernel
theorem dX7_next_88 : decode cX7_next 88 = .ok (.getfield 54, 3) := by decide +kernel
theorem dX7_next_91 : decode cX7_next 91 = .ok (.iload_n 2, 1) := by decide +kernel
theorem dX7_next_92 : decode cX7_next 92 = .ok (.dup2, 1) := by decide +kernel
theorem dX7_next_93 : decode cX7_next 93 = .ok (.iaload, 1) := by decide +kernel
theorem dX7_next_94 : decode cX7_next 94 = .ok (.iconst 1, 1) := by decide +kernel
theorem dX7_next_95 : decode cX7_next 95 = .ok (.iload_n 1, 1) := by decide +kernel
theorem dX7_next_96 : decode cX7_next 96 = .ok (.ishl, 1) := by decide +kernel
theorem dX7_next_97 : decode cX7_next 97 = .ok (.ior, 1) := by decide +kernel
theorem dX7_next_98 : decode cX7_next 98 = .ok (.iastore, 1) := by decide +kernel
theorem dX7_next_99 : decode cX7_next 99 = .ok (.iload_n 2, 1) := by decide +kernel
theorem dX7_next_100 : decode cX7_next 100 = .ok (.aload_n 0, 1) := by decide +kernel
theorem dX7_next_101 : decode cX7_next 101 = .ok (.getfield 13, 3) := by decide +kernel
theorem dX7_next_104 : decode cX7_next 104 = .ok (.if_icmp .ge 7, 3) := by decide +kernel
theorem dX7_next_107 : decode cX7_next 107 = .ok (.iconst 1, 1) := by decide +kernel
theorem dX7_next_108 : decode cX7_next 108 = .ok (.goto 4, 3) := by decide +kernel
theorem dX7_next_111 : decode cX7_next 111 = .ok (.iconst 0, 1) := by decide +kernel
theorem dX7_next_112 : decode cX7_next 112 = .ok (.ireturn, 1) := by decide +kernel
theorem dX7_more_0 : decode cX7_more 0 = .ok (.aload_n 0, 1) := by decide +kernel
theorem dX7_more_1 : decode cX7_more 1 = .ok (.getfield 145, 3) := by decide +kernel
theorem dX7_more_4 : decode cX7_more 4 = .ok (.ifCond .eq 10, 3) := by decide +kernel
theorem dX7_more_7 : decode cX7_more 7 = .ok (.aload_n 0, 1) := by decide +kernel
theorem dX7_more_8 : decode cX7_more 8 = .ok (.getfield 142, 3) := by decide +kernel
theorem dX7_more_11 : decode cX7_more 11 = .ok (.goto 4, 3) := by decide +kernel
theorem dX7_more_14 : decode cX7_more 14 = .ok (.iconst 1, 1) := by decide +kernel
theorem dX7_more_15 : decode cX7_more 15 = .ok (.istore_n 1, 1) := by decide +kernel
theorem dX7_more_16 : decode cX7_more 16 = .ok (.aload_n 0, 1) := by decide +kernel
theorem dX7_more_17 : decode cX7_more 17 = .ok (.getfield 145, 3) := by decide +kernel
theorem dX7_more_20 : decode cX7_more 20 = .ok (.ifCond .ne 10, 3) := by decide +kernel
theorem dX7_more_23 : decode cX7_more 23 = .ok (.aload_n 0, 1) := by decide +kernel
theorem dX7_more_24 : decode cX7_more 24 = .ok (.getfield 51, 3) := by decide +kernel
theorem dX7_more_27 : decode cX7_more 27 = .ok (.iconst 1, 1) := by decide +kernel
theorem dX7_more_28 : decode cX7_more 28 = .ok (.iconst (-1), 1) := by decide +kernel
theorem dX7_more_29 : decode cX7_more 29 = .ok (.iastore, 1) := by decide +kernel
theorem dX7_more_30 : decode cX7_more 30 = .ok (.aload_n 0, 1) := by decide +kernel
theorem dX7_more_31 : decode cX7_more 31 = .ok (.iconst 1, 1) := by decide +kernel
theorem dX7_more_32 : decode cX7_more 32 = .ok (.putfield 145, 3) := by decide +kernel
theorem dX7_more_35 : decode cX7_more 35 = .ok (.iload_n 1, 1) := by decide +kernel
theorem dX7_more_36 : decode cX7_more 36 = .ok (.ifCond .le 40, 3) := by decide +kernel
theorem dX7_more_39 : decode cX7_more 39 = .ok (.aload_n 0, 1) := by decide +kernel
theorem dX7_more_40 : decode cX7_more 40 = .ok (.iload_n 1, 1) := by decide +kernel
theorem dX7_more_41 : decode cX7_more 41 = .ok (.invokevirtual 154, 3) := by decide +kernel
theorem dX7_more_44 : decode cX7_more 44 = .ok (.ifCond .ne 9, 3) := by decide +kernel
theorem dX7_more_47 : decode cX7_more 47 = .ok (.iinc 1 (-1), 3) := by decide +kernel
theorem dX7_more_50 : decode cX7_more 50 = .ok (.goto (-15), 3) := by decide +kernel
theorem dX7_more_53 : decode cX7_more 53 = .ok (.iload_n 1, 1) := by decide +kernel
theorem dX7_more_54 : decode cX7_more 54 = .ok (.aload_n 0, 1) := by decide +kernel
theorem dX7_more_55 : decode cX7_more 55 = .ok (.getfield 142, 3) := by decide +kernel
theorem dX7_more_58 : decode cX7_more 58 = .ok (.if_icmp .ne 5, 3) := by decide +kernel
theorem dX7_more_61 : decode cX7_more 61 = .ok (.iconst 1, 1) := by decide +kernel
theorem dX7_more_62 : decode cX7_more 62 = .ok (.ireturn, 1) := by decide +kernel
theorem dX7_more_63 : decode cX7_more 63 = .ok (.iinc 1 1, 3) := by decide +kernel
theorem dX7_more_66 : decode cX7_more 66 = .ok (.aload_n 0, 1) := by decide +kernel
theorem dX7_more_67 : decode cX7_more 67 = .ok (.getfield 51, 3) := by decide +kernel
theorem dX7_more_70 : decode cX7_more 70 = .ok (.iload_n 1, 1) := by decide +kernel
theorem dX7_more_71 : decode cX7_more 71 = .ok (.iconst (-1), 1) := by decide +kernel
theorem dX7_more_72 : decode cX7_more 72 = .ok (.iastore, 1) := by decide +kernel
theorem dX7_more_73 : decode cX7_more 73 = .ok (.goto (-38), 3) := by decide +kernel
theorem dX7_more_76 : decode cX7_more 76 = .ok (.iconst 0, 1) := by decide +kernel
theorem dX7_more_77 : decode cX7_more 77 = .ok (.ireturn, 1) := by decide +kernel
theorem dX7_beginAll_0 : decode cX7_beginAll 0 = .ok (.aload_n 0, 1) := by decide +kernel
theorem dX7_beginAll_1 : decode cX7_beginAll 1 = .ok (.aload_n 1, 1) := by decide +kernel
theorem dX7_beginAll_2 : decode cX7_beginAll 2 = .ok (.aload_n 1, 1) := by decide +kernel
theorem dX7_beginAll_3 : decode cX7_beginAll 3 = .ok (.invokestatic 157, 3) := by decide +kernel
theorem dX7_beginAll_6 : decode cX7_beginAll 6 = .ok (.aload_n 1, 1) := by decide +kernel
theorem dX7_beginAll_7 : decode cX7_beginAll 7 = .ok (.iconst 0, 1) := by decide +kernel
theorem dX7_beginAll_8 : decode cX7_beginAll 8 = .ok (.iaload, 1) := by decide +kernel
theorem dX7_beginAll_9 : decode cX7_beginAll 9 = .ok (.iconst 1, 1) := by decide +kernel
theorem dX7_beginAll_10 : decode cX7_beginAll 10 = .ok (.invokevirtual 160, 3) := by decide +kernel
theorem dX7_beginAll_13 : decode cX7_beginAll 13 = .ok (.return_, 1) := by decide +kernel
theorem dX7_manyBy_0 : decode cX7_manyBy 0 = .ok (.aload_n 0, 1) := by decide +kernel
theorem dX7_manyBy_1 : decode cX7_manyBy 1 = .ok (.aload_n 1, 1) := by decide +kernel
theorem dX7_manyBy_2 : decode cX7_manyBy 2 = .ok (.iload_n 2, 1) := by decide +kernel
theorem dX7_manyBy_3 : decode cX7_manyBy 3 = .ok (.aload_n 1, 1) := by decide +kernel
theorem dX7_manyBy_4 : decode cX7_manyBy 4 = .ok (.iconst 0, 1) := by decide +kernel
theorem dX7_manyBy_5 : decode cX7_manyBy 5 = .ok (.iaload, 1) := by decide +kernel
theorem dX7_manyBy_6 : decode cX7_manyBy 6 = .ok (.iconst 1, 1) := by decide +kernel
theorem dX7_manyBy_7 : decode cX7_manyBy 7 = .ok (.invokevirtual 160, 3) := by decide +kernel
theorem dX7_manyBy_10 : decode cX7_manyBy 10 = .ok (.iconst 0, 1) := by decide +kernel
theorem dX7_manyBy_11 : decode cX7_manyBy 11 = .ok (.istore_n 3, 1) := by decide +kernel
theorem dX7_manyBy_12 : decode cX7_manyBy 12 = .ok (.aload_n 0, 1) := by decide +kernel
theorem dX7_manyBy_13 : decode cX7_manyBy 13 = .ok (.invokevirtual 164, 3) := by decide +kernel
theorem dX7_manyBy_16 : decode cX7_manyBy 16 = .ok (.ifCond .eq 9, 3) := by decide +kernel
theorem dX7_manyBy_19 : decode cX7_manyBy 19 = .ok (.iinc 3 1, 3) := by decide +kernel
theorem dX7_manyBy_22 : decode cX7_manyBy 22 = .ok (.goto (-10), 3) := by decide +kernel
theorem dX7_manyBy_25 : decode cX7_manyBy 25 = .ok (.iload_n 3, 1) := by decide +kernel
theorem dX7_manyBy_26 : decode cX7_manyBy 26 = .ok (.ireturn, 1) := by decide +kernel
theorem dX7_manyOf_0 : decode cX7_manyOf 0 = .ok (.aload_n 0, 1) := by decide +kernel
theorem dX7_manyOf_1 : decode cX7_manyOf 1 = .ok (.aload_n 1, 1) := by decide +kernel
theorem dX7_manyOf_2 : decode cX7_manyOf 2 = .ok (.aload_n 1, 1) := by decide +kernel
theorem dX7_manyOf_3 : decode cX7_manyOf 3 = .ok (.invokestatic 157, 3) := by decide +kernel
theorem dX7_manyOf_6 : decode cX7_manyOf 6 = .ok (.invokevirtual 167, 3) := by decide +kernel
theorem dX7_manyOf_9 : decode cX7_manyOf 9 = .ok (.ireturn, 1) := by decide +kernel
theorem dX7_isWay_0 : decode cX7_isWay 0 = .ok (.iconst 1, 1) := by decide +kernel
theorem dX7_isWay_1 : decode cX7_isWay 1 = .ok (.istore_n 2, 1) := by decide +kernel
theorem dX7_isWay_2 : decode cX7_isWay 2 = .ok (.iconst 1, 1) := by decide +kernel
theorem dX7_isWay_3 : decode cX7_isWay 3 = .ok (.istore_n 3, 1) := by decide +kernel
theorem dX7_isWay_4 : decode cX7_isWay 4 = .ok (.iload_n 3, 1) := by decide +kernel
theorem dX7_isWay_5 : decode cX7_isWay 5 = .ok (.aload_n 1, 1) := by decide +kernel
theorem dX7_isWay_6 : decode cX7_isWay 6 = .ok (.iconst 0, 1) := by decide +kernel
theorem dX7_isWay_7 : decode cX7_isWay 7 = .ok (.iaload, 1) := by decide +kernel
theorem dX7_isWay_8 : decode cX7_isWay 8 = .ok (.if_icmp .gt 36, 3) := by decide +kernel
theorem dX7_isWay_11 : decode cX7_isWay 11 = .ok (.iload_n 2, 1) := by decide +kernel
theorem dX7_isWay_12 : decode cX7_isWay 12 = .ok (.ifCond .eq 24, 3) := by decide +kernel
theorem dX7_isWay_15 : decode cX7_isWay 15 = .ok (.aload_n 0, 1) := by decide +kernel
theorem dX7_isWay_16 : decode cX7_isWay 16 = .ok (.getfield 51, 3) := by decide +kernel
theorem dX7_isWay_19 : decode cX7_isWay 19 = .ok (.iload_n 3, 1) := by decide +kernel
theorem dX7_isWay_20 : decode cX7_isWay 20 = .ok (.iaload, 1) := by decide +kernel
theorem dX7_isWay_21 : decode cX7_isWay 21 = .ok (.aload_n 1, 1) := by decide +kernel
theorem dX7_isWay_22 : decode cX7_isWay 22 = .ok (.bipush 29, 2) := by decide +kernel
theorem dX7_isWay_24 : decode cX7_isWay 24 = .ok (.iload_n 3, 1) := by decide +kernel
theorem dX7_isWay_25 : decode cX7_isWay 25 = .ok (.iadd, 1) := by decide +kernel
theorem dX7_isWay_26 : decode cX7_isWay 26 = .ok (.iconst 1, 1) := by decide +kernel
theorem dX7_isWay_27 : decode cX7_isWay 27 = .ok (.isub, 1) := by decide +kernel
theorem dX7_isWay_28 : decode cX7_isWay 28 = .ok (.iaload, 1) := by decide +kernel
theorem dX7_isWay_29 : decode cX7_isWay 29 = .ok (.if_icmp .ne 7, 3) := by decide +kernel
theorem dX7_isWay_32 : decode cX7_isWay 32 = .ok (.iconst 1, 1) := by decide +kernel
theorem dX7_isWay_33 : decode cX7_isWay 33 = .ok (.goto 4, 3) := by decide +kernel
theorem dX7_isWay_36 : decode cX7_isWay 36 = .ok (.iconst 0, 1) := by decide +kernel
theorem dX7_isWay_37 : decode cX7_isWay 37 = .ok (.istore_n 2, 1) := by decide +kernel
theorem dX7_isWay_38 : decode cX7_isWay 38 = .ok (.iinc 3 1, 3) := by decide +kernel
theorem dX7_isWay_41 : decode cX7_isWay 41 = .ok (.goto (-37), 3) := by decide +kernel
theorem dX7_isWay_44 : decode cX7_isWay 44 = .ok (.iload_n 2, 1) := by decide +kernel
theorem dX7_isWay_45 : decode cX7_isWay 45 = .ok (.ireturn, 1) := by decide +kernel
theorem dX7_numberOf_0 : decode cX7_numberOf 0 = .ok (.aload_n 1, 1) := by decide +kernel
theorem dX7_numberOf_1 : decode cX7_numberOf 1 = .ok (.bipush 28, 2) := by decide +kernel
theorem dX7_numberOf_3 : decode cX7_numberOf 3 = .ok (.iaload, 1) := by decide +kernel
theorem dX7_numberOf_4 : decode cX7_numberOf 4 = .ok (.ifCond .ne 6, 3) := by decide +kernel
theorem dX7_numberOf_7 : decode cX7_numberOf 7 = .ok (.bipush (-9), 2) := by decide +kernel
theorem dX7_numberOf_9 : decode cX7_numberOf 9 = .ok (.ireturn, 1) := by decide +kernel
theorem dX7_numberOf_10 : decode cX7_numberOf 10 = .ok (.aload_n 0, 1) := by decide +kernel
theorem dX7_numberOf_11 : decode cX7_numberOf 11 = .ok (.aload_n 1, 1) := by decide +kernel
theorem dX7_numberOf_12 : decode cX7_numberOf 12 = .ok (.invokevirtual 171, 3) := by decide +kernel
theorem dX7_numberOf_15 : decode cX7_numberOf 15 = .ok (.iconst 0, 1) := by decide +kernel
theorem dX7_numberOf_16 : decode cX7_numberOf 16 = .ok (.istore_n 2, 1) := by decide +kernel
theorem dX7_numberOf_17 : decode cX7_numberOf 17 = .ok (.aload_n 0, 1) := by decide +kernel
theorem dX7_numberOf_18 : decode cX7_numberOf 18 = .ok (.invokevirtual 164, 3) := by decide +kernel
theorem dX7_numberOf_21 : decode cX7_numberOf 21 = .ok (.ifCond .eq 19, 3) := by decide +kernel
theorem dX7_numberOf_24 : decode cX7_numberOf 24 = .ok (.aload_n 0, 1) := by decide +kernel
theorem dX7_numberOf_25 : decode cX7_numberOf 25 = .ok (.aload_n 1, 1) := by decide +kernel
theorem dX7_numberOf_26 : decode cX7_numberOf 26 = .ok (.invokevirtual 174, 3) := by decide +kernel
theorem dX7_numberOf_29 : decode cX7_numberOf 29 = .ok (.ifCond .eq 5, 3) := by decide +kernel
theorem dX7_numberOf_32 : decode cX7_numberOf 32 = .ok (.iload_n 2, 1) := by decide +kernel
theorem dX7_numberOf_33 : decode cX7_numberOf 33 = .ok (.ireturn, 1) := by decide +kernel
theorem dX7_numberOf_34 : decode cX7_numberOf 34 = .ok (.iinc 2 1, 3) := by decide +kernel
theorem dX7_numberOf_37 : decode cX7_numberOf 37 = .ok (.goto (-20), 3) := by decide +kernel
theorem dX7_numberOf_40 : decode cX7_numberOf 40 = .ok (.bipush (-9), 2) := by decide +kernel
theorem dX7_numberOf_42 : decode cX7_numberOf 42 = .ok (.ireturn, 1) := by decide +kernel
theorem dX7_take_0 : decode cX7_take 0 = .ok (.aload_n 1, 1) := by decide +kernel
theorem dX7_take_1 : decode cX7_take 1 = .ok (.bipush 28, 2) := by decide +kernel
theorem dX7_take_3 : decode cX7_take 3 = .ok (.iload_n 2, 1) := by decide +kernel
theorem dX7_take_4 : decode cX7_take 4 = .ok (.ifCond .eq 7, 3) := by decide +kernel
theorem dX7_take_7 : decode cX7_take 7 = .ok (.iconst 1, 1) := by decide +kernel
theorem dX7_take_8 : decode cX7_take 8 = .ok (.goto 4, 3) := by decide +kernel
theorem dX7_take_11 : decode cX7_take 11 = .ok (.iconst 0, 1) := by decide +kernel
theorem dX7_take_12 : decode cX7_take 12 = .ok (.iastore, 1) := by decide +kernel
theorem dX7_take_13 : decode cX7_take 13 = .ok (.iconst 1, 1) := by decide +kernel
theorem dX7_take_14 : decode cX7_take 14 = .ok (.istore_n 3, 1) := by decide +kernel
theorem dX7_take_15 : decode cX7_take 15 = .ok (.iload_n 3, 1) := by decide +kernel
theorem dX7_take_16 : decode cX7_take 16 = .ok (.bipush 10, 2) := by decide +kernel
theorem dX7_take_18 : decode cX7_take 18 = .ok (.if_icmp .gt 38, 3) := by decide +kernel
theorem dX7_take_21 : decode cX7_take 21 = .ok (.aload_n 1, 1) := by decide +kernel
theorem dX7_take_22 : decode cX7_take 22 = .ok (.bipush 29, 2) := by decide +kernel
theorem dX7_take_24 : decode cX7_take 24 = .ok (.iload_n 3, 1) := by decide +kernel
theorem dX7_take_25 : decode cX7_take 25 = .ok (.iadd, 1) := by decide +kernel
theorem dX7_take_26 : decode cX7_take 26 = .ok (.iconst 1, 1) := by decide +kernel
theorem dX7_take_27 : decode cX7_take 27 = .ok (.isub, 1) := by decide +kernel
theorem dX7_take_28 : decode cX7_take 28 = .ok (.iload_n 2, 1) := by decide +kernel
theorem dX7_take_29 : decode cX7_take 29 = .ok (.ifCond .eq 19, 3) := by decide +kernel
theorem dX7_take_32 : decode cX7_take 32 = .ok (.iload_n 3, 1) := by decide +kernel
theorem dX7_take_33 : decode cX7_take 33 = .ok (.aload_n 1, 1) := by decide +kernel
theorem dX7_take_34 : decode cX7_take 34 = .ok (.iconst 0, 1) := by decide +kernel
theorem dX7_take_35 : decode cX7_take 35 = .ok (.iaload, 1) := by decide +kernel
theorem dX7_take_36 : decode cX7_take 36 = .ok (.if_icmp .gt 12, 3) := by decide +kernel
theorem dX7_take_39 : decode cX7_take 39 = .ok (.aload_n 0, 1) := by decide +kernel
theorem dX7_take_40 : decode cX7_take 40 = .ok (.getfield 51, 3) := by decide +kernel
theorem dX7_take_43 : decode cX7_take 43 = .ok (.iload_n 3, 1) := by decide +kernel
theorem dX7_take_44 : decode cX7_take 44 = .ok (.iaload, 1) := by decide +kernel
theorem dX7_take_45 : decode cX7_take 45 = .ok (.goto 4, 3) := by decide +kernel
theorem dX7_take_48 : decode cX7_take 48 = .ok (.iconst 0, 1) := by decide +kernel
theorem dX7_take_49 : decode cX7_take 49 = .ok (.iastore, 1) := by decide +kernel
theorem dX7_take_50 : decode cX7_take 50 = .ok (.iinc 3 1, 3) := by decide +kernel
theorem dX7_take_53 : decode cX7_take 53 = .ok (.goto (-38), 3) := by decide +kernel
theorem dX7_take_56 : decode cX7_take 56 = .ok (.return_, 1) := by decide +kernel
theorem dX7_settleOn_0 : decode cX7_settleOn 0 = .ok (.aload_n 0, 1) := by decide +kernel
theorem dX7_settleOn_1 : decode cX7_settleOn 1 = .ok (.aload_n 1, 1) := by decide +kernel
theorem dX7_settleOn_2 : decode cX7_settleOn 2 = .ok (.invokevirtual 178, 3) := by decide +kernel
theorem dX7_settleOn_5 : decode cX7_settleOn 5 = .ok (.bipush (-9), 2) := by decide +kernel
theorem dX7_settleOn_7 : decode cX7_settleOn 7 = .ok (.if_icmp .ne 17, 3) := by decide +kernel
theorem dX7_settleOn_10 : decode cX7_settleOn 10 = .ok (.aload_n 0, 1) := by decide +kernel
theorem dX7_settleOn_11 : decode cX7_settleOn 11 = .ok (.aload_n 1, 1) := by decide +kernel
theorem dX7_settleOn_12 : decode cX7_settleOn 12 = .ok (.invokevirtual 171, 3) := by decide +kernel
theorem dX7_settleOn_15 : decode cX7_settleOn 15 = .ok (.aload_n 0, 1) := by decide +kernel
theorem dX7_settleOn_16 : decode cX7_settleOn 16 = .ok (.aload_n 1, 1) := by decide +kernel
theorem dX7_settleOn_17 : decode cX7_settleOn 17 = .ok (.aload_n 0, 1) := by decide +kernel
theorem dX7_settleOn_18 : decode cX7_settleOn 18 = .ok (.invokevirtual 164, 3) := by decide +kernel
theorem dX7_settleOn_21 : decode cX7_settleOn 21 = .ok (.invokevirtual 181, 3) := by decide +kernel
theorem dX7_settleOn_24 : decode cX7_settleOn 24 = .ok (.return_, 1) := by decide +kernel
theorem dX7_isRegular_0 : decode cX7_isRegular 0 = .ok (.iconst 2, 1) := by decide +kernel
theorem dX7_isRegular_1 : decode cX7_isRegular 1 = .ok (.iconst 4, 1) := by decide +kernel
theorem dX7_isRegular_2 : decode cX7_isRegular 2 = .ok (.iload_n 1, 1) := by decide +kernel
theorem dX7_isRegular_3 : decode cX7_isRegular 3 = .ok (.imul, 1) := by decide +kernel
theorem dX7_isRegular_4 : decode cX7_isRegular 4 = .ok (.iadd, 1) := by decide +kernel
theorem dX7_isRegular_5 : decode cX7_isRegular 5 = .ok (.istore_n 2, 1) := by decide +kernel
theorem dX7_isRegular_6 : decode cX7_isRegular 6 = .ok (.aload_n 0, 1) := by decide +kernel
theorem dX7_isRegular_7 : decode cX7_isRegular 7 = .ok (.iload_n 2, 1) := by decide +kernel
theorem dX7_isRegular_8 : decode cX7_isRegular 8 = .ok (.iaload, 1) := by decide +kernel
theorem dX7_isRegular_9 : decode cX7_isRegular 9 = .ok (.istore_n 3, 1) := by decide +kernel
theorem dX7_isRegular_10 : decode cX7_isRegular 10 = .ok (.aload_n 0, 1) := by decide +kernel
theorem dX7_isRegular_11 : decode cX7_isRegular 11 = .ok (.iload_n 2, 1) := by decide +kernel
theorem dX7_isRegular_12 : decode cX7_isRegular 12 = .ok (.iconst 1, 1) := by decide +kernel
theorem dX7_isRegular_13 : decode cX7_isRegular 13 = .ok (.iadd, 1) := by decide +kernel
theorem dX7_isRegular_14 : decode cX7_isRegular 14 = .ok (.iaload, 1) := by decide +kernel
theorem dX7_isRegular_15 : decode cX7_isRegular 15 = .ok (.istore 4, 2) := by decide +kernel
theorem dX7_isRegular_17 : decode cX7_isRegular 17 = .ok (.aload_n 0, 1) := by decide +kernel
theorem dX7_isRegular_18 : decode cX7_isRegular 18 = .ok (.iload_n 2, 1) := by decide +kernel
theorem dX7_isRegular_19 : decode cX7_isRegular 19 = .ok (.iconst 2, 1) := by decide +kernel
theorem dX7_isRegular_20 : decode cX7_isRegular 20 = .ok (.iadd, 1) := by decide +kernel
theorem dX7_isRegular_21 : decode cX7_isRegular 21 = .ok (.iaload, 1) := by decide +kernel
theorem dX7_isRegular_22 : decode cX7_isRegular 22 = .ok (.ineg, 1) := by decide +kernel
theorem dX7_isRegular_23 : decode cX7_isRegular 23 = .ok (.istore 5, 2) := by decide +kernel
theorem dX7_isRegular_25 : decode cX7_isRegular 25 = .ok (.iload_n 3, 1) := by decide +kernel
theorem dX7_isRegular_26 : decode cX7_isRegular 26 = .ok (.iload 4, 2) := by decide +kernel
theorem dX7_isRegular_28 : decode cX7_isRegular 28 = .ok (.iadd, 1) := by decide +kernel
theorem dX7_isRegular_29 : decode cX7_isRegular 29 = .ok (.ifCond .eq 28, 3) := by decide +kernel
theorem dX7_isRegular_32 : decode cX7_isRegular 32 = .ok (.iload_n 3, 1) := by decide +kernel
theorem dX7_isRegular_33 : decode cX7_isRegular 33 = .ok (.iload 5, 2) := by decide +kernel
theorem dX7_isRegular_35 : decode cX7_isRegular 35 = .ok (.iadd, 1) := by decide +kernel
theorem dX7_isRegular_36 : decode cX7_isRegular 36 = .ok (.ifCond .eq 21, 3) := by decide +kernel
theorem dX7_isRegular_39 : decode cX7_isRegular 39 = .ok (.iload 4, 2) := by decide +kernel
theorem dX7_isRegular_41 : decode cX7_isRegular 41 = .ok (.iload 5, 2) := by decide +kernel
theorem dX7_isRegular_43 : decode cX7_isRegular 43 = .ok (.iadd, 1) := by decide +kernel
theorem dX7_isRegular_44 : decode cX7_isRegular 44 = .ok (.ifCond .eq 13, 3) := by decide +kernel
theorem dX7_isRegular_47 : decode cX7_isRegular 47 = .ok (.iload_n 3, 1) := by decide +kernel
theorem dX7_isRegular_48 : decode cX7_isRegular 48 = .ok (.iload 4, 2) := by decide +kernel
theorem dX7_isRegular_50 : decode cX7_isRegular 50 = .ok (.iadd, 1) := by decide +kernel
theorem dX7_isRegular_51 : decode cX7_isRegular 51 = .ok (.iload 5, 2) := by decide +kernel
theorem dX7_isRegular_53 : decode cX7_isRegular 53 = .ok (.iadd, 1) := by decide +kernel
theorem dX7_isRegular_54 : decode cX7_isRegular 54 = .ok (.ifCond .ne 7, 3) := by decide +kernel
theorem dX7_isRegular_57 : decode cX7_isRegular 57 = .ok (.iconst 1, 1) := by decide +kernel
theorem dX7_isRegular_58 : decode cX7_isRegular 58 = .ok (.goto 4, 3) := by decide +kernel
theorem dX7_isRegular_61 : decode cX7_isRegular 61 = .ok (.iconst 0, 1) := by decide +kernel
theorem dX7_isRegular_62 : decode cX7_isRegular 62 = .ok (.ireturn, 1) := by decide +kernel
theorem dX7_solutionAt_0 : decode cX7_solutionAt 0 = .ok (.iconst 0, 1) := by decide +kernel
theorem dX7_solutionAt_1 : decode cX7_solutionAt 1 = .ok (.istore_n 3, 1) := by decide +kernel
theorem dX7_solutionAt_2 : decode cX7_solutionAt 2 = .ok (.iconst 1, 1) := by decide +kernel
theorem dX7_solutionAt_3 : decode cX7_solutionAt 3 = .ok (.istore 4, 2) := by decide +kernel
theorem dX7_solutionAt_5 : decode cX7_solutionAt 5 = .ok (.iload 4, 2) := by decide +kernel
theorem dX7_solutionAt_7 : decode cX7_solutionAt 7 = .ok (.aload_n 0, 1) := by decide +kernel
theorem dX7_solutionAt_8 : decode cX7_solutionAt 8 = .ok (.getfield 20, 3) := by decide +kernel
theorem dX7_solutionAt_11 : decode cX7_solutionAt 11 = .ok (.iconst 0, 1) := by decide +kernel
theorem dX7_solutionAt_12 : decode cX7_solutionAt 12 = .ok (.iaload, 1) := by decide +kernel
theorem dX7_solutionAt_13 : decode cX7_solutionAt 13 = .ok (.if_icmp .gt 78, 3) := by decide +kernel
theorem dX7_solutionAt_16 : decode cX7_solutionAt 16 = .ok (.iconst 1, 1) := by decide +kernel
theorem dX7_solutionAt_17 : decode cX7_solutionAt 17 = .ok (.istore 5, 2) := by decide +kernel
theorem dX7_solutionAt_19 : decode cX7_solutionAt 19 = .ok (.iload 5, 2) := by decide +kernel
theorem dX7_solutionAt_21 : decode cX7_solutionAt 21 = .ok (.aload_n 0, 1) := by decide +kernel
theorem dX7_solutionAt_22 : decode cX7_solutionAt 22 = .ok (.getfield 20, 3) := by decide +kernel
theorem dX7_solutionAt_25 : decode cX7_solutionAt 25 = .ok (.iconst 0, 1) := by decide +kernel
theorem dX7_solutionAt_26 : decode cX7_solutionAt 26 = .ok (.iaload, 1) := by decide +kernel
theorem dX7_solutionAt_27 : decode cX7_solutionAt 27 = .ok (.if_icmp .gt 58, 3) := by decide +kernel
theorem dX7_solutionAt_30 : decode cX7_solutionAt 30 = .ok (.aload_n 0, 1) := by decide +kernel
theorem dX7_solutionAt_31 : decode cX7_solutionAt 31 = .ok (.getfield 20, 3) := by decide +kernel
theorem dX7_solutionAt_34 : decode cX7_solutionAt 34 = .ok (.iload_n 1, 1) := by decide +kernel
theorem dX7_solutionAt_35 : decode cX7_solutionAt 35 = .ok (.iload 4, 2) := by decide +kernel
theorem dX7_solutionAt_37 : decode cX7_solutionAt 37 = .ok (.iload 5, 2) := by decide +kernel
theorem dX7_solutionAt_39 : decode cX7_solutionAt 39 = .ok (.aload_n 0, 1) := by decide +kernel
theorem dX7_solutionAt_40 : decode cX7_solutionAt 40 = .ok (.getfield 20, 3) := by decide +kernel
theorem dX7_solutionAt_43 : decode cX7_solutionAt 43 = .ok (.iconst 0, 1) := by decide +kernel
theorem dX7_solutionAt_44 : decode cX7_solutionAt 44 = .ok (.iaload, 1) := by decide +kernel
theorem dX7_solutionAt_45 : decode cX7_solutionAt 45 = .ok (.invokestatic 126, 3) := by decide +kernel
theorem dX7_solutionAt_48 : decode cX7_solutionAt 48 = .ok (.istore 6, 2) := by decide +kernel
theorem dX7_solutionAt_50 : decode cX7_solutionAt 50 = .ok (.iload 6, 2) := by decide +kernel
theorem dX7_solutionAt_52 : decode cX7_solutionAt 52 = .ok (.ifCond .le 27, 3) := by decide +kernel
theorem dX7_solutionAt_55 : decode cX7_solutionAt 55 = .ok (.iload_n 3, 1) := by decide +kernel
theorem dX7_solutionAt_56 : decode cX7_solutionAt 56 = .ok (.iload_n 2, 1) := by decide +kernel
theorem dX7_solutionAt_57 : decode cX7_solutionAt 57 = .ok (.if_icmp .ne 19, 3) := by decide +kernel
theorem dX7_solutionAt_60 : decode cX7_solutionAt 60 = .ok (.sipush 10000, 3) := by decide +kernel
theorem dX7_solutionAt_63 : decode cX7_solutionAt 63 = .ok (.iload 4, 2) := by decide +kernel
theorem dX7_solutionAt_65 : decode cX7_solutionAt 65 = .ok (.imul, 1) := by decide +kernel
theorem dX7_solutionAt_66 : decode cX7_solutionAt 66 = .ok (.bipush 100, 2) := by decide +kernel
theorem dX7_solutionAt_68 : decode cX7_solutionAt 68 = .ok (.iload 5, 2) := by decide +kernel
theorem dX7_solutionAt_70 : decode cX7_solutionAt 70 = .ok (.imul, 1) := by decide +kernel
theorem dX7_solutionAt_71 : decode cX7_solutionAt 71 = .ok (.iadd, 1) := by decide +kernel
theorem dX7_solutionAt_72 : decode cX7_solutionAt 72 = .ok (.iload 6, 2) := by decide +kernel
theorem dX7_solutionAt_74 : decode cX7_solutionAt 74 = .ok (.iadd, 1) := by decide +kernel
theorem dX7_solutionAt_75 : decode cX7_solutionAt 75 = .ok (.ireturn, 1) := by decide +kernel
theorem dX7_solutionAt_76 : decode cX7_solutionAt 76 = .ok (.iinc 3 1, 3) := by decide +kernel
theorem dX7_solutionAt_79 : decode cX7_solutionAt 79 = .ok (.iinc 5 1, 3) := by decide +kernel
theorem dX7_solutionAt_82 : decode cX7_solutionAt 82 = .ok (.goto (-63), 3) := by decide +kernel
theorem dX7_solutionAt_85 : decode cX7_solutionAt 85 = .ok (.iinc 4 1, 3) := by decide +kernel
theorem dX7_solutionAt_88 : decode cX7_solutionAt 88 = .ok (.goto (-83), 3) := by decide +kernel
theorem dX7_solutionAt_91 : decode cX7_solutionAt 91 = .ok (.iload_n 3, 1) := by decide +kernel
theorem dX7_solutionAt_92 : decode cX7_solutionAt 92 = .ok (.ireturn, 1) := by decide +kernel
theorem dX7_noEquation_0 : decode cX7_noEquation 0 = .ok (.iload_n 1, 1) := by decide +kernel
theorem dX7_noEquation_1 : decode cX7_noEquation 1 = .ok (.i2l, 1) := by decide +kernel
theorem dX7_noEquation_2 : decode cX7_noEquation 2 = .ok (.lconst 0, 1) := by decide +kernel
theorem dX7_noEquation_3 : decode cX7_noEquation 3 = .ok (.aload_n 0, 1) := by decide +kernel
theorem dX7_noEquation_4 : decode cX7_noEquation 4 = .ok (.getfield 20, 3) := by decide +kernel
theorem dX7_noEquation_7 : decode cX7_noEquation 7 = .ok (.iconst 1, 1) := by decide +kernel
theorem dX7_noEquation_8 : decode cX7_noEquation 8 = .ok (.iaload, 1) := by decide +kernel
theorem dX7_noEquation_9 : decode cX7_noEquation 9 = .ok (.iconst 1, 1) := by decide +kernel
theorem dX7_noEquation_10 : decode cX7_noEquation 10 = .ok (.isub, 1) := by decide +kernel
theorem dX7_noEquation_11 : decode cX7_noEquation 11 = .ok (.i2l, 1) := by decide +kernel
theorem dX7_noEquation_12 : decode cX7_noEquation 12 = .ok (.invokestatic 72, 3) := by decide +kernel
theorem dX7_noEquation_15 : decode cX7_noEquation 15 = .ok (.ifCond .ne 7, 3) := by decide +kernel
theorem dX7_noEquation_18 : decode cX7_noEquation 18 = .ok (.iconst 1, 1) := by decide +kernel
theorem dX7_noEquation_19 : decode cX7_noEquation 19 = .ok (.goto 4, 3) := by decide +kernel
theorem dX7_noEquation_22 : decode cX7_noEquation 22 = .ok (.iconst 0, 1) := by decide +kernel
theorem dX7_noEquation_23 : decode cX7_noEquation 23 = .ok (.ireturn, 1) := by decide +kernel
theorem dX7_equation_0 : decode cX7_equation 0 = .ok (.aload_n 0, 1) := by decide +kernel
theorem dX7_equation_1 : decode cX7_equation 1 = .ok (.iconst 0, 1) := by decide +kernel
theorem dX7_equation_2 : decode cX7_equation 2 = .ok (.putfield 67, 3) := by decide +kernel
theorem dX7_equation_5 : decode cX7_equation 5 = .ok (.aload_n 0, 1) := by decide +kernel
theorem dX7_equation_6 : decode cX7_equation 6 = .ok (.iload_n 1, 1) := by decide +kernel
theorem dX7_equation_7 : decode cX7_equation 7 = .ok (.invokevirtual 185, 3) := by decide +kernel
theorem dX7_equation_10 : decode cX7_equation 10 = .ok (.ifCond .eq 5, 3) := by decide +kernel
theorem dX7_equation_13 : decode cX7_equation 13 = .ok (.iconst (-1), 1) := by decide +kernel
theorem dX7_equation_14 : decode cX7_equation 14 = .ok (.ireturn, 1) := by decide +kernel
theorem dX7_equation_15 : decode cX7_equation 15 = .ok (.iconst 2, 1) := by decide +kernel
theorem dX7_equation_16 : decode cX7_equation 16 = .ok (.iconst 4, 1) := by decide +kernel
theorem dX7_equation_17 : decode cX7_equation 17 = .ok (.iload_n 1, 1) := by decide +kernel
theorem dX7_equation_18 : decode cX7_equation 18 = .ok (.imul, 1) := by decide +kernel
theorem dX7_equation_19 : decode cX7_equation 19 = .ok (.iadd, 1) := by decide +kernel
theorem dX7_equation_20 : decode cX7_equation 20 = .ok (.istore_n 3, 1) := by decide +kernel
theorem dX7_equation_21 : decode cX7_equation 21 = .ok (.iload_n 2, 1) := by decide +kernel
theorem dX7_equation_22 : decode cX7_equation 22 = .ok (.tableswitch 83 0 5 #[38, 38, 38, 50, 59, 76], 38) := by decide +kernel
theorem dX7_equation_60 : decode cX7_equation 60 = .ok (.aload_n 0, 1) := by decide +kernel
theorem dX7_equation_61 : decode cX7_equation 61 = .ok (.getfield 20, 3) := by decide +kernel
theorem dX7_equation_64 : decode cX7_equation 64 = .ok (.iload_n 3, 1) := by decide +kernel
theorem dX7_equation_65 : decode cX7_equation 65 = .ok (.iload_n 2, 1) := by decide +kernel
theorem dX7_equation_66 : decode cX7_equation 66 = .ok (.iadd, 1) := by decide +kernel
theorem dX7_equation_67 : decode cX7_equation 67 = .ok (.iaload, 1) := by decide +kernel
theorem dX7_equation_68 : decode cX7_equation 68 = .ok (.bipush 10, 2) := by decide +kernel
theorem dX7_equation_70 : decode cX7_equation 70 = .ok (.iadd, 1) := by decide +kernel
theorem dX7_equation_71 : decode cX7_equation 71 = .ok (.ireturn, 1) := by decide +kernel
theorem dX7_equation_72 : decode cX7_equation 72 = .ok (.aload_n 0, 1) := by decide +kernel
theorem dX7_equation_73 : decode cX7_equation 73 = .ok (.getfield 20, 3) := by decide +kernel
theorem dX7_equation_76 : decode cX7_equation 76 = .ok (.iload_n 3, 1) := by decide +kernel
theorem dX7_equation_77 : decode cX7_equation 77 = .ok (.iconst 3, 1) := by decide +kernel
theorem dX7_equation_78 : decode cX7_equation 78 = .ok (.iadd, 1) := by decide +kernel
theorem dX7_equation_79 : decode cX7_equation 79 = .ok (.iaload, 1) := by decide +kernel
theorem dX7_equation_80 : decode cX7_equation 80 = .ok (.ireturn, 1) := by decide +kernel
theorem dX7_equation_81 : decode cX7_equation 81 = .ok (.aload_n 0, 1) := by decide +kernel
theorem dX7_equation_82 : decode cX7_equation 82 = .ok (.getfield 20, 3) := by decide +kernel
theorem dX7_equation_85 : decode cX7_equation 85 = .ok (.iload_n 1, 1) := by decide +kernel
theorem dX7_equation_86 : decode cX7_equation 86 = .ok (.invokestatic 188, 3) := by decide +kernel
theorem dX7_equation_89 : decode cX7_equation 89 = .ok (.ifCond .eq 7, 3) := by decide +kernel
theorem dX7_equation_92 : decode cX7_equation 92 = .ok (.iconst 1, 1) := by decide +kernel
theorem dX7_equation_93 : decode cX7_equation 93 = .ok (.goto 4, 3) := by decide +kernel
theorem dX7_equation_96 : decode cX7_equation 96 = .ok (.iconst 0, 1) := by decide +kernel
theorem dX7_equation_97 : decode cX7_equation 97 = .ok (.ireturn, 1) := by decide +kernel
theorem dX7_equation_98 : decode cX7_equation 98 = .ok (.aload_n 0, 1) := by decide +kernel
theorem dX7_equation_99 : decode cX7_equation 99 = .ok (.iload_n 1, 1) := by decide +kernel
theorem dX7_equation_100 : decode cX7_equation 100 = .ok (.iconst (-1), 1) := by decide +kernel
theorem dX7_equation_101 : decode cX7_equation 101 = .ok (.invokevirtual 192, 3) := by decide +kernel
theorem dX7_equation_104 : decode cX7_equation 104 = .ok (.ireturn, 1) := by decide +kernel
theorem dX7_equation_105 : decode cX7_equation 105 = .ok (.bipush (-2), 2) := by decide +kernel
theorem dX7_equation_107 : decode cX7_equation 107 = .ok (.ireturn, 1) := by decide +kernel
theorem dX7_solution_0 : decode cX7_solution 0 = .ok (.aload_n 0, 1) := by decide +kernel
theorem dX7_solution_1 : decode cX7_solution 1 = .ok (.iconst 0, 1) := by decide +kernel
theorem dX7_solution_2 : decode cX7_solution 2 = .ok (.putfield 67, 3) := by decide +kernel
theorem dX7_solution_5 : decode cX7_solution 5 = .ok (.aload_n 0, 1) := by decide +kernel
theorem dX7_solution_6 : decode cX7_solution 6 = .ok (.iload_n 1, 1) := by decide +kernel
theorem dX7_solution_7 : decode cX7_solution 7 = .ok (.invokevirtual 185, 3) := by decide +kernel
theorem dX7_solution_10 : decode cX7_solution 10 = .ok (.ifCond .eq 5, 3) := by decide +kernel
theorem dX7_solution_13 : decode cX7_solution 13 = .ok (.iconst (-1), 1) := by decide +kernel
theorem dX7_solution_14 : decode cX7_solution 14 = .ok (.ireturn, 1) := by decide +kernel
theorem dX7_solution_15 : decode cX7_solution 15 = .ok (.iload_n 2, 1) := by decide +kernel
theorem dX7_solution_16 : decode cX7_solution 16 = .ok (.i2l, 1) := by decide +kernel
theorem dX7_solution_17 : decode cX7_solution 17 = .ok (.lconst 0, 1) := by decide +kernel
theorem dX7_solution_18 : decode cX7_solution 18 = .ok (.aload_n 0, 1) := by decide +kernel
theorem dX7_solution_19 : decode cX7_solution 19 = .ok (.iload_n 1, 1) := by decide +kernel
theorem dX7_solution_20 : decode cX7_solution 20 = .ok (.iconst (-1), 1) := by decide +kernel
theorem dX7_solution_21 : decode cX7_solution 21 = .ok (.invokevirtual 192, 3) := by decide +kernel
theorem dX7_solution_24 : decode cX7_solution 24 = .ok (.iconst 1, 1) := by decide +kernel
theorem dX7_solution_25 : decode cX7_solution 25 = .ok (.isub, 1) := by decide +kernel
theorem dX7_solution_26 : decode cX7_solution 26 = .ok (.i2l, 1) := by decide +kernel
theorem dX7_solution_27 : decode cX7_solution 27 = .ok (.invokestatic 72, 3) := by decide +kernel
theorem dX7_solution_30 : decode cX7_solution 30 = .ok (.ifCond .eq 12, 3) := by decide +kernel
theorem dX7_solution_33 : decode cX7_solution 33 = .ok (.aload_n 0, 1) := by decide +kernel
theorem dX7_solution_34 : decode cX7_solution 34 = .ok (.iload_n 1, 1) := by decide +kernel
theorem dX7_solution_35 : decode cX7_solution 35 = .ok (.iload_n 2, 1) := by decide +kernel
theorem dX7_solution_36 : decode cX7_solution 36 = .ok (.invokevirtual 192, 3) := by decide +kernel
theorem dX7_solution_39 : decode cX7_solution 39 = .ok (.goto 5, 3) := by decide +kernel
theorem dX7_solution_42 : decode cX7_solution 42 = .ok (.bipush (-9), 2) := by decide +kernel
theorem dX7_solution_44 : decode cX7_solution 44 = .ok (.ireturn, 1) := by decide +kernel
theorem dX7_noNumber_0 : decode cX7_noNumber 0 = .ok (.iload_n 1, 1) := by decide +kernel
theorem dX7_noNumber_1 : decode cX7_noNumber 1 = .ok (.i2l, 1) := by decide +kernel
theorem dX7_noNumber_2 : decode cX7_noNumber 2 = .ok (.lconst 1, 1) := by decide +kernel
theorem dX7_noNumber_3 : decode cX7_noNumber 3 = .ok (.aload_n 0, 1) := by decide +kernel
theorem dX7_noNumber_4 : decode cX7_noNumber 4 = .ok (.getfield 20, 3) := by decide +kernel
theorem dX7_noNumber_7 : decode cX7_noNumber 7 = .ok (.iconst 0, 1) := by decide +kernel
theorem dX7_noNumber_8 : decode cX7_noNumber 8 = .ok (.iaload, 1) := by decide +kernel
theorem dX7_noNumber_9 : decode cX7_noNumber 9 = .ok (.i2l, 1) := by decide +kernel
theorem dX7_noNumber_10 : decode cX7_noNumber 10 = .ok (.invokestatic 72, 3) := by decide +kernel
theorem dX7_noNumber_13 : decode cX7_noNumber 13 = .ok (.ifCond .ne 7, 3) := by decide +kernel
theorem dX7_noNumber_16 : decode cX7_noNumber 16 = .ok (.iconst 1, 1) := by decide +kernel
theorem dX7_noNumber_17 : decode cX7_noNumber 17 = .ok (.goto 4, 3) := by decide +kernel
theorem dX7_noNumber_20 : decode cX7_noNumber 20 = .ok (.iconst 0, 1) := by decide +kernel
theorem dX7_noNumber_21 : decode cX7_noNumber 21 = .ok (.ireturn, 1) := by decide +kernel
theorem dX7_mayBe_0 : decode cX7_mayBe 0 = .ok (.iconst 0, 1) := by decide +kernel
theorem dX7_mayBe_1 : decode cX7_mayBe 1 = .ok (.istore_n 3, 1) := by decide +kernel
theorem dX7_mayBe_2 : decode cX7_mayBe 2 = .ok (.aload_n 0, 1) := by decide +kernel
theorem dX7_mayBe_3 : decode cX7_mayBe 3 = .ok (.aload_n 1, 1) := by decide +kernel
theorem dX7_mayBe_4 : decode cX7_mayBe 4 = .ok (.invokevirtual 171, 3) := by decide +kernel
theorem dX7_mayBe_7 : decode cX7_mayBe 7 = .ok (.aload_n 0, 1) := by decide +kernel
theorem dX7_mayBe_8 : decode cX7_mayBe 8 = .ok (.invokevirtual 164, 3) := by decide +kernel
theorem dX7_mayBe_11 : decode cX7_mayBe 11 = .ok (.ifCond .eq 17, 3) := by decide +kernel
theorem dX7_mayBe_14 : decode cX7_mayBe 14 = .ok (.iload_n 3, 1) := by decide +kernel
theorem dX7_mayBe_15 : decode cX7_mayBe 15 = .ok (.iconst 1, 1) := by decide +kernel
theorem dX7_mayBe_16 : decode cX7_mayBe 16 = .ok (.aload_n 0, 1) := by decide +kernel
theorem dX7_mayBe_17 : decode cX7_mayBe 17 = .ok (.getfield 51, 3) := by decide +kernel
theorem dX7_mayBe_20 : decode cX7_mayBe 20 = .ok (.iload_n 2, 1) := by decide +kernel
theorem dX7_mayBe_21 : decode cX7_mayBe 21 = .ok (.iaload, 1) := by decide +kernel
theorem dX7_mayBe_22 : decode cX7_mayBe 22 = .ok (.ishl, 1) := by decide +kernel
theorem dX7_mayBe_23 : decode cX7_mayBe 23 = .ok (.ior, 1) := by decide +kernel
theorem dX7_mayBe_24 : decode cX7_mayBe 24 = .ok (.istore_n 3, 1) := by decide +kernel
theorem dX7_mayBe_25 : decode cX7_mayBe 25 = .ok (.goto (-18), 3) := by decide +kernel
theorem dX7_mayBe_28 : decode cX7_mayBe 28 = .ok (.iload_n 3, 1) := by decide +kernel
theorem dX7_mayBe_29 : decode cX7_mayBe 29 = .ok (.ireturn, 1) := by decide +kernel
theorem dX7_number_0 : decode cX7_number 0 = .ok (.aload_n 0, 1) := by decide +kernel
theorem dX7_number_1 : decode cX7_number 1 = .ok (.iconst 0, 1) := by decide +kernel
theorem dX7_number_2 : decode cX7_number 2 = .ok (.putfield 67, 3) := by decide +kernel
theorem dX7_number_5 : decode cX7_number 5 = .ok (.aload_n 0, 1) := by decide +kernel
theorem dX7_number_6 : decode cX7_number 6 = .ok (.iload_n 1, 1) := by decide +kernel
theorem dX7_number_7 : decode cX7_number 7 = .ok (.invokevirtual 195, 3) := by decide +kernel
theorem dX7_number_10 : decode cX7_number 10 = .ok (.ifCond .eq 5, 3) := by decide +kernel
theorem dX7_number_13 : decode cX7_number 13 = .ok (.iconst (-1), 1) := by decide +kernel
theorem dX7_number_14 : decode cX7_number 14 = .ok (.ireturn, 1) := by decide +kernel
theorem dX7_number_15 : decode cX7_number 15 = .ok (.iload_n 2, 1) := by decide +kernel
theorem dX7_number_16 : decode cX7_number 16 = .ok (.tableswitch 125 0 3 #[32, 60, 93, 103], 32) := by decide +kernel
theorem dX7_number_48 : decode cX7_number 48 = .ok (.aload_n 0, 1) := by decide +kernel
theorem dX7_number_49 : decode cX7_number 49 = .ok (.getfield 20, 3) := by decide +kernel
theorem dX7_number_52 : decode cX7_number 52 = .ok (.bipush 28, 2) := by decide +kernel
theorem dX7_number_54 : decode cX7_number 54 = .ok (.iaload, 1) := by decide +kernel
theorem dX7_number_55 : decode cX7_number 55 = .ok (.iconst 1, 1) := by decide +kernel
theorem dX7_number_56 : decode cX7_number 56 = .ok (.if_icmp .ne 17, 3) := by decide +kernel
theorem dX7_number_59 : decode cX7_number 59 = .ok (.aload_n 0, 1) := by decide +kernel
theorem dX7_number_60 : decode cX7_number 60 = .ok (.getfield 20, 3) := by decide +kernel
theorem dX7_number_63 : decode cX7_number 63 = .ok (.bipush 29, 2) := by decide +kernel
theorem dX7_number_65 : decode cX7_number 65 = .ok (.iload_n 1, 1) := by decide +kernel
theorem dX7_number_66 : decode cX7_number 66 = .ok (.iadd, 1) := by decide +kernel
theorem dX7_number_67 : decode cX7_number 67 = .ok (.iconst 1, 1) := by decide +kernel
theorem dX7_number_68 : decode cX7_number 68 = .ok (.isub, 1) := by decide +kernel
theorem dX7_number_69 : decode cX7_number 69 = .ok (.iaload, 1) := by decide +kernel
theorem dX7_number_70 : decode cX7_number 70 = .ok (.goto 5, 3) := by decide +kernel
theorem dX7_number_73 : decode cX7_number 73 = .ok (.bipush (-9), 2) := by decide +kernel
theorem dX7_number_75 : decode cX7_number 75 = .ok (.ireturn, 1) := by decide +kernel
theorem dX7_number_76 : decode cX7_number 76 = .ok (.aload_n 0, 1) := by decide +kernel
theorem dX7_number_77 : decode cX7_number 77 = .ok (.getfield 20, 3) := by decide +kernel
theorem dX7_number_80 : decode cX7_number 80 = .ok (.bipush 18, 2) := by decide +kernel
theorem dX7_number_82 : decode cX7_number 82 = .ok (.iload_n 1, 1) := by decide +kernel
theorem dX7_number_83 : decode cX7_number 83 = .ok (.iadd, 1) := by decide +kernel
theorem dX7_number_84 : decode cX7_number 84 = .ok (.iconst 1, 1) := by decide +kernel
theorem dX7_number_85 : decode cX7_number 85 = .ok (.isub, 1) := by decide +kernel
theorem dX7_number_86 : decode cX7_number 86 = .ok (.iaload, 1) := by decide +kernel
theorem dX7_number_87 : decode cX7_number 87 = .ok (.ifCond .ne 8, 3) := by decide +kernel
theorem dX7_number_90 : decode cX7_number 90 = .ok (.bipush (-9), 2) := by decide +kernel
theorem dX7_number_92 : decode cX7_number 92 = .ok (.goto 16, 3) := by decide +kernel
theorem dX7_number_95 : decode cX7_number 95 = .ok (.aload_n 0, 1) := by decide +kernel
theorem dX7_number_96 : decode cX7_number 96 = .ok (.getfield 20, 3) := by decide +kernel
theorem dX7_number_99 : decode cX7_number 99 = .ok (.bipush 18, 2) := by decide +kernel
theorem dX7_number_101 : decode cX7_number 101 = .ok (.iload_n 1, 1) := by decide +kernel
theorem dX7_number_102 : decode cX7_number 102 = .ok (.iadd, 1) := by decide +kernel
theorem dX7_number_103 : decode cX7_number 103 = .ok (.iconst 1, 1) := by decide +kernel
theorem dX7_number_104 : decode cX7_number 104 = .ok (.isub, 1) := by decide +kernel
theorem dX7_number_105 : decode cX7_number 105 = .ok (.iaload, 1) := by decide +kernel
theorem dX7_number_106 : decode cX7_number 106 = .ok (.iconst 1, 1) := by decide +kernel
theorem dX7_number_107 : decode cX7_number 107 = .ok (.isub, 1) := by decide +kernel
theorem dX7_number_108 : decode cX7_number 108 = .ok (.ireturn, 1) := by decide +kernel
theorem dX7_number_109 : decode cX7_number 109 = .ok (.aload_n 0, 1) := by decide +kernel
theorem dX7_number_110 : decode cX7_number 110 = .ok (.aload_n 0, 1) := by decide +kernel
theorem dX7_number_111 : decode cX7_number 111 = .ok (.getfield 20, 3) := by decide +kernel
theorem dX7_number_114 : decode cX7_number 114 = .ok (.iload_n 1, 1) := by decide +kernel
theorem dX7_number_115 : decode cX7_number 115 = .ok (.invokevirtual 198, 3) := by decide +kernel
theorem dX7_number_118 : decode cX7_number 118 = .ok (.ireturn, 1) := by decide +kernel
theorem dX7_number_119 : decode cX7_number 119 = .ok (.aload_n 0, 1) := by decide +kernel
theorem dX7_number_120 : decode cX7_number 120 = .ok (.aload_n 0, 1) := by decide +kernel
theorem dX7_number_121 : decode cX7_number 121 = .ok (.getfield 20, 3) := by decide +kernel
theorem dX7_number_124 : decode cX7_number 124 = .ok (.iload_n 1, 1) := by decide +kernel
theorem dX7_number_125 : decode cX7_number 125 = .ok (.invokevirtual 198, 3) := by decide +kernel
theorem dX7_number_128 : decode cX7_number 128 = .ok (.invokestatic 201, 3) := by decide +kernel
theorem dX7_number_131 : decode cX7_number 131 = .ok (.iconst 1, 1) := by decide +kernel
theorem dX7_number_132 : decode cX7_number 132 = .ok (.if_icmp .ne 7, 3) := by decide +kernel
theorem dX7_number_135 : decode cX7_number 135 = .ok (.iconst 1, 1) := by decide +kernel
theorem dX7_number_136 : decode cX7_number 136 = .ok (.goto 4, 3) := by decide +kernel
theorem dX7_number_139 : decode cX7_number 139 = .ok (.iconst 0, 1) := by decide +kernel
theorem dX7_number_140 : decode cX7_number 140 = .ok (.ireturn, 1) := by decide +kernel
theorem dX7_number_141 : decode cX7_number 141 = .ok (.bipush (-2), 2) := by decide +kernel
theorem dX7_number_143 : decode cX7_number 143 = .ok (.ireturn, 1) := by decide +kernel
theorem dX7_note_0 : decode cX7_note 0 = .ok (.aload_n 0, 1) := by decide +kernel
theorem dX7_note_1 : decode cX7_note 1 = .ok (.getfield 115, 3) := by decide +kernel
theorem dX7_note_4 : decode cX7_note 4 = .ok (.bipush 14, 2) := by decide +kernel
theorem dX7_note_6 : decode cX7_note 6 = .ok (.if_icmp .ne 43, 3) := by decide +kernel
theorem dX7_note_9 : decode cX7_note 9 = .ok (.iconst 0, 1) := by decide +kernel
theorem dX7_note_10 : decode cX7_note 10 = .ok (.istore_n 1, 1) := by decide +kernel
theorem dX7_note_11 : decode cX7_note 11 = .ok (.iload_n 1, 1) := by decide +kernel
theorem dX7_note_12 : decode cX7_note 12 = .ok (.sipush 507, 3) := by decide +kernel
theorem dX7_note_15 : decode cX7_note 15 = .ok (.if_icmp .ge 24, 3) := by decide +kernel
theorem dX7_note_18 : decode cX7_note 18 = .ok (.aload_n 0, 1) := by decide +kernel
theorem dX7_note_19 : decode cX7_note 19 = .ok (.getfield 26, 3) := by decide +kernel
theorem dX7_note_22 : decode cX7_note 22 = .ok (.iload_n 1, 1) := by decide +kernel
theorem dX7_note_23 : decode cX7_note 23 = .ok (.aload_n 0, 1) := by decide +kernel
theorem dX7_note_24 : decode cX7_note 24 = .ok (.getfield 26, 3) := by decide +kernel
theorem dX7_note_27 : decode cX7_note 27 = .ok (.iload_n 1, 1) := by decide +kernel
theorem dX7_note_28 : decode cX7_note 28 = .ok (.bipush 39, 2) := by decide +kernel
theorem dX7_note_30 : decode cX7_note 30 = .ok (.iadd, 1) := by decide +kernel
theorem dX7_note_31 : decode cX7_note 31 = .ok (.iaload, 1) := by decide +kernel
theorem dX7_note_32 : decode cX7_note 32 = .ok (.iastore, 1) := by decide +kernel
theorem dX7_note_33 : decode cX7_note 33 = .ok (.iinc 1 1, 3) := by decide +kernel
theorem dX7_note_36 : decode cX7_note 36 = .ok (.goto (-25), 3) := by decide +kernel
theorem dX7_note_39 : decode cX7_note 39 = .ok (.aload_n 0, 1) := by decide +kernel
theorem dX7_note_40 : decode cX7_note 40 = .ok (.dup, 1) := by decide +kernel
theorem dX7_note_41 : decode cX7_note 41 = .ok (.getfield 115, 3) := by decide +kernel
theorem dX7_note_44 : decode cX7_note 44 = .ok (.iconst 1, 1) := by decide +kernel
theorem dX7_note_45 : decode cX7_note 45 = .ok (.isub, 1) := by decide +kernel
theorem dX7_note_46 : decode cX7_note 46 = .ok (.putfield 115, 3) := by decide +kernel
theorem dX7_note_49 : decode cX7_note 49 = .ok (.iconst 0, 1) := by decide +kernel
theorem dX7_note_50 : decode cX7_note 50 = .ok (.istore_n 1, 1) := by decide +kernel
theorem dX7_note_51 : decode cX7_note 51 = .ok (.iload_n 1, 1) := by decide +kernel
theorem dX7_note_52 : decode cX7_note 52 = .ok (.bipush 39, 2) := by decide +kernel
theorem dX7_note_54 : decode cX7_note 54 = .ok (.if_icmp .ge 29, 3) := by decide +kernel
theorem dX7_note_57 : decode cX7_note 57 = .ok (.aload_n 0, 1) := by decide +kernel
theorem dX7_note_58 : decode cX7_note 58 = .ok (.getfield 26, 3) := by decide +kernel
theorem dX7_note_61 : decode cX7_note 61 = .ok (.bipush 39, 2) := by decide +kernel
theorem dX7_note_63 : decode cX7_note 63 = .ok (.aload_n 0, 1) := by decide +kernel
theorem dX7_note_64 : decode cX7_note 64 = .ok (.getfield 115, 3) := by decide +kernel
theorem dX7_note_67 : decode cX7_note 67 = .ok (.imul, 1) := by decide +kernel
theorem dX7_note_68 : decode cX7_note 68 = .ok (.iload_n 1, 1) := by decide +kernel
theorem dX7_note_69 : decode cX7_note 69 = .ok (.iadd, 1) := by decide +kernel
theorem dX7_note_70 : decode cX7_note 70 = .ok (.aload_n 0, 1) := by decide +kernel
theorem dX7_note_71 : decode cX7_note 71 = .ok (.getfield 20, 3) := by decide +kernel
theorem dX7_note_74 : decode cX7_note 74 = .ok (.iload_n 1, 1) := by decide +kernel
theorem dX7_note_75 : decode cX7_note 75 = .ok (.iaload, 1) := by decide +kernel
theorem dX7_note_76 : decode cX7_note 76 = .ok (.iastore, 1) := by decide +kernel
theorem dX7_note_77 : decode cX7_note 77 = .ok (.iinc 1 1, 3) := by decide +kernel
theorem dX7_note_80 : decode cX7_note 80 = .ok (.goto (-29), 3) := by decide +kernel
theorem dX7_note_83 : decode cX7_note 83 = .ok (.aload_n 0, 1) := by decide +kernel
theorem dX7_note_84 : decode cX7_note 84 = .ok (.dup, 1) := by decide +kernel
theorem dX7_note_85 : decode cX7_note 85 = .ok (.getfield 115, 3) := by decide +kernel
theorem dX7_note_88 : decode cX7_note 88 = .ok (.iconst 1, 1) := by decide +kernel
theorem dX7_note_89 : decode cX7_note 89 = .ok (.iadd, 1) := by decide +kernel
theorem dX7_note_90 : decode cX7_note 90 = .ok (.putfield 115, 3) := by decide +kernel
theorem dX7_note_93 : decode cX7_note 93 = .ok (.return_, 1) := by decide +kernel
theorem dX7_go_0 : decode cX7_go 0 = .ok (.aload_n 0, 1) := by decide +kernel
theorem dX7_go_1 : decode cX7_go 1 = .ok (.iconst 0, 1) := by decide +kernel
theorem dX7_go_2 : decode cX7_go 2 = .ok (.putfield 67, 3) := by decide +kernel
theorem dX7_go_5 : decode cX7_go 5 = .ok (.iload_n 1, 1) := by decide +kernel
theorem dX7_go_6 : decode cX7_go 6 = .ok (.i2l, 1) := by decide +kernel
theorem dX7_go_7 : decode cX7_go 7 = .ok (.lconst 0, 1) := by decide +kernel
theorem dX7_go_8 : decode cX7_go 8 = .ok (.aload_n 0, 1) := by decide +kernel
theorem dX7_go_9 : decode cX7_go 9 = .ok (.aload_n 0, 1) := by decide +kernel
theorem dX7_go_10 : decode cX7_go 10 = .ok (.getfield 20, 3) := by decide +kernel
theorem dX7_go_13 : decode cX7_go 13 = .ok (.invokevirtual 118, 3) := by decide +kernel
theorem dX7_go_16 : decode cX7_go 16 = .ok (.iconst 1, 1) := by decide +kernel
theorem dX7_go_17 : decode cX7_go 17 = .ok (.isub, 1) := by decide +kernel
theorem dX7_go_18 : decode cX7_go 18 = .ok (.i2l, 1) := by decide +kernel
theorem dX7_go_19 : decode cX7_go 19 = .ok (.invokestatic 72, 3) := by decide +kernel
theorem dX7_go_22 : decode cX7_go 22 = .ok (.ifCond .ne 5, 3) := by decide +kernel
theorem dX7_go_25 : decode cX7_go 25 = .ok (.iconst (-1), 1) := by decide +kernel
theorem dX7_go_26 : decode cX7_go 26 = .ok (.ireturn, 1) := by decide +kernel
theorem dX7_go_27 : decode cX7_go 27 = .ok (.aload_n 0, 1) := by decide +kernel
theorem dX7_go_28 : decode cX7_go 28 = .ok (.invokevirtual 205, 3) := by decide +kernel
theorem dX7_go_31 : decode cX7_go 31 = .ok (.aload_n 0, 1) := by decide +kernel
theorem dX7_go_32 : decode cX7_go 32 = .ok (.aload_n 0, 1) := by decide +kernel
theorem dX7_go_33 : decode cX7_go 33 = .ok (.getfield 20, 3) := by decide +kernel
theorem dX7_go_36 : decode cX7_go 36 = .ok (.invokevirtual 171, 3) := by decide +kernel
theorem dX7_go_39 : decode cX7_go 39 = .ok (.iconst 0, 1) := by decide +kernel
theorem dX7_go_40 : decode cX7_go 40 = .ok (.istore_n 2, 1) := by decide +kernel
theorem dX7_go_41 : decode cX7_go 41 = .ok (.iload_n 2, 1) := by decide +kernel
theorem dX7_go_42 : decode cX7_go 42 = .ok (.iload_n 1, 1) := by decide +kernel
theorem dX7_go_43 : decode cX7_go 43 = .ok (.if_icmp .gt 14, 3) := by decide +kernel
theorem dX7_go_46 : decode cX7_go 46 = .ok (.aload_n 0, 1) := by decide +kernel
theorem dX7_go_47 : decode cX7_go 47 = .ok (.invokevirtual 164, 3) := by decide +kernel
theorem dX7_go_50 : decode cX7_go 50 = .ok (.pop, 1) := by decide +kernel
theorem dX7_go_51 : decode cX7_go 51 = .ok (.iinc 2 1, 3) := by decide +kernel
theorem dX7_go_54 : decode cX7_go 54 = .ok (.goto (-13), 3) := by decide +kernel
theorem dX7_go_57 : decode cX7_go 57 = .ok (.iconst 0, 1) := by decide +kernel
theorem dX7_go_58 : decode cX7_go 58 = .ok (.istore_n 2, 1) := by decide +kernel
theorem dX7_go_59 : decode cX7_go 59 = .ok (.iconst 1, 1) := by decide +kernel
theorem dX7_go_60 : decode cX7_go 60 = .ok (.istore_n 3, 1) := by decide +kernel
theorem dX7_go_61 : decode cX7_go 61 = .ok (.iload_n 3, 1) := by decide +kernel
theorem dX7_go_62 : decode cX7_go 62 = .ok (.aload_n 0, 1) := by decide +kernel
theorem dX7_go_63 : decode cX7_go 63 = .ok (.getfield 20, 3) := by decide +kernel
theorem dX7_go_66 : decode cX7_go 66 = .ok (.iconst 0, 1) := by decide +kernel
theorem dX7_go_67 : decode cX7_go 67 = .ok (.iaload, 1) := by decide +kernel
theorem dX7_go_68 : decode cX7_go 68 = .ok (.if_icmp .gt 37, 3) := by decide +kernel
theorem dX7_go_71 : decode cX7_go 71 = .ok (.iload_n 2, 1) := by decide +kernel
theorem dX7_go_72 : decode cX7_go 72 = .ok (.aload_n 0, 1) := by decide +kernel
theorem dX7_go_73 : decode cX7_go 73 = .ok (.getfield 51, 3) := by decide +kernel
theorem dX7_go_76 : decode cX7_go 76 = .ok (.iload_n 3, 1) := by decide +kernel
theorem dX7_go_77 : decode cX7_go 77 = .ok (.iaload, 1) := by decide +kernel
theorem dX7_go_78 : decode cX7_go 78 = .ok (.aload_n 0, 1) := by decide +kernel
theorem dX7_go_79 : decode cX7_go 79 = .ok (.getfield 20, 3) := by decide +kernel
theorem dX7_go_82 : decode cX7_go 82 = .ok (.bipush 29, 2) := by decide +kernel
theorem dX7_go_84 : decode cX7_go 84 = .ok (.iload_n 3, 1) := by decide +kernel
theorem dX7_go_85 : decode cX7_go 85 = .ok (.iadd, 1) := by decide +kernel
theorem dX7_go_86 : decode cX7_go 86 = .ok (.iconst 1, 1) := by decide +kernel
theorem dX7_go_87 : decode cX7_go 87 = .ok (.isub, 1) := by decide +kernel
theorem dX7_go_88 : decode cX7_go 88 = .ok (.iaload, 1) := by decide +kernel
theorem dX7_go_89 : decode cX7_go 89 = .ok (.if_icmp .eq 7, 3) := by decide +kernel
theorem dX7_go_92 : decode cX7_go 92 = .ok (.iconst 1, 1) := by decide +kernel
theorem dX7_go_93 : decode cX7_go 93 = .ok (.goto 4, 3) := by decide +kernel
theorem dX7_go_96 : decode cX7_go 96 = .ok (.iconst 0, 1) := by decide +kernel
theorem dX7_go_97 : decode cX7_go 97 = .ok (.iadd, 1) := by decide +kernel
theorem dX7_go_98 : decode cX7_go 98 = .ok (.istore_n 2, 1) := by decide +kernel
theorem dX7_go_99 : decode cX7_go 99 = .ok (.iinc 3 1, 3) := by decide +kernel
theorem dX7_go_102 : decode cX7_go 102 = .ok (.goto (-41), 3) := by decide +kernel
theorem dX7_go_105 : decode cX7_go 105 = .ok (.aload_n 0, 1) := by decide +kernel
theorem dX7_go_106 : decode cX7_go 106 = .ok (.aload_n 0, 1) := by decide +kernel
theorem dX7_go_107 : decode cX7_go 107 = .ok (.getfield 20, 3) := by decide +kernel
theorem dX7_go_110 : decode cX7_go 110 = .ok (.iconst 1, 1) := by decide +kernel
theorem dX7_go_111 : decode cX7_go 111 = .ok (.invokevirtual 181, 3) := by decide +kernel
theorem dX7_go_114 : decode cX7_go 114 = .ok (.iload_n 2, 1) := by decide +kernel
theorem dX7_go_115 : decode cX7_go 115 = .ok (.ireturn, 1) := by decide +kernel
theorem dX7_paintOn_0 : decode cX7_paintOn 0 = .ok (.aload_n 1, 1) := by decide +kernel
theorem dX7_paintOn_1 : decode cX7_paintOn 1 = .ok (.bipush 29, 2) := by decide +kernel
theorem dX7_paintOn_3 : decode cX7_paintOn 3 = .ok (.iload_n 2, 1) := by decide +kernel
theorem dX7_paintOn_4 : decode cX7_paintOn 4 = .ok (.iadd, 1) := by decide +kernel
theorem dX7_paintOn_5 : decode cX7_paintOn 5 = .ok (.iconst 1, 1) := by decide +kernel
theorem dX7_paintOn_6 : decode cX7_paintOn 6 = .ok (.isub, 1) := by decide +kernel
theorem dX7_paintOn_7 : decode cX7_paintOn 7 = .ok (.iaload, 1) := by decide +kernel
theorem dX7_paintOn_8 : decode cX7_paintOn 8 = .ok (.istore 4, 2) := by decide +kernel
theorem dX7_paintOn_10 : decode cX7_paintOn 10 = .ok (.aload_n 1, 1) := by decide +kernel
theorem dX7_paintOn_11 : decode cX7_paintOn 11 = .ok (.bipush 28, 2) := by decide +kernel
theorem dX7_paintOn_13 : decode cX7_paintOn 13 = .ok (.iaload, 1) := by decide +kernel
theorem dX7_paintOn_14 : decode cX7_paintOn 14 = .ok (.ifCond .eq 9, 3) := by decide +kernel
theorem dX7_paintOn_17 : decode cX7_paintOn 17 = .ok (.iload 4, 2) := by decide +kernel
theorem dX7_paintOn_19 : decode cX7_paintOn 19 = .ok (.iload_n 3, 1) := by decide +kernel
theorem dX7_paintOn_20 : decode cX7_paintOn 20 = .ok (.if_icmp .ne 5, 3) := by decide +kernel
theorem dX7_paintOn_23 : decode cX7_paintOn 23 = .ok (.iconst 0, 1) := by decide +kernel
theorem dX7_paintOn_24 : decode cX7_paintOn 24 = .ok (.ireturn, 1) := by decide +kernel
theorem dX7_paintOn_25 : decode cX7_paintOn 25 = .ok (.aload_n 1, 1) := by decide +kernel
theorem dX7_paintOn_26 : decode cX7_paintOn 26 = .ok (.bipush 29, 2) := by decide +kernel
theorem dX7_paintOn_28 : decode cX7_paintOn 28 = .ok (.iload_n 2, 1) := by decide +kernel
theorem dX7_paintOn_29 : decode cX7_paintOn 29 = .ok (.iadd, 1) := by decide +kernel
theorem dX7_paintOn_30 : decode cX7_paintOn 30 = .ok (.iconst 1, 1) := by decide +kernel
theorem dX7_paintOn_31 : decode cX7_paintOn 31 = .ok (.isub, 1) := by decide +kernel
theorem dX7_paintOn_32 : decode cX7_paintOn 32 = .ok (.iload_n 3, 1) := by decide +kernel
theorem dX7_paintOn_33 : decode cX7_paintOn 33 = .ok (.iastore, 1) := by decide +kernel
theorem dX7_paintOn_34 : decode cX7_paintOn 34 = .ok (.aload_n 0, 1) := by decide +kernel
theorem dX7_paintOn_35 : decode cX7_paintOn 35 = .ok (.aload_n 1, 1) := by decide +kernel
theorem dX7_paintOn_36 : decode cX7_paintOn 36 = .ok (.invokevirtual 178, 3) := by decide +kernel
theorem dX7_paintOn_39 : decode cX7_paintOn 39 = .ok (.bipush (-9), 2) := by decide +kernel
theorem dX7_paintOn_41 : decode cX7_paintOn 41 = .ok (.if_icmp .eq 5, 3) := by decide +kernel
theorem dX7_paintOn_44 : decode cX7_paintOn 44 = .ok (.iconst 1, 1) := by decide +kernel
theorem dX7_paintOn_45 : decode cX7_paintOn 45 = .ok (.ireturn, 1) := by decide +kernel
theorem dX7_paintOn_46 : decode cX7_paintOn 46 = .ok (.aload_n 1, 1) := by decide +kernel
theorem dX7_paintOn_47 : decode cX7_paintOn 47 = .ok (.bipush 29, 2) := by decide +kernel
theorem dX7_paintOn_49 : decode cX7_paintOn 49 = .ok (.iload_n 2, 1) := by decide +kernel
theorem dX7_paintOn_50 : decode cX7_paintOn 50 = .ok (.iadd, 1) := by decide +kernel
theorem dX7_paintOn_51 : decode cX7_paintOn 51 = .ok (.iconst 1, 1) := by decide +kernel
theorem dX7_paintOn_52 : decode cX7_paintOn 52 = .ok (.isub, 1) := by decide +kernel
theorem dX7_paintOn_53 : decode cX7_paintOn 53 = .ok (.iload 4, 2) := by decide +kernel
theorem dX7_paintOn_55 : decode cX7_paintOn 55 = .ok (.iastore, 1) := by decide +kernel
theorem dX7_paintOn_56 : decode cX7_paintOn 56 = .ok (.iconst 0, 1) := by decide +kernel
theorem dX7_paintOn_57 : decode cX7_paintOn 57 = .ok (.ireturn, 1) := by decide +kernel
theorem dX7_paint_0 : decode cX7_paint 0 = .ok (.aload_n 0, 1) := by decide +kernel
theorem dX7_paint_1 : decode cX7_paint 1 = .ok (.iconst 0, 1) := by decide +kernel
theorem dX7_paint_2 : decode cX7_paint 2 = .ok (.putfield 67, 3) := by decide +kernel
theorem dX7_paint_5 : decode cX7_paint 5 = .ok (.aload_n 0, 1) := by decide +kernel
theorem dX7_paint_6 : decode cX7_paint 6 = .ok (.iload_n 1, 1) := by decide +kernel
theorem dX7_paint_7 : decode cX7_paint 7 = .ok (.invokevirtual 195, 3) := by decide +kernel
theorem dX7_paint_10 : decode cX7_paint 10 = .ok (.ifCond .eq 5, 3) := by decide +kernel
theorem dX7_paint_13 : decode cX7_paint 13 = .ok (.iconst (-1), 1) := by decide +kernel
theorem dX7_paint_14 : decode cX7_paint 14 = .ok (.ireturn, 1) := by decide +kernel
theorem dX7_paint_15 : decode cX7_paint 15 = .ok (.iload_n 2, 1) := by decide +kernel
theorem dX7_paint_16 : decode cX7_paint 16 = .ok (.i2l, 1) := by decide +kernel
theorem dX7_paint_17 : decode cX7_paint 17 = .ok (.lconst 0, 1) := by decide +kernel
theorem dX7_paint_18 : decode cX7_paint 18 = .ok (.aload_n 0, 1) := by decide +kernel
theorem dX7_paint_19 : decode cX7_paint 19 = .ok (.getfield 13, 3) := by decide +kernel
theorem dX7_paint_22 : decode cX7_paint 22 = .ok (.iconst 1, 1) := by decide +kernel
theorem dX7_paint_23 : decode cX7_paint 23 = .ok (.isub, 1) := by decide +kernel
theorem dX7_paint_24 : decode cX7_paint 24 = .ok (.i2l, 1) := by decide +kernel
theorem dX7_paint_25 : decode cX7_paint 25 = .ok (.invokestatic 72, 3) := by decide +kernel
theorem dX7_paint_28 : decode cX7_paint 28 = .ok (.ifCond .ne 6, 3) := by decide +kernel
theorem dX7_paint_31 : decode cX7_paint 31 = .ok (.bipush (-2), 2) := by decide +kernel
theorem dX7_paint_33 : decode cX7_paint 33 = .ok (.ireturn, 1) := by decide +kernel
theorem dX7_paint_34 : decode cX7_paint 34 = .ok (.aload_n 0, 1) := by decide +kernel
theorem dX7_paint_35 : decode cX7_paint 35 = .ok (.invokevirtual 208, 3) := by decide +kernel
theorem dX7_paint_38 : decode cX7_paint 38 = .ok (.aload_n 0, 1) := by decide +kernel
theorem dX7_paint_39 : decode cX7_paint 39 = .ok (.aload_n 0, 1) := by decide +kernel
theorem dX7_paint_40 : decode cX7_paint 40 = .ok (.getfield 23, 3) := by decide +kernel
theorem dX7_paint_43 : decode cX7_paint 43 = .ok (.iload_n 1, 1) := by decide +kernel
theorem dX7_paint_44 : decode cX7_paint 44 = .ok (.iload_n 2, 1) := by decide +kernel
theorem dX7_paint_45 : decode cX7_paint 45 = .ok (.invokevirtual 211, 3) := by decide +kernel
theorem dX7_paint_48 : decode cX7_paint 48 = .ok (.ifCond .ne 6, 3) := by decide +kernel
theorem dX7_paint_51 : decode cX7_paint 51 = .ok (.bipush (-3), 2) := by decide +kernel
theorem dX7_paint_53 : decode cX7_paint 53 = .ok (.ireturn, 1) := by decide +kernel
theorem dX7_paint_54 : decode cX7_paint 54 = .ok (.aload_n 0, 1) := by decide +kernel
theorem dX7_paint_55 : decode cX7_paint 55 = .ok (.invokevirtual 205, 3) := by decide +kernel
theorem dX7_paint_58 : decode cX7_paint 58 = .ok (.aload_n 0, 1) := by decide +kernel
theorem dX7_paint_59 : decode cX7_paint 59 = .ok (.aload_n 0, 1) := by decide +kernel
theorem dX7_paint_60 : decode cX7_paint 60 = .ok (.getfield 20, 3) := by decide +kernel
theorem dX7_paint_63 : decode cX7_paint 63 = .ok (.iload_n 1, 1) := by decide +kernel
theorem dX7_paint_64 : decode cX7_paint 64 = .ok (.iload_n 2, 1) := by decide +kernel
theorem dX7_paint_65 : decode cX7_paint 65 = .ok (.invokevirtual 211, 3) := by decide +kernel
theorem dX7_paint_68 : decode cX7_paint 68 = .ok (.pop, 1) := by decide +kernel
theorem dX7_paint_69 : decode cX7_paint 69 = .ok (.aload_n 0, 1) := by decide +kernel
theorem dX7_paint_70 : decode cX7_paint 70 = .ok (.aload_n 0, 1) := by decide +kernel
theorem dX7_paint_71 : decode cX7_paint 71 = .ok (.getfield 20, 3) := by decide +kernel
theorem dX7_paint_74 : decode cX7_paint 74 = .ok (.invokevirtual 178, 3) := by decide +kernel
theorem dX7_paint_77 : decode cX7_paint 77 = .ok (.ireturn, 1) := by decide +kernel
theorem dX7_reachOn_0 : decode cX7_reachOn 0 = .ok (.iload_n 2, 1) := by decide +kernel
theorem dX7_reachOn_1 : decode cX7_reachOn 1 = .ok (.aload_n 1, 1) := by decide +kernel
theorem dX7_reachOn_2 : decode cX7_reachOn 2 = .ok (.iconst 0, 1) := by decide +kernel
theorem dX7_reachOn_3 : decode cX7_reachOn 3 = .ok (.iaload, 1) := by decide +kernel
theorem dX7_reachOn_4 : decode cX7_reachOn 4 = .ok (.if_icmp .eq 12, 3) := by decide +kernel
theorem dX7_reachOn_7 : decode cX7_reachOn 7 = .ok (.aload_n 1, 1) := by decide +kernel
theorem dX7_reachOn_8 : decode cX7_reachOn 8 = .ok (.iconst 0, 1) := by decide +kernel
theorem dX7_reachOn_9 : decode cX7_reachOn 9 = .ok (.iload_n 2, 1) := by decide +kernel
theorem dX7_reachOn_10 : decode cX7_reachOn 10 = .ok (.iastore, 1) := by decide +kernel
theorem dX7_reachOn_11 : decode cX7_reachOn 11 = .ok (.aload_n 1, 1) := by decide +kernel
theorem dX7_reachOn_12 : decode cX7_reachOn 12 = .ok (.bipush 28, 2) := by decide +kernel
theorem dX7_reachOn_14 : decode cX7_reachOn 14 = .ok (.iconst 0, 1) := by decide +kernel
theorem dX7_reachOn_15 : decode cX7_reachOn 15 = .ok (.iastore, 1) := by decide +kernel
theorem dX7_reachOn_16 : decode cX7_reachOn 16 = .ok (.iload_n 2, 1) := by decide +kernel
theorem dX7_reachOn_17 : decode cX7_reachOn 17 = .ok (.istore_n 3, 1) := by decide +kernel
theorem dX7_reachOn_18 : decode cX7_reachOn 18 = .ok (.iload_n 3, 1) := by decide +kernel
theorem dX7_reachOn_19 : decode cX7_reachOn 19 = .ok (.bipush 10, 2) := by decide +kernel
theorem dX7_reachOn_21 : decode cX7_reachOn 21 = .ok (.if_icmp .ge 16, 3) := by decide +kernel
theorem dX7_reachOn_24 : decode cX7_reachOn 24 = .ok (.aload_n 1, 1) := by decide +kernel
theorem dX7_reachOn_25 : decode cX7_reachOn 25 = .ok (.bipush 18, 2) := by decide +kernel
theorem dX7_reachOn_27 : decode cX7_reachOn 27 = .ok (.iload_n 3, 1) := by decide +kernel
theorem dX7_reachOn_28 : decode cX7_reachOn 28 = .ok (.iadd, 1) := by decide +kernel
theorem dX7_reachOn_29 : decode cX7_reachOn 29 = .ok (.iconst 0, 1) := by decide +kernel
theorem dX7_reachOn_30 : decode cX7_reachOn 30 = .ok (.iastore, 1) := by decide +kernel
theorem dX7_reachOn_31 : decode cX7_reachOn 31 = .ok (.iinc 3 1, 3) := by decide +kernel
theorem dX7_reachOn_34 : decode cX7_reachOn 34 = .ok (.goto (-16), 3) := by decide +kernel
theorem dX7_reachOn_37 : decode cX7_reachOn 37 = .ok (.aload_n 0, 1) := by decide +kernel
theorem dX7_reachOn_38 : decode cX7_reachOn 38 = .ok (.aload_n 1, 1) := by decide +kernel
theorem dX7_reachOn_39 : decode cX7_reachOn 39 = .ok (.invokevirtual 111, 3) := by decide +kernel
theorem dX7_reachOn_42 : decode cX7_reachOn 42 = .ok (.return_, 1) := by decide +kernel
theorem dX7_reach_0 : decode cX7_reach 0 = .ok (.aload_n 0, 1) := by decide +kernel
theorem dX7_reach_1 : decode cX7_reach 1 = .ok (.iconst 0, 1) := by decide +kernel
theorem dX7_reach_2 : decode cX7_reach 2 = .ok (.putfield 67, 3) := by decide +kernel
theorem dX7_reach_5 : decode cX7_reach 5 = .ok (.iload_n 1, 1) := by decide +kernel
theorem dX7_reach_6 : decode cX7_reach 6 = .ok (.i2l, 1) := by decide +kernel
theorem dX7_reach_7 : decode cX7_reach 7 = .ok (.lconst 1, 1) := by decide +kernel
theorem dX7_reach_8 : decode cX7_reach 8 = .ok (.ldc2_w 215, 3) := by decide +kernel
theorem dX7_reach_11 : decode cX7_reach 11 = .ok (.invokestatic 72, 3) := by decide +kernel
theorem dX7_reach_14 : decode cX7_reach 14 = .ok (.ifCond .ne 6, 3) := by decide +kernel
theorem dX7_reach_17 : decode cX7_reach 17 = .ok (.bipush (-2), 2) := by decide +kernel
theorem dX7_reach_19 : decode cX7_reach 19 = .ok (.ireturn, 1) := by decide +kernel
theorem dX7_reach_20 : decode cX7_reach 20 = .ok (.aload_n 0, 1) := by decide +kernel
theorem dX7_reach_21 : decode cX7_reach 21 = .ok (.invokevirtual 205, 3) := by decide +kernel
theorem dX7_reach_24 : decode cX7_reach 24 = .ok (.aload_n 0, 1) := by decide +kernel
theorem dX7_reach_25 : decode cX7_reach 25 = .ok (.aload_n 0, 1) := by decide +kernel
theorem dX7_reach_26 : decode cX7_reach 26 = .ok (.getfield 20, 3) := by decide +kernel
theorem dX7_reach_29 : decode cX7_reach 29 = .ok (.iload_n 1, 1) := by decide +kernel
theorem dX7_reach_30 : decode cX7_reach 30 = .ok (.invokevirtual 217, 3) := by decide +kernel
theorem dX7_reach_33 : decode cX7_reach 33 = .ok (.aload_n 0, 1) := by decide +kernel
theorem dX7_reach_34 : decode cX7_reach 34 = .ok (.aload_n 0, 1) := by decide +kernel
theorem dX7_reach_35 : decode cX7_reach 35 = .ok (.getfield 20, 3) := by decide +kernel
theorem dX7_reach_38 : decode cX7_reach 38 = .ok (.invokevirtual 118, 3) := by decide +kernel
theorem dX7_reach_41 : decode cX7_reach 41 = .ok (.ireturn, 1) := by decide +kernel
theorem dX7_isFactor_0 : decode cX7_isFactor 0 = .ok (.iload_n 0, 1) := by decide +kernel
theorem dX7_isFactor_1 : decode cX7_isFactor 1 = .ok (.i2l, 1) := by decide +kernel
theorem dX7_isFactor_2 : decode cX7_isFactor 2 = .ok (.ldc2_w 220, 3) := by decide +kernel
theorem dX7_isFactor_5 : decode cX7_isFactor 5 = .ok (.ldc2_w 82, 3) := by decide +kernel
theorem dX7_isFactor_8 : decode cX7_isFactor 8 = .ok (.invokestatic 72, 3) := by decide +kernel
theorem dX7_isFactor_11 : decode cX7_isFactor 11 = .ok (.ifCond .eq 11, 3) := by decide +kernel
theorem dX7_isFactor_14 : decode cX7_isFactor 14 = .ok (.iload_n 0, 1) := by decide +kernel
theorem dX7_isFactor_15 : decode cX7_isFactor 15 = .ok (.ifCond .eq 7, 3) := by decide +kernel
theorem dX7_isFactor_18 : decode cX7_isFactor 18 = .ok (.iconst 1, 1) := by decide +kernel
theorem dX7_isFactor_19 : decode cX7_isFactor 19 = .ok (.goto 4, 3) := by decide +kernel
theorem dX7_isFactor_22 : decode cX7_isFactor 22 = .ok (.iconst 0, 1) := by decide +kernel
theorem dX7_isFactor_23 : decode cX7_isFactor 23 = .ok (.ireturn, 1) := by decide +kernel
theorem dX7_add_0 : decode cX7_add 0 = .ok (.aload_n 0, 1) := by decide +kernel
theorem dX7_add_1 : decode cX7_add 1 = .ok (.iconst 0, 1) := by decide +kernel
theorem dX7_add_2 : decode cX7_add 2 = .ok (.putfield 67, 3) := by decide +kernel
theorem dX7_add_5 : decode cX7_add 5 = .ok (.iload_n 1, 1) := by decide +kernel
theorem dX7_add_6 : decode cX7_add 6 = .ok (.invokestatic 222, 3) := by decide +kernel
theorem dX7_add_9 : decode cX7_add 9 = .ok (.ifCond .eq 28, 3) := by decide +kernel
theorem dX7_add_12 : decode cX7_add 12 = .ok (.iload_n 2, 1) := by decide +kernel
theorem dX7_add_13 : decode cX7_add 13 = .ok (.invokestatic 222, 3) := by decide +kernel
theorem dX7_add_16 : decode cX7_add 16 = .ok (.ifCond .eq 21, 3) := by decide +kernel
theorem dX7_add_19 : decode cX7_add 19 = .ok (.iload_n 3, 1) := by decide +kernel
theorem dX7_add_20 : decode cX7_add 20 = .ok (.invokestatic 222, 3) := by decide +kernel
theorem dX7_add_23 : decode cX7_add 23 = .ok (.ifCond .eq 14, 3) := by decide +kernel
theorem dX7_add_26 : decode cX7_add 26 = .ok (.iload 4, 2) := by decide +kernel
theorem dX7_add_28 : decode cX7_add 28 = .ok (.i2l, 1) := by decide +kernel
theorem dX7_add_29 : decode cX7_add 29 = .ok (.lconst 0, 1) := by decide +kernel
theorem dX7_add_30 : decode cX7_add 30 = .ok (.lconst 1, 1) := by decide +kernel
theorem dX7_add_31 : decode cX7_add 31 = .ok (.invokestatic 72, 3) := by decide +kernel
theorem dX7_add_34 : decode cX7_add 34 = .ok (.ifCond .ne 6, 3) := by decide +kernel
theorem dX7_add_37 : decode cX7_add 37 = .ok (.bipush (-2), 2) := by decide +kernel
theorem dX7_add_39 : decode cX7_add 39 = .ok (.ireturn, 1) := by decide +kernel
theorem dX7_add_40 : decode cX7_add 40 = .ok (.aload_n 0, 1) := by decide +kernel
theorem dX7_add_41 : decode cX7_add 41 = .ok (.getfield 20, 3) := by decide +kernel
theorem dX7_add_44 : decode cX7_add 44 = .ok (.iconst 1, 1) := by decide +kernel
theorem dX7_add_45 : decode cX7_add 45 = .ok (.iaload, 1) := by decide +kernel
theorem dX7_add_46 : decode cX7_add 46 = .ok (.iconst 4, 1) := by decide +kernel
theorem dX7_add_47 : decode cX7_add 47 = .ok (.if_icmp .ne 6, 3) := by decide +kernel
theorem dX7_add_50 : decode cX7_add 50 = .ok (.bipush (-4), 2) := by decide +kernel
theorem dX7_add_52 : decode cX7_add 52 = .ok (.ireturn, 1) := by decide +kernel
theorem dX7_add_53 : decode cX7_add 53 = .ok (.aload_n 0, 1) := by decide +kernel
theorem dX7_add_54 : decode cX7_add 54 = .ok (.invokevirtual 205, 3) := by decide +kernel
theorem dX7_add_57 : decode cX7_add 57 = .ok (.iconst 2, 1) := by decide +kernel
theorem dX7_add_58 : decode cX7_add 58 = .ok (.iconst 4, 1) := by decide +kernel
theorem dX7_add_59 : decode cX7_add 59 = .ok (.aload_n 0, 1) := by decide +kernel
theorem dX7_add_60 : decode cX7_add 60 = .ok (.getfield 20, 3) := by decide +kernel
theorem dX7_add_63 : decode cX7_add 63 = .ok (.iconst 1, 1) := by decide +kernel
theorem dX7_add_64 : decode cX7_add 64 = .ok (.iaload, 1) := by decide +kernel
theorem dX7_add_65 : decode cX7_add 65 = .ok (.imul, 1) := by decide +kernel
theorem dX7_add_66 : decode cX7_add 66 = .ok (.iadd, 1) := by decide +kernel
theorem dX7_add_67 : decode cX7_add 67 = .ok (.istore 5, 2) := by decide +kernel
theorem dX7_add_69 : decode cX7_add 69 = .ok (.aload_n 0, 1) := by decide +kernel
theorem dX7_add_70 : decode cX7_add 70 = .ok (.getfield 20, 3) := by decide +kernel
theorem dX7_add_73 : decode cX7_add 73 = .ok (.iload 5, 2) := by decide +kernel
theorem dX7_add_75 : decode cX7_add 75 = .ok (.iload_n 1, 1) := by decide +kernel
theorem dX7_add_76 : decode cX7_add 76 = .ok (.iastore, 1) := by decide +kernel
theorem dX7_add_77 : decode cX7_add 77 = .ok (.aload_n 0, 1) := by decide +kernel
theorem dX7_add_78 : decode cX7_add 78 = .ok (.getfield 20, 3) := by decide +kernel
theorem dX7_add_81 : decode cX7_add 81 = .ok (.iload 5, 2) := by decide +kernel
theorem dX7_add_83 : decode cX7_add 83 = .ok (.iconst 1, 1) := by decide +kernel
theorem dX7_add_84 : decode cX7_add 84 = .ok (.iadd, 1) := by decide +kernel
theorem dX7_add_85 : decode cX7_add 85 = .ok (.iload_n 2, 1) := by decide +kernel
theorem dX7_add_86 : decode cX7_add 86 = .ok (.iastore, 1) := by decide +kernel
theorem dX7_add_87 : decode cX7_add 87 = .ok (.aload_n 0, 1) := by decide +kernel
theorem dX7_add_88 : decode cX7_add 88 = .ok (.getfield 20, 3) := by decide +kernel
theorem dX7_add_91 : decode cX7_add 91 = .ok (.iload 5, 2) := by decide +kernel
theorem dX7_add_93 : decode cX7_add 93 = .ok (.iconst 2, 1) := by decide +kernel
theorem dX7_add_94 : decode cX7_add 94 = .ok (.iadd, 1) := by decide +kernel
theorem dX7_add_95 : decode cX7_add 95 = .ok (.iload_n 3, 1) := by decide +kernel
theorem dX7_add_96 : decode cX7_add 96 = .ok (.iastore, 1) := by decide +kernel
theorem dX7_add_97 : decode cX7_add 97 = .ok (.aload_n 0, 1) := by decide +kernel
theorem dX7_add_98 : decode cX7_add 98 = .ok (.getfield 20, 3) := by decide +kernel
theorem dX7_add_101 : decode cX7_add 101 = .ok (.iload 5, 2) := by decide +kernel
theorem dX7_add_103 : decode cX7_add 103 = .ok (.iconst 3, 1) := by decide +kernel
theorem dX7_add_104 : decode cX7_add 104 = .ok (.iadd, 1) := by decide +kernel
theorem dX7_add_105 : decode cX7_add 105 = .ok (.iload 4, 2) := by decide +kernel
theorem dX7_add_107 : decode cX7_add 107 = .ok (.iastore, 1) := by decide +kernel
theorem dX7_add_108 : decode cX7_add 108 = .ok (.aload_n 0, 1) := by decide +kernel
theorem dX7_add_109 : decode cX7_add 109 = .ok (.getfield 20, 3) := by decide +kernel
theorem dX7_add_112 : decode cX7_add 112 = .ok (.iconst 1, 1) := by decide +kernel
theorem dX7_add_113 : decode cX7_add 113 = .ok (.dup2, 1) := by decide +kernel
theorem dX7_add_114 : decode cX7_add 114 = .ok (.iaload, 1) := by decide +kernel
theorem dX7_add_115 : decode cX7_add 115 = .ok (.iconst 1, 1) := by decide +kernel
theorem dX7_add_116 : decode cX7_add 116 = .ok (.iadd, 1) := by decide +kernel
theorem dX7_add_117 : decode cX7_add 117 = .ok (.iastore, 1) := by decide +kernel
theorem dX7_add_118 : decode cX7_add 118 = .ok (.aload_n 0, 1) := by decide +kernel
theorem dX7_add_119 : decode cX7_add 119 = .ok (.aload_n 0, 1) := by decide +kernel
theorem dX7_add_120 : decode cX7_add 120 = .ok (.getfield 20, 3) := by decide +kernel
theorem dX7_add_123 : decode cX7_add 123 = .ok (.invokevirtual 111, 3) := by decide +kernel
theorem dX7_add_126 : decode cX7_add 126 = .ok (.aload_n 0, 1) := by decide +kernel
theorem dX7_add_127 : decode cX7_add 127 = .ok (.aload_n 0, 1) := by decide +kernel
theorem dX7_add_128 : decode cX7_add 128 = .ok (.getfield 20, 3) := by decide +kernel
theorem dX7_add_131 : decode cX7_add 131 = .ok (.invokevirtual 118, 3) := by decide +kernel
theorem dX7_add_134 : decode cX7_add 134 = .ok (.ireturn, 1) := by decide +kernel
theorem dX7_drop_0 : decode cX7_drop 0 = .ok (.aload_n 0, 1) := by decide +kernel
theorem dX7_drop_1 : decode cX7_drop 1 = .ok (.iconst 0, 1) := by decide +kernel
theorem dX7_drop_2 : decode cX7_drop 2 = .ok (.putfield 67, 3) := by decide +kernel
theorem dX7_drop_5 : decode cX7_drop 5 = .ok (.aload_n 0, 1) := by decide +kernel
theorem dX7_drop_6 : decode cX7_drop 6 = .ok (.getfield 20, 3) := by decide +kernel
theorem dX7_drop_9 : decode cX7_drop 9 = .ok (.iconst 1, 1) := by decide +kernel
theorem dX7_drop_10 : decode cX7_drop 10 = .ok (.iaload, 1) := by decide +kernel
theorem dX7_drop_11 : decode cX7_drop 11 = .ok (.ifCond .ne 6, 3) := by decide +kernel
theorem dX7_drop_14 : decode cX7_drop 14 = .ok (.bipush (-3), 2) := by decide +kernel
theorem dX7_drop_16 : decode cX7_drop 16 = .ok (.ireturn, 1) := by decide +kernel
theorem dX7_drop_17 : decode cX7_drop 17 = .ok (.aload_n 0, 1) := by decide +kernel
theorem dX7_drop_18 : decode cX7_drop 18 = .ok (.invokevirtual 205, 3) := by decide +kernel
theorem dX7_drop_21 : decode cX7_drop 21 = .ok (.aload_n 0, 1) := by decide +kernel
theorem dX7_drop_22 : decode cX7_drop 22 = .ok (.getfield 20, 3) := by decide +kernel
theorem dX7_drop_25 : decode cX7_drop 25 = .ok (.iconst 1, 1) := by decide +kernel
theorem dX7_drop_26 : decode cX7_drop 26 = .ok (.dup2, 1) := by decide +kernel
theorem dX7_drop_27 : decode cX7_drop 27 = .ok (.iaload, 1) := by decide +kernel
theorem dX7_drop_28 : decode cX7_drop 28 = .ok (.iconst 1, 1) := by decide +kernel
theorem dX7_drop_29 : decode cX7_drop 29 = .ok (.isub, 1) := by decide +kernel
theorem dX7_drop_30 : decode cX7_drop 30 = .ok (.iastore, 1) := by decide +kernel
theorem dX7_drop_31 : decode cX7_drop 31 = .ok (.aload_n 0, 1) := by decide +kernel
theorem dX7_drop_32 : decode cX7_drop 32 = .ok (.aload_n 0, 1) := by decide +kernel
theorem dX7_drop_33 : decode cX7_drop 33 = .ok (.getfield 20, 3) := by decide +kernel
theorem dX7_drop_36 : decode cX7_drop 36 = .ok (.invokevirtual 111, 3) := by decide +kernel
theorem dX7_drop_39 : decode cX7_drop 39 = .ok (.aload_n 0, 1) := by decide +kernel
theorem dX7_drop_40 : decode cX7_drop 40 = .ok (.aload_n 0, 1) := by decide +kernel
theorem dX7_drop_41 : decode cX7_drop 41 = .ok (.getfield 20, 3) := by decide +kernel
theorem dX7_drop_44 : decode cX7_drop 44 = .ok (.invokevirtual 118, 3) := by decide +kernel
theorem dX7_drop_47 : decode cX7_drop 47 = .ok (.ireturn, 1) := by decide +kernel
theorem dX7_pin_0 : decode cX7_pin 0 = .ok (.aload_n 0, 1) := by decide +kernel
theorem dX7_pin_1 : decode cX7_pin 1 = .ok (.iconst 0, 1) := by decide +kernel
theorem dX7_pin_2 : decode cX7_pin 2 = .ok (.putfield 67, 3) := by decide +kernel
theorem dX7_pin_5 : decode cX7_pin 5 = .ok (.aload_n 0, 1) := by decide +kernel
theorem dX7_pin_6 : decode cX7_pin 6 = .ok (.iload_n 1, 1) := by decide +kernel
theorem dX7_pin_7 : decode cX7_pin 7 = .ok (.invokevirtual 195, 3) := by decide +kernel
theorem dX7_pin_10 : decode cX7_pin 10 = .ok (.ifCond .eq 5, 3) := by decide +kernel
theorem dX7_pin_13 : decode cX7_pin 13 = .ok (.iconst (-1), 1) := by decide +kernel
theorem dX7_pin_14 : decode cX7_pin 14 = .ok (.ireturn, 1) := by decide +kernel
theorem dX7_pin_15 : decode cX7_pin 15 = .ok (.iload_n 2, 1) := by decide +kernel
theorem dX7_pin_16 : decode cX7_pin 16 = .ok (.i2l, 1) := by decide +kernel
theorem dX7_pin_17 : decode cX7_pin 17 = .ok (.lconst 0, 1) := by decide +kernel
theorem dX7_pin_18 : decode cX7_pin 18 = .ok (.aload_n 0, 1) := by decide +kernel
theorem dX7_pin_19 : decode cX7_pin 19 = .ok (.getfield 13, 3) := by decide +kernel
theorem dX7_pin_22 : decode cX7_pin 22 = .ok (.iconst 1, 1) := by decide +kernel
theorem dX7_pin_23 : decode cX7_pin 23 = .ok (.isub, 1) := by decide +kernel
theorem dX7_pin_24 : decode cX7_pin 24 = .ok (.i2l, 1) := by decide +kernel
theorem dX7_pin_25 : decode cX7_pin 25 = .ok (.invokestatic 72, 3) := by decide +kernel
theorem dX7_pin_28 : decode cX7_pin 28 = .ok (.ifCond .ne 12, 3) := by decide +kernel
theorem dX7_pin_31 : decode cX7_pin 31 = .ok (.iload_n 2, 1) := by decide +kernel
theorem dX7_pin_32 : decode cX7_pin 32 = .ok (.bipush 9, 2) := by decide +kernel
theorem dX7_pin_34 : decode cX7_pin 34 = .ok (.if_icmp .eq 6, 3) := by decide +kernel
theorem dX7_pin_37 : decode cX7_pin 37 = .ok (.bipush (-2), 2) := by decide +kernel
theorem dX7_pin_39 : decode cX7_pin 39 = .ok (.ireturn, 1) := by decide +kernel
theorem dX7_pin_40 : decode cX7_pin 40 = .ok (.aload_n 0, 1) := by decide +kernel
theorem dX7_pin_41 : decode cX7_pin 41 = .ok (.invokevirtual 205, 3) := by decide +kernel
theorem dX7_pin_44 : decode cX7_pin 44 = .ok (.aload_n 0, 1) := by decide +kernel
theorem dX7_pin_45 : decode cX7_pin 45 = .ok (.getfield 20, 3) := by decide +kernel
theorem dX7_pin_48 : decode cX7_pin 48 = .ok (.bipush 18, 2) := by decide +kernel
theorem dX7_pin_50 : decode cX7_pin 50 = .ok (.iload_n 1, 1) := by decide +kernel
theorem dX7_pin_51 : decode cX7_pin 51 = .ok (.iadd, 1) := by decide +kernel
theorem dX7_pin_52 : decode cX7_pin 52 = .ok (.iconst 1, 1) := by decide +kernel
theorem dX7_pin_53 : decode cX7_pin 53 = .ok (.isub, 1) := by decide +kernel
theorem dX7_pin_54 : decode cX7_pin 54 = .ok (.iload_n 2, 1) := by decide +kernel
theorem dX7_pin_55 : decode cX7_pin 55 = .ok (.bipush 9, 2) := by decide +kernel
theorem dX7_pin_57 : decode cX7_pin 57 = .ok (.if_icmp .ne 7, 3) := by decide +kernel
theorem dX7_pin_60 : decode cX7_pin 60 = .ok (.iconst 0, 1) := by decide +kernel
theorem dX7_pin_61 : decode cX7_pin 61 = .ok (.goto 6, 3) := by decide +kernel
theorem dX7_pin_64 : decode cX7_pin 64 = .ok (.iload_n 2, 1) := by decide +kernel
theorem dX7_pin_65 : decode cX7_pin 65 = .ok (.iconst 1, 1) := by decide +kernel
theorem dX7_pin_66 : decode cX7_pin 66 = .ok (.iadd, 1) := by decide +kernel
theorem dX7_pin_67 : decode cX7_pin 67 = .ok (.iastore, 1) := by decide +kernel
theorem dX7_pin_68 : decode cX7_pin 68 = .ok (.aload_n 0, 1) := by decide +kernel
theorem dX7_pin_69 : decode cX7_pin 69 = .ok (.aload_n 0, 1) := by decide +kernel
theorem dX7_pin_70 : decode cX7_pin 70 = .ok (.getfield 20, 3) := by decide +kernel
theorem dX7_pin_73 : decode cX7_pin 73 = .ok (.invokevirtual 111, 3) := by decide +kernel
theorem dX7_pin_76 : decode cX7_pin 76 = .ok (.aload_n 0, 1) := by decide +kernel
theorem dX7_pin_77 : decode cX7_pin 77 = .ok (.aload_n 0, 1) := by decide +kernel
theorem dX7_pin_78 : decode cX7_pin 78 = .ok (.getfield 20, 3) := by decide +kernel
theorem dX7_pin_81 : decode cX7_pin 81 = .ok (.invokevirtual 118, 3) := by decide +kernel
theorem dX7_pin_84 : decode cX7_pin 84 = .ok (.ireturn, 1) := by decide +kernel
theorem dX7_undo_0 : decode cX7_undo 0 = .ok (.aload_n 0, 1) := by decide +kernel
theorem dX7_undo_1 : decode cX7_undo 1 = .ok (.iconst 0, 1) := by decide +kernel
theorem dX7_undo_2 : decode cX7_undo 2 = .ok (.putfield 67, 3) := by decide +kernel
theorem dX7_undo_5 : decode cX7_undo 5 = .ok (.aload_n 0, 1) := by decide +kernel
theorem dX7_undo_6 : decode cX7_undo 6 = .ok (.getfield 115, 3) := by decide +kernel
theorem dX7_undo_9 : decode cX7_undo 9 = .ok (.ifCond .ne 6, 3) := by decide +kernel
theorem dX7_undo_12 : decode cX7_undo 12 = .ok (.bipush (-3), 2) := by decide +kernel
theorem dX7_undo_14 : decode cX7_undo 14 = .ok (.ireturn, 1) := by decide +kernel
theorem dX7_undo_15 : decode cX7_undo 15 = .ok (.aload_n 0, 1) := by decide +kernel
theorem dX7_undo_16 : decode cX7_undo 16 = .ok (.dup, 1) := by decide +kernel
theorem dX7_undo_17 : decode cX7_undo 17 = .ok (.getfield 115, 3) := by decide +kernel
theorem dX7_undo_20 : decode cX7_undo 20 = .ok (.iconst 1, 1) := by decide +kernel
theorem dX7_undo_21 : decode cX7_undo 21 = .ok (.isub, 1) := by decide +kernel
theorem dX7_undo_22 : decode cX7_undo 22 = .ok (.putfield 115, 3) := by decide +kernel
theorem dX7_undo_25 : decode cX7_undo 25 = .ok (.iconst 0, 1) := by decide +kernel
theorem dX7_undo_26 : decode cX7_undo 26 = .ok (.istore_n 1, 1) := by decide +kernel
theorem dX7_undo_27 : decode cX7_undo 27 = .ok (.iload_n 1, 1) := by decide +kernel
theorem dX7_undo_28 : decode cX7_undo 28 = .ok (.bipush 39, 2) := by decide +kernel
theorem dX7_undo_30 : decode cX7_undo 30 = .ok (.if_icmp .ge 29, 3) := by decide +kernel
theorem dX7_undo_33 : decode cX7_undo 33 = .ok (.aload_n 0, 1) := by decide +kernel
theorem dX7_undo_34 : decode cX7_undo 34 = .ok (.getfield 20, 3) := by decide +kernel
theorem dX7_undo_37 : decode cX7_undo 37 = .ok (.iload_n 1, 1) := by decide +kernel
theorem dX7_undo_38 : decode cX7_undo 38 = .ok (.aload_n 0, 1) := by decide +kernel
theorem dX7_undo_39 : decode cX7_undo 39 = .ok (.getfield 26, 3) := by decide +kernel
theorem dX7_undo_42 : decode cX7_undo 42 = .ok (.bipush 39, 2) := by decide +kernel
theorem dX7_undo_44 : decode cX7_undo 44 = .ok (.aload_n 0, 1) := by decide +kernel
theorem dX7_undo_45 : decode cX7_undo 45 = .ok (.getfield 115, 3) := by decide +kernel
theorem dX7_undo_48 : decode cX7_undo 48 = .ok (.imul, 1) := by decide +kernel
theorem dX7_undo_49 : decode cX7_undo 49 = .ok (.iload_n 1, 1) := by decide +kernel
theorem dX7_undo_50 : decode cX7_undo 50 = .ok (.iadd, 1) := by decide +kernel
theorem dX7_undo_51 : decode cX7_undo 51 = .ok (.iaload, 1) := by decide +kernel
theorem dX7_undo_52 : decode cX7_undo 52 = .ok (.iastore, 1) := by decide +kernel
theorem dX7_undo_53 : decode cX7_undo 53 = .ok (.iinc 1 1, 3) := by decide +kernel
theorem dX7_undo_56 : decode cX7_undo 56 = .ok (.goto (-29), 3) := by decide +kernel
theorem dX7_undo_59 : decode cX7_undo 59 = .ok (.aload_n 0, 1) := by decide +kernel
theorem dX7_undo_60 : decode cX7_undo 60 = .ok (.getfield 115, 3) := by decide +kernel
theorem dX7_undo_63 : decode cX7_undo 63 = .ok (.ireturn, 1) := by decide +kernel
theorem dX7_least_0 : decode cX7_least 0 = .ok (.iconst 1, 1) := by decide +kernel
theorem dX7_least_1 : decode cX7_least 1 = .ok (.istore_n 2, 1) := by decide +kernel
theorem dX7_least_2 : decode cX7_least 2 = .ok (.iload_n 2, 1) := by decide +kernel
theorem dX7_least_3 : decode cX7_least 3 = .ok (.bipush 10, 2) := by decide +kernel
theorem dX7_least_5 : decode cX7_least 5 = .ok (.if_icmp .gt 29, 3) := by decide +kernel
theorem dX7_least_8 : decode cX7_least 8 = .ok (.aload_n 0, 1) := by decide +kernel
theorem dX7_least_9 : decode cX7_least 9 = .ok (.aload_n 1, 1) := by decide +kernel
theorem dX7_least_10 : decode cX7_least 10 = .ok (.aload_n 1, 1) := by decide +kernel
theorem dX7_least_11 : decode cX7_least 11 = .ok (.invokestatic 157, 3) := by decide +kernel
theorem dX7_least_14 : decode cX7_least 14 = .ok (.iload_n 2, 1) := by decide +kernel
theorem dX7_least_15 : decode cX7_least 15 = .ok (.iconst 0, 1) := by decide +kernel
theorem dX7_least_16 : decode cX7_least 16 = .ok (.invokevirtual 160, 3) := by decide +kernel
theorem dX7_least_19 : decode cX7_least 19 = .ok (.aload_n 0, 1) := by decide +kernel
theorem dX7_least_20 : decode cX7_least 20 = .ok (.invokevirtual 164, 3) := by decide +kernel
theorem dX7_least_23 : decode cX7_least 23 = .ok (.ifCond .ne 5, 3) := by decide +kernel
theorem dX7_least_26 : decode cX7_least 26 = .ok (.iload_n 2, 1) := by decide +kernel
theorem dX7_least_27 : decode cX7_least 27 = .ok (.ireturn, 1) := by decide +kernel
theorem dX7_least_28 : decode cX7_least 28 = .ok (.iinc 2 1, 3) := by decide +kernel
theorem dX7_least_31 : decode cX7_least 31 = .ok (.goto (-29), 3) := by decide +kernel
theorem dX7_least_34 : decode cX7_least 34 = .ok (.bipush (-9), 2) := by decide +kernel
theorem dX7_least_36 : decode cX7_least 36 = .ok (.ireturn, 1) := by decide +kernel
theorem dX7_forced_0 : decode cX7_forced 0 = .ok (.iconst 0, 1) := by decide +kernel
theorem dX7_forced_1 : decode cX7_forced 1 = .ok (.istore_n 2, 1) := by decide +kernel
theorem dX7_forced_2 : decode cX7_forced 2 = .ok (.iconst 1, 1) := by decide +kernel
theorem dX7_forced_3 : decode cX7_forced 3 = .ok (.istore_n 3, 1) := by decide +kernel
theorem dX7_forced_4 : decode cX7_forced 4 = .ok (.iload_n 3, 1) := by decide +kernel
theorem dX7_forced_5 : decode cX7_forced 5 = .ok (.aload_n 1, 1) := by decide +kernel
theorem dX7_forced_6 : decode cX7_forced 6 = .ok (.iconst 0, 1) := by decide +kernel
theorem dX7_forced_7 : decode cX7_forced 7 = .ok (.iaload, 1) := by decide +kernel
theorem dX7_forced_8 : decode cX7_forced 8 = .ok (.if_icmp .gt 32, 3) := by decide +kernel
theorem dX7_forced_11 : decode cX7_forced 11 = .ok (.iload_n 2, 1) := by decide +kernel
theorem dX7_forced_12 : decode cX7_forced 12 = .ok (.aload_n 0, 1) := by decide +kernel
theorem dX7_forced_13 : decode cX7_forced 13 = .ok (.aload_n 1, 1) := by decide +kernel
theorem dX7_forced_14 : decode cX7_forced 14 = .ok (.iload_n 3, 1) := by decide +kernel
theorem dX7_forced_15 : decode cX7_forced 15 = .ok (.invokevirtual 198, 3) := by decide +kernel
theorem dX7_forced_18 : decode cX7_forced 18 = .ok (.invokestatic 201, 3) := by decide +kernel
theorem dX7_forced_21 : decode cX7_forced 21 = .ok (.iconst 1, 1) := by decide +kernel
theorem dX7_forced_22 : decode cX7_forced 22 = .ok (.if_icmp .ne 9, 3) := by decide +kernel
theorem dX7_forced_25 : decode cX7_forced 25 = .ok (.iconst 1, 1) := by decide +kernel
theorem dX7_forced_26 : decode cX7_forced 26 = .ok (.iload_n 3, 1) := by decide +kernel
theorem dX7_forced_27 : decode cX7_forced 27 = .ok (.ishl, 1) := by decide +kernel
theorem dX7_forced_28 : decode cX7_forced 28 = .ok (.goto 4, 3) := by decide +kernel
theorem dX7_forced_31 : decode cX7_forced 31 = .ok (.iconst 0, 1) := by decide +kernel
theorem dX7_forced_32 : decode cX7_forced 32 = .ok (.ior, 1) := by decide +kernel
theorem dX7_forced_33 : decode cX7_forced 33 = .ok (.istore_n 2, 1) := by decide +kernel
theorem dX7_forced_34 : decode cX7_forced 34 = .ok (.iinc 3 1, 3) := by decide +kernel
theorem dX7_forced_37 : decode cX7_forced 37 = .ok (.goto (-33), 3) := by decide +kernel
theorem dX7_forced_40 : decode cX7_forced 40 = .ok (.iload_n 2, 1) := by decide +kernel
theorem dX7_forced_41 : decode cX7_forced 41 = .ok (.ireturn, 1) := by decide +kernel
theorem dX7_paints_0 : decode cX7_paints 0 = .ok (.iconst 0, 1) := by decide +kernel
theorem dX7_paints_1 : decode cX7_paints 1 = .ok (.istore_n 1, 1) := by decide +kernel
theorem dX7_paints_2 : decode cX7_paints 2 = .ok (.iconst 1, 1) := by decide +kernel
theorem dX7_paints_3 : decode cX7_paints 3 = .ok (.istore_n 2, 1) := by decide +kernel
theorem dX7_paints_4 : decode cX7_paints 4 = .ok (.iload_n 2, 1) := by decide +kernel
theorem dX7_paints_5 : decode cX7_paints 5 = .ok (.aload_n 0, 1) := by decide +kernel
theorem dX7_paints_6 : decode cX7_paints 6 = .ok (.getfield 20, 3) := by decide +kernel
theorem dX7_paints_9 : decode cX7_paints 9 = .ok (.iconst 0, 1) := by decide +kernel
theorem dX7_paints_10 : decode cX7_paints 10 = .ok (.iaload, 1) := by decide +kernel
theorem dX7_paints_11 : decode cX7_paints 11 = .ok (.if_icmp .gt 50, 3) := by decide +kernel
theorem dX7_paints_14 : decode cX7_paints 14 = .ok (.iconst 0, 1) := by decide +kernel
theorem dX7_paints_15 : decode cX7_paints 15 = .ok (.istore_n 3, 1) := by decide +kernel
theorem dX7_paints_16 : decode cX7_paints 16 = .ok (.iload_n 3, 1) := by decide +kernel
theorem dX7_paints_17 : decode cX7_paints 17 = .ok (.aload_n 0, 1) := by decide +kernel
theorem dX7_paints_18 : decode cX7_paints 18 = .ok (.getfield 13, 3) := by decide +kernel
theorem dX7_paints_21 : decode cX7_paints 21 = .ok (.if_icmp .ge 34, 3) := by decide +kernel
theorem dX7_paints_24 : decode cX7_paints 24 = .ok (.aload_n 0, 1) := by decide +kernel
theorem dX7_paints_25 : decode cX7_paints 25 = .ok (.invokevirtual 208, 3) := by decide +kernel
theorem dX7_paints_28 : decode cX7_paints 28 = .ok (.iload_n 1, 1) := by decide +kernel
theorem dX7_paints_29 : decode cX7_paints 29 = .ok (.aload_n 0, 1) := by decide +kernel
theorem dX7_paints_30 : decode cX7_paints 30 = .ok (.aload_n 0, 1) := by decide +kernel
theorem dX7_paints_31 : decode cX7_paints 31 = .ok (.getfield 23, 3) := by decide +kernel
theorem dX7_paints_34 : decode cX7_paints 34 = .ok (.iload_n 2, 1) := by decide +kernel
theorem dX7_paints_35 : decode cX7_paints 35 = .ok (.iload_n 3, 1) := by decide +kernel
theorem dX7_paints_36 : decode cX7_paints 36 = .ok (.invokevirtual 211, 3) := by decide +kernel
theorem dX7_paints_39 : decode cX7_paints 39 = .ok (.ifCond .eq 7, 3) := by decide +kernel
theorem dX7_paints_42 : decode cX7_paints 42 = .ok (.iconst 1, 1) := by decide +kernel
theorem dX7_paints_43 : decode cX7_paints 43 = .ok (.goto 4, 3) := by decide +kernel
theorem dX7_paints_46 : decode cX7_paints 46 = .ok (.iconst 0, 1) := by decide +kernel
theorem dX7_paints_47 : decode cX7_paints 47 = .ok (.iadd, 1) := by decide +kernel
theorem dX7_paints_48 : decode cX7_paints 48 = .ok (.istore_n 1, 1) := by decide +kernel
theorem dX7_paints_49 : decode cX7_paints 49 = .ok (.iinc 3 1, 3) := by decide +kernel
theorem dX7_paints_52 : decode cX7_paints 52 = .ok (.goto (-36), 3) := by decide +kernel
theorem dX7_paints_55 : decode cX7_paints 55 = .ok (.iinc 2 1, 3) := by decide +kernel
theorem dX7_paints_58 : decode cX7_paints 58 = .ok (.goto (-54), 3) := by decide +kernel
theorem dX7_paints_61 : decode cX7_paints 61 = .ok (.iload_n 1, 1) := by decide +kernel
theorem dX7_paints_62 : decode cX7_paints 62 = .ok (.ireturn, 1) := by decide +kernel
theorem dX7_codeOf_0 : decode cX7_codeOf 0 = .ok (.iconst 0, 1) := by decide +kernel
theorem dX7_codeOf_1 : decode cX7_codeOf 1 = .ok (.istore_n 1, 1) := by decide +kernel
theorem dX7_codeOf_2 : decode cX7_codeOf 2 = .ok (.iconst 0, 1) := by decide +kernel
theorem dX7_codeOf_3 : decode cX7_codeOf 3 = .ok (.istore_n 2, 1) := by decide +kernel
theorem dX7_codeOf_4 : decode cX7_codeOf 4 = .ok (.iconst 0, 1) := by decide +kernel
theorem dX7_codeOf_5 : decode cX7_codeOf 5 = .ok (.istore_n 3, 1) := by decide +kernel
theorem dX7_codeOf_6 : decode cX7_codeOf 6 = .ok (.iconst 0, 1) := by decide +kernel
theorem dX7_codeOf_7 : decode cX7_codeOf 7 = .ok (.istore 4, 2) := by decide +kernel
theorem dX7_codeOf_9 : decode cX7_codeOf 9 = .ok (.iconst 1, 1) := by decide +kernel
theorem dX7_codeOf_10 : decode cX7_codeOf 10 = .ok (.istore 5, 2) := by decide +kernel
theorem dX7_codeOf_12 : decode cX7_codeOf 12 = .ok (.iload 5, 2) := by decide +kernel
theorem dX7_codeOf_14 : decode cX7_codeOf 14 = .ok (.aload_n 0, 1) := by decide +kernel
theorem dX7_codeOf_15 : decode cX7_codeOf 15 = .ok (.getfield 142, 3) := by decide +kernel
theorem dX7_codeOf_18 : decode cX7_codeOf 18 = .ok (.if_icmp .gt 79, 3) := by decide +kernel
theorem dX7_codeOf_21 : decode cX7_codeOf 21 = .ok (.aload_n 0, 1) := by decide +kernel
theorem dX7_codeOf_22 : decode cX7_codeOf 22 = .ok (.getfield 51, 3) := by decide +kernel
theorem dX7_codeOf_25 : decode cX7_codeOf 25 = .ok (.iload 5, 2) := by decide +kernel
theorem dX7_codeOf_27 : decode cX7_codeOf 27 = .ok (.iaload, 1) := by decide +kernel
theorem dX7_codeOf_28 : decode cX7_codeOf 28 = .ok (.istore 6, 2) := by decide +kernel
theorem dX7_codeOf_30 : decode cX7_codeOf 30 = .ok (.iload_n 2, 1) := by decide +kernel
theorem dX7_codeOf_31 : decode cX7_codeOf 31 = .ok (.ifCond .ne 11, 3) := by decide +kernel
theorem dX7_codeOf_34 : decode cX7_codeOf 34 = .ok (.iload 6, 2) := by decide +kernel
theorem dX7_codeOf_36 : decode cX7_codeOf 36 = .ok (.istore_n 3, 1) := by decide +kernel
theorem dX7_codeOf_37 : decode cX7_codeOf 37 = .ok (.iconst 1, 1) := by decide +kernel
theorem dX7_codeOf_38 : decode cX7_codeOf 38 = .ok (.istore_n 2, 1) := by decide +kernel
theorem dX7_codeOf_39 : decode cX7_codeOf 39 = .ok (.goto 20, 3) := by decide +kernel
theorem dX7_codeOf_42 : decode cX7_codeOf 42 = .ok (.iload_n 2, 1) := by decide +kernel
theorem dX7_codeOf_43 : decode cX7_codeOf 43 = .ok (.iconst 1, 1) := by decide +kernel
theorem dX7_codeOf_44 : decode cX7_codeOf 44 = .ok (.if_icmp .ne 15, 3) := by decide +kernel
theorem dX7_codeOf_47 : decode cX7_codeOf 47 = .ok (.iload 6, 2) := by decide +kernel
theorem dX7_codeOf_49 : decode cX7_codeOf 49 = .ok (.iload_n 3, 1) := by decide +kernel
theorem dX7_codeOf_50 : decode cX7_codeOf 50 = .ok (.if_icmp .eq 9, 3) := by decide +kernel
theorem dX7_codeOf_53 : decode cX7_codeOf 53 = .ok (.iload 6, 2) := by decide +kernel
theorem dX7_codeOf_55 : decode cX7_codeOf 55 = .ok (.istore 4, 2) := by decide +kernel
theorem dX7_codeOf_57 : decode cX7_codeOf 57 = .ok (.iconst 2, 1) := by decide +kernel
theorem dX7_codeOf_58 : decode cX7_codeOf 58 = .ok (.istore_n 2, 1) := by decide +kernel
theorem dX7_codeOf_59 : decode cX7_codeOf 59 = .ok (.iconst 3, 1) := by decide +kernel
theorem dX7_codeOf_60 : decode cX7_codeOf 60 = .ok (.iload_n 1, 1) := by decide +kernel
theorem dX7_codeOf_61 : decode cX7_codeOf 61 = .ok (.imul, 1) := by decide +kernel
theorem dX7_codeOf_62 : decode cX7_codeOf 62 = .ok (.iload 6, 2) := by decide +kernel
theorem dX7_codeOf_64 : decode cX7_codeOf 64 = .ok (.iload_n 3, 1) := by decide +kernel
theorem dX7_codeOf_65 : decode cX7_codeOf 65 = .ok (.if_icmp .ne 7, 3) := by decide +kernel
theorem dX7_codeOf_68 : decode cX7_codeOf 68 = .ok (.iconst 0, 1) := by decide +kernel
theorem dX7_codeOf_69 : decode cX7_codeOf 69 = .ok (.goto 20, 3) := by decide +kernel
theorem dX7_codeOf_72 : decode cX7_codeOf 72 = .ok (.iload_n 2, 1) := by decide +kernel
theorem dX7_codeOf_73 : decode cX7_codeOf 73 = .ok (.iconst 1, 1) := by decide +kernel
theorem dX7_codeOf_74 : decode cX7_codeOf 74 = .ok (.if_icmp .le 14, 3) := by decide +kernel
theorem dX7_codeOf_77 : decode cX7_codeOf 77 = .ok (.iload 6, 2) := by decide +kernel
theorem dX7_codeOf_79 : decode cX7_codeOf 79 = .ok (.iload 4, 2) := by decide +kernel
theorem dX7_codeOf_81 : decode cX7_codeOf 81 = .ok (.if_icmp .ne 7, 3) := by decide +kernel
theorem dX7_codeOf_84 : decode cX7_codeOf 84 = .ok (.iconst 1, 1) := by decide +kernel
theorem dX7_codeOf_85 : decode cX7_codeOf 85 = .ok (.goto 4, 3) := by decide +kernel
theorem dX7_codeOf_88 : decode cX7_codeOf 88 = .ok (.iconst 2, 1) := by decide +kernel
theorem dX7_codeOf_89 : decode cX7_codeOf 89 = .ok (.iadd, 1) := by decide +kernel
theorem dX7_codeOf_90 : decode cX7_codeOf 90 = .ok (.istore_n 1, 1) := by decide +kernel
theorem dX7_codeOf_91 : decode cX7_codeOf 91 = .ok (.iinc 5 1, 3) := by decide +kernel
theorem dX7_codeOf_94 : decode cX7_codeOf 94 = .ok (.goto (-82), 3) := by decide +kernel
theorem dX7_codeOf_97 : decode cX7_codeOf 97 = .ok (.iload_n 1, 1) := by decide +kernel
theorem dX7_codeOf_98 : decode cX7_codeOf 98 = .ok (.ireturn, 1) := by decide +kernel
theorem dX7_kinds_0 : decode cX7_kinds 0 = .ok (.iconst 0, 1) := by decide +kernel
theorem dX7_kinds_1 : decode cX7_kinds 1 = .ok (.istore_n 1, 1) := by decide +kernel
theorem dX7_kinds_2 : decode cX7_kinds 2 = .ok (.iload_n 1, 1) := by decide +kernel
theorem dX7_kinds_3 : decode cX7_kinds 3 = .ok (.ldc 60, 2) := by decide +kernel
theorem dX7_kinds_5 : decode cX7_kinds 5 = .ok (.if_icmp .ge 16, 3) := by decide +kernel
theorem dX7_kinds_8 : decode cX7_kinds 8 = .ok (.aload_n 0, 1) := by decide +kernel
theorem dX7_kinds_9 : decode cX7_kinds 9 = .ok (.getfield 61, 3) := by decide +kernel
theorem dX7_kinds_12 : decode cX7_kinds 12 = .ok (.iload_n 1, 1) := by decide +kernel
theorem dX7_kinds_13 : decode cX7_kinds 13 = .ok (.iconst 0, 1) := by decide +kernel
theorem dX7_kinds_14 : decode cX7_kinds 14 = .ok (.bastore, 1) := by decide +kernel
theorem dX7_kinds_15 : decode cX7_kinds 15 = .ok (.iinc 1 1, 3) := by decide +kernel
theorem dX7_kinds_18 : decode cX7_kinds 18 = .ok (.goto (-16), 3) := by decide +kernel
theorem dX7_kinds_21 : decode cX7_kinds 21 = .ok (.iconst 0, 1) := by decide +kernel
theorem dX7_kinds_22 : decode cX7_kinds 22 = .ok (.istore_n 1, 1) := by decide +kernel
theorem dX7_kinds_23 : decode cX7_kinds 23 = .ok (.aload_n 0, 1) := by decide +kernel
theorem dX7_kinds_24 : decode cX7_kinds 24 = .ok (.aload_n 0, 1) := by decide +kernel
theorem dX7_kinds_25 : decode cX7_kinds 25 = .ok (.getfield 20, 3) := by decide +kernel
theorem dX7_kinds_28 : decode cX7_kinds 28 = .ok (.invokevirtual 171, 3) := by decide +kernel
theorem dX7_kinds_31 : decode cX7_kinds 31 = .ok (.aload_n 0, 1) := by decide +kernel
theorem dX7_kinds_32 : decode cX7_kinds 32 = .ok (.invokevirtual 164, 3) := by decide +kernel
theorem dX7_kinds_35 : decode cX7_kinds 35 = .ok (.ifCond .eq 35, 3) := by decide +kernel
theorem dX7_kinds_38 : decode cX7_kinds 38 = .ok (.aload_n 0, 1) := by decide +kernel
theorem dX7_kinds_39 : decode cX7_kinds 39 = .ok (.invokevirtual 225, 3) := by decide +kernel
theorem dX7_kinds_42 : decode cX7_kinds 42 = .ok (.istore_n 2, 1) := by decide +kernel
theorem dX7_kinds_43 : decode cX7_kinds 43 = .ok (.iload_n 1, 1) := by decide +kernel
theorem dX7_kinds_44 : decode cX7_kinds 44 = .ok (.aload_n 0, 1) := by decide +kernel
theorem dX7_kinds_45 : decode cX7_kinds 45 = .ok (.getfield 61, 3) := by decide +kernel
theorem dX7_kinds_48 : decode cX7_kinds 48 = .ok (.iload_n 2, 1) := by decide +kernel
theorem dX7_kinds_49 : decode cX7_kinds 49 = .ok (.baload, 1) := by decide +kernel
theorem dX7_kinds_50 : decode cX7_kinds 50 = .ok (.ifCond .eq 7, 3) := by decide +kernel
theorem dX7_kinds_53 : decode cX7_kinds 53 = .ok (.iconst 0, 1) := by decide +kernel
theorem dX7_kinds_54 : decode cX7_kinds 54 = .ok (.goto 4, 3) := by decide +kernel
theorem dX7_kinds_57 : decode cX7_kinds 57 = .ok (.iconst 1, 1) := by decide +kernel
theorem dX7_kinds_58 : decode cX7_kinds 58 = .ok (.iadd, 1) := by decide +kernel
theorem dX7_kinds_59 : decode cX7_kinds 59 = .ok (.istore_n 1, 1) := by decide +kernel
theorem dX7_kinds_60 : decode cX7_kinds 60 = .ok (.aload_n 0, 1) := by decide +kernel
theorem dX7_kinds_61 : decode cX7_kinds 61 = .ok (.getfield 61, 3) := by decide +kernel
theorem dX7_kinds_64 : decode cX7_kinds 64 = .ok (.iload_n 2, 1) := by decide +kernel
theorem dX7_kinds_65 : decode cX7_kinds 65 = .ok (.iconst 1, 1) := by decide +kernel
theorem dX7_kinds_66 : decode cX7_kinds 66 = .ok (.bastore, 1) := by decide +kernel
theorem dX7_kinds_67 : decode cX7_kinds 67 = .ok (.goto (-36), 3) := by decide +kernel
theorem dX7_kinds_70 : decode cX7_kinds 70 = .ok (.iload_n 1, 1) := by decide +kernel
theorem dX7_kinds_71 : decode cX7_kinds 71 = .ok (.ireturn, 1) := by decide +kernel
theorem dX7_ends_0 : decode cX7_ends 0 = .ok (.aload_n 0, 1) := by decide +kernel
theorem dX7_ends_1 : decode cX7_ends 1 = .ok (.aload_n 0, 1) := by decide +kernel
theorem dX7_ends_2 : decode cX7_ends 2 = .ok (.getfield 20, 3) := by decide +kernel
theorem dX7_ends_5 : decode cX7_ends 5 = .ok (.invokevirtual 171, 3) := by decide +kernel
theorem dX7_ends_8 : decode cX7_ends 8 = .ok (.iconst 0, 1) := by decide +kernel
theorem dX7_ends_9 : decode cX7_ends 9 = .ok (.istore_n 1, 1) := by decide +kernel
theorem dX7_ends_10 : decode cX7_ends 10 = .ok (.iconst 1, 1) := by decide +kernel
theorem dX7_ends_11 : decode cX7_ends 11 = .ok (.istore_n 2, 1) := by decide +kernel
theorem dX7_ends_12 : decode cX7_ends 12 = .ok (.aload_n 0, 1) := by decide +kernel
theorem dX7_ends_13 : decode cX7_ends 13 = .ok (.getfield 51, 3) := by decide +kernel
theorem dX7_ends_16 : decode cX7_ends 16 = .ok (.iconst 1, 1) := by decide +kernel
theorem dX7_ends_17 : decode cX7_ends 17 = .ok (.iconst (-1), 1) := by decide +kernel
theorem dX7_ends_18 : decode cX7_ends 18 = .ok (.iastore, 1) := by decide +kernel
theorem dX7_ends_19 : decode cX7_ends 19 = .ok (.aload_n 0, 1) := by decide +kernel
theorem dX7_ends_20 : decode cX7_ends 20 = .ok (.getfield 64, 3) := by decide +kernel
theorem dX7_ends_23 : decode cX7_ends 23 = .ok (.iconst 1, 1) := by decide +kernel
theorem dX7_ends_24 : decode cX7_ends 24 = .ok (.iconst 0, 1) := by decide +kernel
theorem dX7_ends_25 : decode cX7_ends 25 = .ok (.bastore, 1) := by decide +kernel
theorem dX7_ends_26 : decode cX7_ends 26 = .ok (.iload_n 2, 1) := by decide +kernel
theorem dX7_ends_27 : decode cX7_ends 27 = .ok (.ifCond .le 69, 3) := by decide +kernel
theorem dX7_ends_30 : decode cX7_ends 30 = .ok (.aload_n 0, 1) := by decide +kernel
theorem dX7_ends_31 : decode cX7_ends 31 = .ok (.iload_n 2, 1) := by decide +kernel
theorem dX7_ends_32 : decode cX7_ends 32 = .ok (.invokevirtual 154, 3) := by decide +kernel
theorem dX7_ends_35 : decode cX7_ends 35 = .ok (.ifCond .eq 38, 3) := by decide +kernel
theorem dX7_ends_38 : decode cX7_ends 38 = .ok (.aload_n 0, 1) := by decide +kernel
theorem dX7_ends_39 : decode cX7_ends 39 = .ok (.getfield 64, 3) := by decide +kernel
theorem dX7_ends_42 : decode cX7_ends 42 = .ok (.iload_n 2, 1) := by decide +kernel
theorem dX7_ends_43 : decode cX7_ends 43 = .ok (.iconst 1, 1) := by decide +kernel
theorem dX7_ends_44 : decode cX7_ends 44 = .ok (.bastore, 1) := by decide +kernel
theorem dX7_ends_45 : decode cX7_ends 45 = .ok (.iload_n 2, 1) := by decide +kernel
theorem dX7_ends_46 : decode cX7_ends 46 = .ok (.aload_n 0, 1) := by decide +kernel
theorem dX7_ends_47 : decode cX7_ends 47 = .ok (.getfield 142, 3) := by decide +kernel
theorem dX7_ends_50 : decode cX7_ends 50 = .ok (.if_icmp .ge (-24), 3) := by decide +kernel
theorem dX7_ends_53 : decode cX7_ends 53 = .ok (.iinc 2 1, 3) := by decide +kernel
theorem dX7_ends_56 : decode cX7_ends 56 = .ok (.aload_n 0, 1) := by decide +kernel
theorem dX7_ends_57 : decode cX7_ends 57 = .ok (.getfield 51, 3) := by decide +kernel
theorem dX7_ends_60 : decode cX7_ends 60 = .ok (.iload_n 2, 1) := by decide +kernel
theorem dX7_ends_61 : decode cX7_ends 61 = .ok (.iconst (-1), 1) := by decide +kernel
theorem dX7_ends_62 : decode cX7_ends 62 = .ok (.iastore, 1) := by decide +kernel
theorem dX7_ends_63 : decode cX7_ends 63 = .ok (.aload_n 0, 1) := by decide +kernel
theorem dX7_ends_64 : decode cX7_ends 64 = .ok (.getfield 64, 3) := by decide +kernel
theorem dX7_ends_67 : decode cX7_ends 67 = .ok (.iload_n 2, 1) := by decide +kernel
theorem dX7_ends_68 : decode cX7_ends 68 = .ok (.iconst 0, 1) := by decide +kernel
theorem dX7_ends_69 : decode cX7_ends 69 = .ok (.bastore, 1) := by decide +kernel
theorem dX7_ends_70 : decode cX7_ends 70 = .ok (.goto (-44), 3) := by decide +kernel
theorem dX7_ends_73 : decode cX7_ends 73 = .ok (.iload_n 1, 1) := by decide +kernel
theorem dX7_ends_74 : decode cX7_ends 74 = .ok (.aload_n 0, 1) := by decide +kernel
theorem dX7_ends_75 : decode cX7_ends 75 = .ok (.getfield 64, 3) := by decide +kernel
theorem dX7_ends_78 : decode cX7_ends 78 = .ok (.iload_n 2, 1) := by decide +kernel
theorem dX7_ends_79 : decode cX7_ends 79 = .ok (.baload, 1) := by decide +kernel
theorem dX7_ends_80 : decode cX7_ends 80 = .ok (.ifCond .eq 7, 3) := by decide +kernel
theorem dX7_ends_83 : decode cX7_ends 83 = .ok (.iconst 0, 1) := by decide +kernel
theorem dX7_ends_84 : decode cX7_ends 84 = .ok (.goto 4, 3) := by decide +kernel
theorem dX7_ends_87 : decode cX7_ends 87 = .ok (.iconst 1, 1) := by decide +kernel
theorem dX7_ends_88 : decode cX7_ends 88 = .ok (.iadd, 1) := by decide +kernel
theorem dX7_ends_89 : decode cX7_ends 89 = .ok (.istore_n 1, 1) := by decide +kernel
theorem dX7_ends_90 : decode cX7_ends 90 = .ok (.iinc 2 (-1), 3) := by decide +kernel
theorem dX7_ends_93 : decode cX7_ends 93 = .ok (.goto (-67), 3) := by decide +kernel
theorem dX7_ends_96 : decode cX7_ends 96 = .ok (.iload_n 1, 1) := by decide +kernel
theorem dX7_ends_97 : decode cX7_ends 97 = .ok (.ireturn, 1) := by decide +kernel
theorem dX7_ask_0 : decode cX7_ask 0 = .ok (.aload_n 0, 1) := by decide +kernel
theorem dX7_ask_1 : decode cX7_ask 1 = .ok (.iconst 0, 1) := by decide +kernel
theorem dX7_ask_2 : decode cX7_ask 2 = .ok (.putfield 67, 3) := by decide +kernel
theorem dX7_ask_5 : decode cX7_ask 5 = .ok (.iload_n 1, 1) := by decide +kernel
theorem dX7_ask_6 : decode cX7_ask 6 = .ok (.tableswitch 93 0 6 #[42, 51, 60, 69, 78, 83, 88], 42) := by decide +kernel
theorem dX7_ask_48 : decode cX7_ask 48 = .ok (.aload_n 0, 1) := by decide +kernel
theorem dX7_ask_49 : decode cX7_ask 49 = .ok (.aload_n 0, 1) := by decide +kernel
theorem dX7_ask_50 : decode cX7_ask 50 = .ok (.getfield 20, 3) := by decide +kernel
theorem dX7_ask_53 : decode cX7_ask 53 = .ok (.invokevirtual 118, 3) := by decide +kernel
theorem dX7_ask_56 : decode cX7_ask 56 = .ok (.ireturn, 1) := by decide +kernel
theorem dX7_ask_57 : decode cX7_ask 57 = .ok (.aload_n 0, 1) := by decide +kernel
theorem dX7_ask_58 : decode cX7_ask 58 = .ok (.aload_n 0, 1) := by decide +kernel
theorem dX7_ask_59 : decode cX7_ask 59 = .ok (.getfield 20, 3) := by decide +kernel
theorem dX7_ask_62 : decode cX7_ask 62 = .ok (.invokevirtual 178, 3) := by decide +kernel
theorem dX7_ask_65 : decode cX7_ask 65 = .ok (.ireturn, 1) := by decide +kernel
theorem dX7_ask_66 : decode cX7_ask 66 = .ok (.aload_n 0, 1) := by decide +kernel
theorem dX7_ask_67 : decode cX7_ask 67 = .ok (.aload_n 0, 1) := by decide +kernel
theorem dX7_ask_68 : decode cX7_ask 68 = .ok (.getfield 20, 3) := by decide +kernel
theorem dX7_ask_71 : decode cX7_ask 71 = .ok (.invokevirtual 228, 3) := by decide +kernel
theorem dX7_ask_74 : decode cX7_ask 74 = .ok (.ireturn, 1) := by decide +kernel
theorem dX7_ask_75 : decode cX7_ask 75 = .ok (.aload_n 0, 1) := by decide +kernel
theorem dX7_ask_76 : decode cX7_ask 76 = .ok (.aload_n 0, 1) := by decide +kernel
theorem dX7_ask_77 : decode cX7_ask 77 = .ok (.getfield 20, 3) := by decide +kernel
theorem dX7_ask_80 : decode cX7_ask 80 = .ok (.invokevirtual 231, 3) := by decide +kernel
theorem dX7_ask_83 : decode cX7_ask 83 = .ok (.ireturn, 1) := by decide +kernel
theorem dX7_ask_84 : decode cX7_ask 84 = .ok (.aload_n 0, 1) := by decide +kernel
theorem dX7_ask_85 : decode cX7_ask 85 = .ok (.invokevirtual 234, 3) := by decide +kernel
theorem dX7_ask_88 : decode cX7_ask 88 = .ok (.ireturn, 1) := by decide +kernel
theorem dX7_ask_89 : decode cX7_ask 89 = .ok (.aload_n 0, 1) := by decide +kernel
theorem dX7_ask_90 : decode cX7_ask 90 = .ok (.invokevirtual 237, 3) := by decide +kernel
theorem dX7_ask_93 : decode cX7_ask 93 = .ok (.ireturn, 1) := by decide +kernel
theorem dX7_ask_94 : decode cX7_ask 94 = .ok (.aload_n 0, 1) := by decide +kernel
theorem dX7_ask_95 : decode cX7_ask 95 = .ok (.invokevirtual 240, 3) := by decide +kernel
theorem dX7_ask_98 : decode cX7_ask 98 = .ok (.ireturn, 1) := by decide +kernel
theorem dX7_ask_99 : decode cX7_ask 99 = .ok (.bipush (-2), 2) := by decide +kernel
theorem dX7_ask_101 : decode cX7_ask 101 = .ok (.ireturn, 1) := by decide +kernel
theorem dX7_on_0 : decode cX7_on 0 = .ok (.aload_n 0, 1) := by decide +kernel
theorem dX7_on_1 : decode cX7_on 1 = .ok (.iconst 0, 1) := by decide +kernel
theorem dX7_on_2 : decode cX7_on 2 = .ok (.putfield 67, 3) := by decide +kernel
theorem dX7_on_5 : decode cX7_on 5 = .ok (.aload_n 0, 1) := by decide +kernel
theorem dX7_on_6 : decode cX7_on 6 = .ok (.getfield 20, 3) := by decide +kernel
theorem dX7_on_9 : decode cX7_on 9 = .ok (.iconst 0, 1) := by decide +kernel
theorem dX7_on_10 : decode cX7_on 10 = .ok (.iaload, 1) := by decide +kernel
theorem dX7_on_11 : decode cX7_on 11 = .ok (.bipush 10, 2) := by decide +kernel
theorem dX7_on_13 : decode cX7_on 13 = .ok (.if_icmp .eq 13, 3) := by decide +kernel
theorem dX7_on_16 : decode cX7_on 16 = .ok (.aload_n 0, 1) := by decide +kernel
theorem dX7_on_17 : decode cX7_on 17 = .ok (.getfield 20, 3) := by decide +kernel
theorem dX7_on_20 : decode cX7_on 20 = .ok (.bipush 28, 2) := by decide +kernel
theorem dX7_on_22 : decode cX7_on 22 = .ok (.iaload, 1) := by decide +kernel
theorem dX7_on_23 : decode cX7_on 23 = .ok (.ifCond .ne 6, 3) := by decide +kernel
theorem dX7_on_26 : decode cX7_on 26 = .ok (.bipush (-3), 2) := by decide +kernel
theorem dX7_on_28 : decode cX7_on 28 = .ok (.ireturn, 1) := by decide +kernel
theorem dX7_on_29 : decode cX7_on 29 = .ok (.aload_n 0, 1) := by decide +kernel
theorem dX7_on_30 : decode cX7_on 30 = .ok (.aload_n 0, 1) := by decide +kernel
theorem dX7_on_31 : decode cX7_on 31 = .ok (.getfield 20, 3) := by decide +kernel
theorem dX7_on_34 : decode cX7_on 34 = .ok (.aload_n 0, 1) := by decide +kernel
theorem dX7_on_35 : decode cX7_on 35 = .ok (.getfield 20, 3) := by decide +kernel
theorem dX7_on_38 : decode cX7_on 38 = .ok (.invokestatic 157, 3) := by decide +kernel
end
section
theorem dX7_on_41 : decode cX7_on 41 = .ok (.aload_n 0, 1) := by decide +kernel
theorem dX7_on_42 : decode cX7_on 42 = .ok (.getfield 20, 3) := by decide +kernel
theorem dX7_on_45 : decode cX7_on 45 = .ok (.iconst 0, 1) := by decide +kernel
theorem dX7_on_46 : decode cX7_on 46 = .ok (.iaload, 1) := by decide +kernel
theorem dX7_on_47 : decode cX7_on 47 = .ok (.iconst 0, 1) := by decide +kernel
theorem dX7_on_48 : decode cX7_on 48 = .ok (.invokevirtual 160, 3) := by decide +kernel
theorem dX7_on_51 : decode cX7_on 51 = .ok (.iconst 1, 1) := by decide +kernel
theorem dX7_on_52 : decode cX7_on 52 = .ok (.istore_n 1, 1) := by decide +kernel
theorem dX7_on_53 : decode cX7_on 53 = .ok (.iload_n 1, 1) := by decide +kernel
theorem dX7_on_54 : decode cX7_on 54 = .ok (.aload_n 0, 1) := by decide +kernel
theorem dX7_on_55 : decode cX7_on 55 = .ok (.getfield 20, 3) := by decide +kernel
theorem dX7_on_58 : decode cX7_on 58 = .ok (.iconst 0, 1) := by decide +kernel
theorem dX7_on_59 : decode cX7_on 59 = .ok (.iaload, 1) := by decide +kernel
theorem dX7_on_60 : decode cX7_on 60 = .ok (.if_icmp .gt 31, 3) := by decide +kernel
theorem dX7_on_63 : decode cX7_on 63 = .ok (.aload_n 0, 1) := by decide +kernel
theorem dX7_on_64 : decode cX7_on 64 = .ok (.getfield 54, 3) := by decide +kernel
theorem dX7_on_67 : decode cX7_on 67 = .ok (.aload_n 0, 1) := by decide +kernel
theorem dX7_on_68 : decode cX7_on 68 = .ok (.getfield 20, 3) := by decide +kernel
theorem dX7_on_71 : decode cX7_on 71 = .ok (.bipush 29, 2) := by decide +kernel
theorem dX7_on_73 : decode cX7_on 73 = .ok (.iload_n 1, 1) := by decide +kernel
theorem dX7_on_74 : decode cX7_on 74 = .ok (.iadd, 1) := by decide +kernel
theorem dX7_on_75 : decode cX7_on 75 = .ok (.iconst 1, 1) := by decide +kernel
theorem dX7_on_76 : decode cX7_on 76 = .ok (.isub, 1) := by decide +kernel
theorem dX7_on_77 : decode cX7_on 77 = .ok (.iaload, 1) := by decide +kernel
theorem dX7_on_78 : decode cX7_on 78 = .ok (.dup2, 1) := by decide +kernel
theorem dX7_on_79 : decode cX7_on 79 = .ok (.iaload, 1) := by decide +kernel
theorem dX7_on_80 : decode cX7_on 80 = .ok (.iconst 1, 1) := by decide +kernel
theorem dX7_on_81 : decode cX7_on 81 = .ok (.iload_n 1, 1) := by decide +kernel
theorem dX7_on_82 : decode cX7_on 82 = .ok (.ishl, 1) := by decide +kernel
theorem dX7_on_83 : decode cX7_on 83 = .ok (.ior, 1) := by decide +kernel
theorem dX7_on_84 : decode cX7_on 84 = .ok (.iastore, 1) := by decide +kernel
theorem dX7_on_85 : decode cX7_on 85 = .ok (.iinc 1 1, 3) := by decide +kernel
theorem dX7_on_88 : decode cX7_on 88 = .ok (.goto (-35), 3) := by decide +kernel
theorem dX7_on_91 : decode cX7_on 91 = .ok (.iconst 0, 1) := by decide +kernel
theorem dX7_on_92 : decode cX7_on 92 = .ok (.istore_n 1, 1) := by decide +kernel
theorem dX7_on_93 : decode cX7_on 93 = .ok (.iconst 0, 1) := by decide +kernel
theorem dX7_on_94 : decode cX7_on 94 = .ok (.istore_n 2, 1) := by decide +kernel
theorem dX7_on_95 : decode cX7_on 95 = .ok (.iload_n 2, 1) := by decide +kernel
theorem dX7_on_96 : decode cX7_on 96 = .ok (.aload_n 0, 1) := by decide +kernel
theorem dX7_on_97 : decode cX7_on 97 = .ok (.getfield 13, 3) := by decide +kernel
theorem dX7_on_100 : decode cX7_on 100 = .ok (.if_icmp .ge 35, 3) := by decide +kernel
theorem dX7_on_103 : decode cX7_on 103 = .ok (.iload_n 1, 1) := by decide +kernel
theorem dX7_on_104 : decode cX7_on 104 = .ok (.aload_n 0, 1) := by decide +kernel
theorem dX7_on_105 : decode cX7_on 105 = .ok (.aload_n 0, 1) := by decide +kernel
theorem dX7_on_106 : decode cX7_on 106 = .ok (.getfield 20, 3) := by decide +kernel
theorem dX7_on_109 : decode cX7_on 109 = .ok (.iconst 0, 1) := by decide +kernel
theorem dX7_on_110 : decode cX7_on 110 = .ok (.iaload, 1) := by decide +kernel
theorem dX7_on_111 : decode cX7_on 111 = .ok (.iconst 1, 1) := by decide +kernel
theorem dX7_on_112 : decode cX7_on 112 = .ok (.iadd, 1) := by decide +kernel
theorem dX7_on_113 : decode cX7_on 113 = .ok (.iload_n 2, 1) := by decide +kernel
theorem dX7_on_114 : decode cX7_on 114 = .ok (.invokevirtual 151, 3) := by decide +kernel
theorem dX7_on_117 : decode cX7_on 117 = .ok (.ifCond .eq 9, 3) := by decide +kernel
theorem dX7_on_120 : decode cX7_on 120 = .ok (.iconst 1, 1) := by decide +kernel
theorem dX7_on_121 : decode cX7_on 121 = .ok (.iload_n 2, 1) := by decide +kernel
theorem dX7_on_122 : decode cX7_on 122 = .ok (.ishl, 1) := by decide +kernel
theorem dX7_on_123 : decode cX7_on 123 = .ok (.goto 4, 3) := by decide +kernel
theorem dX7_on_126 : decode cX7_on 126 = .ok (.iconst 0, 1) := by decide +kernel
theorem dX7_on_127 : decode cX7_on 127 = .ok (.ior, 1) := by decide +kernel
theorem dX7_on_128 : decode cX7_on 128 = .ok (.istore_n 1, 1) := by decide +kernel
theorem dX7_on_129 : decode cX7_on 129 = .ok (.iinc 2 1, 3) := by decide +kernel
theorem dX7_on_132 : decode cX7_on 132 = .ok (.goto (-37), 3) := by decide +kernel
theorem dX7_on_135 : decode cX7_on 135 = .ok (.iload_n 1, 1) := by decide +kernel
theorem dX7_on_136 : decode cX7_on 136 = .ok (.ireturn, 1) := by decide +kernel
theorem dX7_does_0 : decode cX7_does 0 = .ok (.bipush 10, 2) := by decide +kernel
theorem dX7_does_2 : decode cX7_does 2 = .ok (.iload_n 2, 1) := by decide +kernel
theorem dX7_does_3 : decode cX7_does 3 = .ok (.imul, 1) := by decide +kernel
theorem dX7_does_4 : decode cX7_does 4 = .ok (.iload_n 3, 1) := by decide +kernel
theorem dX7_does_5 : decode cX7_does 5 = .ok (.iadd, 1) := by decide +kernel
theorem dX7_does_6 : decode cX7_does 6 = .ok (.istore 5, 2) := by decide +kernel
theorem dX7_does_8 : decode cX7_does 8 = .ok (.iload 5, 2) := by decide +kernel
theorem dX7_does_10 : decode cX7_does 10 = .ok (.i2l, 1) := by decide +kernel
theorem dX7_does_11 : decode cX7_does 11 = .ok (.lconst 1, 1) := by decide +kernel
theorem dX7_does_12 : decode cX7_does 12 = .ok (.aload_n 0, 1) := by decide +kernel
theorem dX7_does_13 : decode cX7_does 13 = .ok (.getfield 23, 3) := by decide +kernel
theorem dX7_does_16 : decode cX7_does 16 = .ok (.iconst 0, 1) := by decide +kernel
theorem dX7_does_17 : decode cX7_does 17 = .ok (.iaload, 1) := by decide +kernel
theorem dX7_does_18 : decode cX7_does 18 = .ok (.i2l, 1) := by decide +kernel
theorem dX7_does_19 : decode cX7_does 19 = .ok (.invokestatic 72, 3) := by decide +kernel
theorem dX7_does_22 : decode cX7_does 22 = .ok (.istore 6, 2) := by decide +kernel
theorem dX7_does_24 : decode cX7_does 24 = .ok (.iload_n 1, 1) := by decide +kernel
theorem dX7_does_25 : decode cX7_does 25 = .ok (.tableswitch 322 1 7 #[43, 78, 138, 179, 208, 245, 279], 43) := by decide +kernel
theorem dX7_does_68 : decode cX7_does 68 = .ok (.iload 6, 2) := by decide +kernel
theorem dX7_does_70 : decode cX7_does 70 = .ok (.ifCond .eq 31, 3) := by decide +kernel
theorem dX7_does_73 : decode cX7_does 73 = .ok (.iload 4, 2) := by decide +kernel
theorem dX7_does_75 : decode cX7_does 75 = .ok (.aload_n 0, 1) := by decide +kernel
theorem dX7_does_76 : decode cX7_does 76 = .ok (.getfield 13, 3) := by decide +kernel
theorem dX7_does_79 : decode cX7_does 79 = .ok (.if_icmp .ge 22, 3) := by decide +kernel
theorem dX7_does_82 : decode cX7_does 82 = .ok (.aload_n 0, 1) := by decide +kernel
theorem dX7_does_83 : decode cX7_does 83 = .ok (.aload_n 0, 1) := by decide +kernel
theorem dX7_does_84 : decode cX7_does 84 = .ok (.getfield 23, 3) := by decide +kernel
theorem dX7_does_87 : decode cX7_does 87 = .ok (.iload 5, 2) := by decide +kernel
theorem dX7_does_89 : decode cX7_does 89 = .ok (.iload 4, 2) := by decide +kernel
theorem dX7_does_91 : decode cX7_does 91 = .ok (.invokevirtual 211, 3) := by decide +kernel
theorem dX7_does_94 : decode cX7_does 94 = .ok (.ifCond .eq 7, 3) := by decide +kernel
theorem dX7_does_97 : decode cX7_does 97 = .ok (.iconst 1, 1) := by decide +kernel
theorem dX7_does_98 : decode cX7_does 98 = .ok (.goto 4, 3) := by decide +kernel
theorem dX7_does_101 : decode cX7_does 101 = .ok (.iconst 0, 1) := by decide +kernel
theorem dX7_does_102 : decode cX7_does 102 = .ok (.ireturn, 1) := by decide +kernel
theorem dX7_does_103 : decode cX7_does 103 = .ok (.iload 6, 2) := by decide +kernel
theorem dX7_does_105 : decode cX7_does 105 = .ok (.ifCond .eq 19, 3) := by decide +kernel
theorem dX7_does_108 : decode cX7_does 108 = .ok (.iload 4, 2) := by decide +kernel
theorem dX7_does_110 : decode cX7_does 110 = .ok (.aload_n 0, 1) := by decide +kernel
theorem dX7_does_111 : decode cX7_does 111 = .ok (.getfield 13, 3) := by decide +kernel
theorem dX7_does_114 : decode cX7_does 114 = .ok (.if_icmp .lt 12, 3) := by decide +kernel
theorem dX7_does_117 : decode cX7_does 117 = .ok (.iload 4, 2) := by decide +kernel
theorem dX7_does_119 : decode cX7_does 119 = .ok (.bipush 9, 2) := by decide +kernel
theorem dX7_does_121 : decode cX7_does 121 = .ok (.if_icmp .eq 5, 3) := by decide +kernel
theorem dX7_does_124 : decode cX7_does 124 = .ok (.iconst 0, 1) := by decide +kernel
theorem dX7_does_125 : decode cX7_does 125 = .ok (.ireturn, 1) := by decide +kernel
theorem dX7_does_126 : decode cX7_does 126 = .ok (.aload_n 0, 1) := by decide +kernel
theorem dX7_does_127 : decode cX7_does 127 = .ok (.getfield 23, 3) := by decide +kernel
theorem dX7_does_130 : decode cX7_does 130 = .ok (.bipush 18, 2) := by decide +kernel
theorem dX7_does_132 : decode cX7_does 132 = .ok (.iload 5, 2) := by decide +kernel
theorem dX7_does_134 : decode cX7_does 134 = .ok (.iadd, 1) := by decide +kernel
theorem dX7_does_135 : decode cX7_does 135 = .ok (.iconst 1, 1) := by decide +kernel
theorem dX7_does_136 : decode cX7_does 136 = .ok (.isub, 1) := by decide +kernel
theorem dX7_does_137 : decode cX7_does 137 = .ok (.iload 4, 2) := by decide +kernel
theorem dX7_does_139 : decode cX7_does 139 = .ok (.bipush 9, 2) := by decide +kernel
theorem dX7_does_141 : decode cX7_does 141 = .ok (.if_icmp .ne 7, 3) := by decide +kernel
theorem dX7_does_144 : decode cX7_does 144 = .ok (.iconst 0, 1) := by decide +kernel
theorem dX7_does_145 : decode cX7_does 145 = .ok (.goto 7, 3) := by decide +kernel
theorem dX7_does_148 : decode cX7_does 148 = .ok (.iload 4, 2) := by decide +kernel
theorem dX7_does_150 : decode cX7_does 150 = .ok (.iconst 1, 1) := by decide +kernel
theorem dX7_does_151 : decode cX7_does 151 = .ok (.iadd, 1) := by decide +kernel
theorem dX7_does_152 : decode cX7_does 152 = .ok (.iastore, 1) := by decide +kernel
theorem dX7_does_153 : decode cX7_does 153 = .ok (.aload_n 0, 1) := by decide +kernel
theorem dX7_does_154 : decode cX7_does 154 = .ok (.aload_n 0, 1) := by decide +kernel
theorem dX7_does_155 : decode cX7_does 155 = .ok (.getfield 23, 3) := by decide +kernel
theorem dX7_does_158 : decode cX7_does 158 = .ok (.invokevirtual 111, 3) := by decide +kernel
theorem dX7_does_161 : decode cX7_does 161 = .ok (.iconst 1, 1) := by decide +kernel
theorem dX7_does_162 : decode cX7_does 162 = .ok (.ireturn, 1) := by decide +kernel
theorem dX7_does_163 : decode cX7_does 163 = .ok (.iload_n 2, 1) := by decide +kernel
theorem dX7_does_164 : decode cX7_does 164 = .ok (.ifCond .ne 21, 3) := by decide +kernel
theorem dX7_does_167 : decode cX7_does 167 = .ok (.bipush 10, 2) := by decide +kernel
theorem dX7_does_169 : decode cX7_does 169 = .ok (.iload_n 3, 1) := by decide +kernel
theorem dX7_does_170 : decode cX7_does 170 = .ok (.imul, 1) := by decide +kernel
theorem dX7_does_171 : decode cX7_does 171 = .ok (.iload 4, 2) := by decide +kernel
theorem dX7_does_173 : decode cX7_does 173 = .ok (.iadd, 1) := by decide +kernel
theorem dX7_does_174 : decode cX7_does 174 = .ok (.i2l, 1) := by decide +kernel
theorem dX7_does_175 : decode cX7_does 175 = .ok (.lconst 1, 1) := by decide +kernel
theorem dX7_does_176 : decode cX7_does 176 = .ok (.ldc2_w 215, 3) := by decide +kernel
theorem dX7_does_179 : decode cX7_does 179 = .ok (.invokestatic 72, 3) := by decide +kernel
theorem dX7_does_182 : decode cX7_does 182 = .ok (.ifCond .ne 5, 3) := by decide +kernel
theorem dX7_does_185 : decode cX7_does 185 = .ok (.iconst 0, 1) := by decide +kernel
theorem dX7_does_186 : decode cX7_does 186 = .ok (.ireturn, 1) := by decide +kernel
theorem dX7_does_187 : decode cX7_does 187 = .ok (.aload_n 0, 1) := by decide +kernel
theorem dX7_does_188 : decode cX7_does 188 = .ok (.aload_n 0, 1) := by decide +kernel
theorem dX7_does_189 : decode cX7_does 189 = .ok (.getfield 23, 3) := by decide +kernel
theorem dX7_does_192 : decode cX7_does 192 = .ok (.bipush 10, 2) := by decide +kernel
theorem dX7_does_194 : decode cX7_does 194 = .ok (.iload_n 3, 1) := by decide +kernel
theorem dX7_does_195 : decode cX7_does 195 = .ok (.imul, 1) := by decide +kernel
theorem dX7_does_196 : decode cX7_does 196 = .ok (.iload 4, 2) := by decide +kernel
theorem dX7_does_198 : decode cX7_does 198 = .ok (.iadd, 1) := by decide +kernel
theorem dX7_does_199 : decode cX7_does 199 = .ok (.invokevirtual 217, 3) := by decide +kernel
theorem dX7_does_202 : decode cX7_does 202 = .ok (.iconst 1, 1) := by decide +kernel
theorem dX7_does_203 : decode cX7_does 203 = .ok (.ireturn, 1) := by decide +kernel
theorem dX7_does_204 : decode cX7_does 204 = .ok (.aload_n 0, 1) := by decide +kernel
theorem dX7_does_205 : decode cX7_does 205 = .ok (.aload_n 0, 1) := by decide +kernel
theorem dX7_does_206 : decode cX7_does 206 = .ok (.getfield 23, 3) := by decide +kernel
theorem dX7_does_209 : decode cX7_does 209 = .ok (.invokevirtual 118, 3) := by decide +kernel
theorem dX7_does_212 : decode cX7_does 212 = .ok (.bipush 100, 2) := by decide +kernel
theorem dX7_does_214 : decode cX7_does 214 = .ok (.iload_n 2, 1) := by decide +kernel
theorem dX7_does_215 : decode cX7_does 215 = .ok (.imul, 1) := by decide +kernel
theorem dX7_does_216 : decode cX7_does 216 = .ok (.bipush 10, 2) := by decide +kernel
theorem dX7_does_218 : decode cX7_does 218 = .ok (.iload_n 3, 1) := by decide +kernel
theorem dX7_does_219 : decode cX7_does 219 = .ok (.imul, 1) := by decide +kernel
theorem dX7_does_220 : decode cX7_does 220 = .ok (.iadd, 1) := by decide +kernel
theorem dX7_does_221 : decode cX7_does 221 = .ok (.iload 4, 2) := by decide +kernel
theorem dX7_does_223 : decode cX7_does 223 = .ok (.iadd, 1) := by decide +kernel
theorem dX7_does_224 : decode cX7_does 224 = .ok (.if_icmp .ne 7, 3) := by decide +kernel
theorem dX7_does_227 : decode cX7_does 227 = .ok (.iconst 1, 1) := by decide +kernel
theorem dX7_does_228 : decode cX7_does 228 = .ok (.goto 4, 3) := by decide +kernel
theorem dX7_does_231 : decode cX7_does 231 = .ok (.iconst 0, 1) := by decide +kernel
theorem dX7_does_232 : decode cX7_does 232 = .ok (.ireturn, 1) := by decide +kernel
theorem dX7_does_233 : decode cX7_does 233 = .ok (.iload 6, 2) := by decide +kernel
theorem dX7_does_235 : decode cX7_does 235 = .ok (.ifCond .eq 33, 3) := by decide +kernel
theorem dX7_does_238 : decode cX7_does 238 = .ok (.iload 4, 2) := by decide +kernel
theorem dX7_does_240 : decode cX7_does 240 = .ok (.aload_n 0, 1) := by decide +kernel
theorem dX7_does_241 : decode cX7_does 241 = .ok (.getfield 13, 3) := by decide +kernel
theorem dX7_does_244 : decode cX7_does 244 = .ok (.if_icmp .ge 24, 3) := by decide +kernel
theorem dX7_does_247 : decode cX7_does 247 = .ok (.aload_n 0, 1) := by decide +kernel
theorem dX7_does_248 : decode cX7_does 248 = .ok (.aload_n 0, 1) := by decide +kernel
theorem dX7_does_249 : decode cX7_does 249 = .ok (.getfield 23, 3) := by decide +kernel
theorem dX7_does_252 : decode cX7_does 252 = .ok (.iload 5, 2) := by decide +kernel
theorem dX7_does_254 : decode cX7_does 254 = .ok (.invokevirtual 198, 3) := by decide +kernel
theorem dX7_does_257 : decode cX7_does 257 = .ok (.iconst 1, 1) := by decide +kernel
theorem dX7_does_258 : decode cX7_does 258 = .ok (.iload 4, 2) := by decide +kernel
theorem dX7_does_260 : decode cX7_does 260 = .ok (.ishl, 1) := by decide +kernel
theorem dX7_does_261 : decode cX7_does 261 = .ok (.if_icmp .ne 7, 3) := by decide +kernel
theorem dX7_does_264 : decode cX7_does 264 = .ok (.iconst 1, 1) := by decide +kernel
theorem dX7_does_265 : decode cX7_does 265 = .ok (.goto 4, 3) := by decide +kernel
theorem dX7_does_268 : decode cX7_does 268 = .ok (.iconst 0, 1) := by decide +kernel
theorem dX7_does_269 : decode cX7_does 269 = .ok (.ireturn, 1) := by decide +kernel
theorem dX7_does_270 : decode cX7_does 270 = .ok (.iload 5, 2) := by decide +kernel
theorem dX7_does_272 : decode cX7_does 272 = .ok (.ifCond .ne 30, 3) := by decide +kernel
theorem dX7_does_275 : decode cX7_does 275 = .ok (.iload 4, 2) := by decide +kernel
theorem dX7_does_277 : decode cX7_does 277 = .ok (.aload_n 0, 1) := by decide +kernel
theorem dX7_does_278 : decode cX7_does 278 = .ok (.getfield 23, 3) := by decide +kernel
theorem dX7_does_281 : decode cX7_does 281 = .ok (.iconst 1, 1) := by decide +kernel
theorem dX7_does_282 : decode cX7_does 282 = .ok (.iaload, 1) := by decide +kernel
theorem dX7_does_283 : decode cX7_does 283 = .ok (.if_icmp .ge 19, 3) := by decide +kernel
theorem dX7_does_286 : decode cX7_does 286 = .ok (.aload_n 0, 1) := by decide +kernel
theorem dX7_does_287 : decode cX7_does 287 = .ok (.getfield 23, 3) := by decide +kernel
theorem dX7_does_290 : decode cX7_does 290 = .ok (.iload 4, 2) := by decide +kernel
theorem dX7_does_292 : decode cX7_does 292 = .ok (.invokestatic 188, 3) := by decide +kernel
theorem dX7_does_295 : decode cX7_does 295 = .ok (.ifCond .eq 7, 3) := by decide +kernel
theorem dX7_does_298 : decode cX7_does 298 = .ok (.iconst 1, 1) := by decide +kernel
theorem dX7_does_299 : decode cX7_does 299 = .ok (.goto 4, 3) := by decide +kernel
theorem dX7_does_302 : decode cX7_does 302 = .ok (.iconst 0, 1) := by decide +kernel
theorem dX7_does_303 : decode cX7_does 303 = .ok (.ireturn, 1) := by decide +kernel
theorem dX7_does_304 : decode cX7_does 304 = .ok (.aload_n 0, 1) := by decide +kernel
theorem dX7_does_305 : decode cX7_does 305 = .ok (.aload_n 0, 1) := by decide +kernel
theorem dX7_does_306 : decode cX7_does 306 = .ok (.getfield 23, 3) := by decide +kernel
theorem dX7_does_309 : decode cX7_does 309 = .ok (.invokevirtual 228, 3) := by decide +kernel
theorem dX7_does_312 : decode cX7_does 312 = .ok (.istore 7, 2) := by decide +kernel
theorem dX7_does_314 : decode cX7_does 314 = .ok (.iload_n 2, 1) := by decide +kernel
theorem dX7_does_315 : decode cX7_does 315 = .ok (.ifCond .ne 30, 3) := by decide +kernel
theorem dX7_does_318 : decode cX7_does 318 = .ok (.bipush 10, 2) := by decide +kernel
theorem dX7_does_320 : decode cX7_does 320 = .ok (.iload_n 3, 1) := by decide +kernel
theorem dX7_does_321 : decode cX7_does 321 = .ok (.imul, 1) := by decide +kernel
theorem dX7_does_322 : decode cX7_does 322 = .ok (.iload 4, 2) := by decide +kernel
theorem dX7_does_324 : decode cX7_does 324 = .ok (.iadd, 1) := by decide +kernel
theorem dX7_does_325 : decode cX7_does 325 = .ok (.iload 7, 2) := by decide +kernel
theorem dX7_does_327 : decode cX7_does 327 = .ok (.bipush (-9), 2) := by decide +kernel
theorem dX7_does_329 : decode cX7_does 329 = .ok (.if_icmp .ne 7, 3) := by decide +kernel
theorem dX7_does_332 : decode cX7_does 332 = .ok (.iconst 0, 1) := by decide +kernel
theorem dX7_does_333 : decode cX7_does 333 = .ok (.goto 5, 3) := by decide +kernel
theorem dX7_does_336 : decode cX7_does 336 = .ok (.iload 7, 2) := by decide +kernel
theorem dX7_does_338 : decode cX7_does 338 = .ok (.if_icmp .ne 7, 3) := by decide +kernel
theorem dX7_does_341 : decode cX7_does 341 = .ok (.iconst 1, 1) := by decide +kernel
theorem dX7_does_342 : decode cX7_does 342 = .ok (.goto 4, 3) := by decide +kernel
theorem dX7_does_345 : decode cX7_does 345 = .ok (.iconst 0, 1) := by decide +kernel
theorem dX7_does_346 : decode cX7_does 346 = .ok (.ireturn, 1) := by decide +kernel
theorem dX7_does_347 : decode cX7_does 347 = .ok (.iconst 0, 1) := by decide +kernel
theorem dX7_does_348 : decode cX7_does 348 = .ok (.ireturn, 1) := by decide +kernel
theorem dX7_longPower_0 : decode cX7_longPower 0 = .ok (.lconst 1, 1) := by decide +kernel
theorem dX7_longPower_1 : decode cX7_longPower 1 = .ok (.lstore_n 3, 1) := by decide +kernel
theorem dX7_longPower_2 : decode cX7_longPower 2 = .ok (.iconst 0, 1) := by decide +kernel
theorem dX7_longPower_3 : decode cX7_longPower 3 = .ok (.istore 5, 2) := by decide +kernel
theorem dX7_longPower_5 : decode cX7_longPower 5 = .ok (.iload 5, 2) := by decide +kernel
theorem dX7_longPower_7 : decode cX7_longPower 7 = .ok (.iload_n 2, 1) := by decide +kernel
theorem dX7_longPower_8 : decode cX7_longPower 8 = .ok (.if_icmp .ge 13, 3) := by decide +kernel
theorem dX7_longPower_11 : decode cX7_longPower 11 = .ok (.lload_n 3, 1) := by decide +kernel
theorem dX7_longPower_12 : decode cX7_longPower 12 = .ok (.lload_n 0, 1) := by decide +kernel
theorem dX7_longPower_13 : decode cX7_longPower 13 = .ok (.lmul, 1) := by decide +kernel
theorem dX7_longPower_14 : decode cX7_longPower 14 = .ok (.lstore_n 3, 1) := by decide +kernel
theorem dX7_longPower_15 : decode cX7_longPower 15 = .ok (.iinc 5 1, 3) := by decide +kernel
theorem dX7_longPower_18 : decode cX7_longPower 18 = .ok (.goto (-13), 3) := by decide +kernel
theorem dX7_longPower_21 : decode cX7_longPower 21 = .ok (.lload_n 3, 1) := by decide +kernel
theorem dX7_longPower_22 : decode cX7_longPower 22 = .ok (.lreturn, 1) := by decide +kernel
theorem dX7_judge_0 : decode cX7_judge 0 = .ok (.aload_n 0, 1) := by decide +kernel
theorem dX7_judge_1 : decode cX7_judge 1 = .ok (.iconst 0, 1) := by decide +kernel
theorem dX7_judge_2 : decode cX7_judge 2 = .ok (.putfield 67, 3) := by decide +kernel
theorem dX7_judge_5 : decode cX7_judge 5 = .ok (.iload_n 1, 1) := by decide +kernel
theorem dX7_judge_6 : decode cX7_judge 6 = .ok (.i2l, 1) := by decide +kernel
theorem dX7_judge_7 : decode cX7_judge 7 = .ok (.lconst 1, 1) := by decide +kernel
theorem dX7_judge_8 : decode cX7_judge 8 = .ok (.ldc2_w 82, 3) := by decide +kernel
theorem dX7_judge_11 : decode cX7_judge 11 = .ok (.invokestatic 72, 3) := by decide +kernel
theorem dX7_judge_14 : decode cX7_judge 14 = .ok (.ifCond .eq 20, 3) := by decide +kernel
theorem dX7_judge_17 : decode cX7_judge 17 = .ok (.lload_n 2, 1) := by decide +kernel
theorem dX7_judge_18 : decode cX7_judge 18 = .ok (.lconst 0, 1) := by decide +kernel
theorem dX7_judge_19 : decode cX7_judge 19 = .ok (.ldc2_w 243, 3) := by decide +kernel
theorem dX7_judge_22 : decode cX7_judge 22 = .ok (.iload_n 1, 1) := by decide +kernel
theorem dX7_judge_23 : decode cX7_judge 23 = .ok (.invokestatic 245, 3) := by decide +kernel
theorem dX7_judge_26 : decode cX7_judge 26 = .ok (.lconst 1, 1) := by decide +kernel
theorem dX7_judge_27 : decode cX7_judge 27 = .ok (.lsub, 1) := by decide +kernel
theorem dX7_judge_28 : decode cX7_judge 28 = .ok (.invokestatic 72, 3) := by decide +kernel
theorem dX7_judge_31 : decode cX7_judge 31 = .ok (.ifCond .ne 6, 3) := by decide +kernel
theorem dX7_judge_34 : decode cX7_judge 34 = .ok (.bipush (-2), 2) := by decide +kernel
theorem dX7_judge_36 : decode cX7_judge 36 = .ok (.ireturn, 1) := by decide +kernel
theorem dX7_judge_37 : decode cX7_judge 37 = .ok (.aload_n 0, 1) := by decide +kernel
theorem dX7_judge_38 : decode cX7_judge 38 = .ok (.invokevirtual 208, 3) := by decide +kernel
theorem dX7_judge_41 : decode cX7_judge 41 = .ok (.iconst 0, 1) := by decide +kernel
theorem dX7_judge_42 : decode cX7_judge 42 = .ok (.istore 4, 2) := by decide +kernel
theorem dX7_judge_44 : decode cX7_judge 44 = .ok (.iload 4, 2) := by decide +kernel
theorem dX7_judge_46 : decode cX7_judge 46 = .ok (.iload_n 1, 1) := by decide +kernel
theorem dX7_judge_47 : decode cX7_judge 47 = .ok (.if_icmp .ge 67, 3) := by decide +kernel
theorem dX7_judge_50 : decode cX7_judge 50 = .ok (.lload_n 2, 1) := by decide +kernel
theorem dX7_judge_51 : decode cX7_judge 51 = .ok (.ldc2_w 243, 3) := by decide +kernel
theorem dX7_judge_54 : decode cX7_judge 54 = .ok (.iload_n 1, 1) := by decide +kernel
theorem dX7_judge_55 : decode cX7_judge 55 = .ok (.iconst 1, 1) := by decide +kernel
theorem dX7_judge_56 : decode cX7_judge 56 = .ok (.isub, 1) := by decide +kernel
theorem dX7_judge_57 : decode cX7_judge 57 = .ok (.iload 4, 2) := by decide +kernel
theorem dX7_judge_59 : decode cX7_judge 59 = .ok (.isub, 1) := by decide +kernel
theorem dX7_judge_60 : decode cX7_judge 60 = .ok (.invokestatic 245, 3) := by decide +kernel
theorem dX7_judge_63 : decode cX7_judge 63 = .ok (.ldiv, 1) := by decide +kernel
theorem dX7_judge_64 : decode cX7_judge 64 = .ok (.ldc2_w 243, 3) := by decide +kernel
theorem dX7_judge_67 : decode cX7_judge 67 = .ok (.lrem, 1) := by decide +kernel
theorem dX7_judge_68 : decode cX7_judge 68 = .ok (.l2i, 1) := by decide +kernel
theorem dX7_judge_69 : decode cX7_judge 69 = .ok (.istore 5, 2) := by decide +kernel
theorem dX7_judge_71 : decode cX7_judge 71 = .ok (.aload_n 0, 1) := by decide +kernel
theorem dX7_judge_72 : decode cX7_judge 72 = .ok (.iload 5, 2) := by decide +kernel
theorem dX7_judge_74 : decode cX7_judge 74 = .ok (.sipush 1000, 3) := by decide +kernel
theorem dX7_judge_77 : decode cX7_judge 77 = .ok (.idiv, 1) := by decide +kernel
theorem dX7_judge_78 : decode cX7_judge 78 = .ok (.iload 5, 2) := by decide +kernel
theorem dX7_judge_80 : decode cX7_judge 80 = .ok (.bipush 100, 2) := by decide +kernel
theorem dX7_judge_82 : decode cX7_judge 82 = .ok (.idiv, 1) := by decide +kernel
theorem dX7_judge_83 : decode cX7_judge 83 = .ok (.bipush 10, 2) := by decide +kernel
theorem dX7_judge_85 : decode cX7_judge 85 = .ok (.irem, 1) := by decide +kernel
theorem dX7_judge_86 : decode cX7_judge 86 = .ok (.iload 5, 2) := by decide +kernel
theorem dX7_judge_88 : decode cX7_judge 88 = .ok (.bipush 10, 2) := by decide +kernel
theorem dX7_judge_90 : decode cX7_judge 90 = .ok (.idiv, 1) := by decide +kernel
theorem dX7_judge_91 : decode cX7_judge 91 = .ok (.bipush 10, 2) := by decide +kernel
theorem dX7_judge_93 : decode cX7_judge 93 = .ok (.irem, 1) := by decide +kernel
theorem dX7_judge_94 : decode cX7_judge 94 = .ok (.iload 5, 2) := by decide +kernel
theorem dX7_judge_96 : decode cX7_judge 96 = .ok (.bipush 10, 2) := by decide +kernel
theorem dX7_judge_98 : decode cX7_judge 98 = .ok (.irem, 1) := by decide +kernel
theorem dX7_judge_99 : decode cX7_judge 99 = .ok (.invokevirtual 249, 3) := by decide +kernel
theorem dX7_judge_102 : decode cX7_judge 102 = .ok (.ifCond .ne 6, 3) := by decide +kernel
theorem dX7_judge_105 : decode cX7_judge 105 = .ok (.iload 4, 2) := by decide +kernel
theorem dX7_judge_107 : decode cX7_judge 107 = .ok (.ireturn, 1) := by decide +kernel
theorem dX7_judge_108 : decode cX7_judge 108 = .ok (.iinc 4 1, 3) := by decide +kernel
theorem dX7_judge_111 : decode cX7_judge 111 = .ok (.goto (-67), 3) := by decide +kernel
theorem dX7_judge_114 : decode cX7_judge 114 = .ok (.bipush (-9), 2) := by decide +kernel
theorem dX7_judge_116 : decode cX7_judge 116 = .ok (.ireturn, 1) := by decide +kernel
theorem dX7_see_0 : decode cX7_see 0 = .ok (.aload_n 0, 1) := by decide +kernel
theorem dX7_see_1 : decode cX7_see 1 = .ok (.iconst 0, 1) := by decide +kernel
theorem dX7_see_2 : decode cX7_see 2 = .ok (.putfield 67, 3) := by decide +kernel
theorem dX7_see_5 : decode cX7_see 5 = .ok (.iload_n 1, 1) := by decide +kernel
theorem dX7_see_6 : decode cX7_see 6 = .ok (.i2l, 1) := by decide +kernel
theorem dX7_see_7 : decode cX7_see 7 = .ok (.lconst 1, 1) := by decide +kernel
theorem dX7_see_8 : decode cX7_see 8 = .ok (.ldc2_w 215, 3) := by decide +kernel
theorem dX7_see_11 : decode cX7_see 11 = .ok (.invokestatic 72, 3) := by decide +kernel
theorem dX7_see_14 : decode cX7_see 14 = .ok (.ifCond .eq 30, 3) := by decide +kernel
theorem dX7_see_17 : decode cX7_see 17 = .ok (.iload_n 2, 1) := by decide +kernel
theorem dX7_see_18 : decode cX7_see 18 = .ok (.i2l, 1) := by decide +kernel
theorem dX7_see_19 : decode cX7_see 19 = .ok (.lconst 1, 1) := by decide +kernel
theorem dX7_see_20 : decode cX7_see 20 = .ok (.ldc2_w 215, 3) := by decide +kernel
theorem dX7_see_23 : decode cX7_see 23 = .ok (.invokestatic 72, 3) := by decide +kernel
theorem dX7_see_26 : decode cX7_see 26 = .ok (.ifCond .eq 18, 3) := by decide +kernel
theorem dX7_see_29 : decode cX7_see 29 = .ok (.iload_n 1, 1) := by decide +kernel
theorem dX7_see_30 : decode cX7_see 30 = .ok (.iload_n 2, 1) := by decide +kernel
theorem dX7_see_31 : decode cX7_see 31 = .ok (.if_icmp .eq 13, 3) := by decide +kernel
theorem dX7_see_34 : decode cX7_see 34 = .ok (.iload_n 3, 1) := by decide +kernel
theorem dX7_see_35 : decode cX7_see 35 = .ok (.i2l, 1) := by decide +kernel
theorem dX7_see_36 : decode cX7_see 36 = .ok (.lconst 0, 1) := by decide +kernel
theorem dX7_see_37 : decode cX7_see 37 = .ok (.lconst 1, 1) := by decide +kernel
theorem dX7_see_38 : decode cX7_see 38 = .ok (.invokestatic 72, 3) := by decide +kernel
theorem dX7_see_41 : decode cX7_see 41 = .ok (.ifCond .ne 6, 3) := by decide +kernel
theorem dX7_see_44 : decode cX7_see 44 = .ok (.bipush (-2), 2) := by decide +kernel
theorem dX7_see_46 : decode cX7_see 46 = .ok (.ireturn, 1) := by decide +kernel
theorem dX7_see_47 : decode cX7_see 47 = .ok (.aload_n 0, 1) := by decide +kernel
theorem dX7_see_48 : decode cX7_see 48 = .ok (.getfield 253, 3) := by decide +kernel
theorem dX7_see_51 : decode cX7_see 51 = .ok (.bipush 6, 2) := by decide +kernel
theorem dX7_see_53 : decode cX7_see 53 = .ok (.if_icmp .ne 6, 3) := by decide +kernel
theorem dX7_see_56 : decode cX7_see 56 = .ok (.bipush (-4), 2) := by decide +kernel
theorem dX7_see_58 : decode cX7_see 58 = .ok (.ireturn, 1) := by decide +kernel
theorem dX7_see_59 : decode cX7_see 59 = .ok (.aload_n 0, 1) := by decide +kernel
theorem dX7_see_60 : decode cX7_see 60 = .ok (.getfield 36, 3) := by decide +kernel
theorem dX7_see_63 : decode cX7_see 63 = .ok (.aload_n 0, 1) := by decide +kernel
theorem dX7_see_64 : decode cX7_see 64 = .ok (.getfield 253, 3) := by decide +kernel
theorem dX7_see_67 : decode cX7_see 67 = .ok (.iload_n 1, 1) := by decide +kernel
theorem dX7_see_68 : decode cX7_see 68 = .ok (.iastore, 1) := by decide +kernel
theorem dX7_see_69 : decode cX7_see 69 = .ok (.aload_n 0, 1) := by decide +kernel
theorem dX7_see_70 : decode cX7_see 70 = .ok (.getfield 39, 3) := by decide +kernel
theorem dX7_see_73 : decode cX7_see 73 = .ok (.aload_n 0, 1) := by decide +kernel
theorem dX7_see_74 : decode cX7_see 74 = .ok (.getfield 253, 3) := by decide +kernel
theorem dX7_see_77 : decode cX7_see 77 = .ok (.iload_n 2, 1) := by decide +kernel
theorem dX7_see_78 : decode cX7_see 78 = .ok (.iastore, 1) := by decide +kernel
theorem dX7_see_79 : decode cX7_see 79 = .ok (.aload_n 0, 1) := by decide +kernel
theorem dX7_see_80 : decode cX7_see 80 = .ok (.getfield 42, 3) := by decide +kernel
theorem dX7_see_83 : decode cX7_see 83 = .ok (.aload_n 0, 1) := by decide +kernel
theorem dX7_see_84 : decode cX7_see 84 = .ok (.getfield 253, 3) := by decide +kernel
theorem dX7_see_87 : decode cX7_see 87 = .ok (.iload_n 3, 1) := by decide +kernel
theorem dX7_see_88 : decode cX7_see 88 = .ok (.iastore, 1) := by decide +kernel
theorem dX7_see_89 : decode cX7_see 89 = .ok (.aload_n 0, 1) := by decide +kernel
theorem dX7_see_90 : decode cX7_see 90 = .ok (.dup, 1) := by decide +kernel
theorem dX7_see_91 : decode cX7_see 91 = .ok (.getfield 253, 3) := by decide +kernel
theorem dX7_see_94 : decode cX7_see 94 = .ok (.iconst 1, 1) := by decide +kernel
theorem dX7_see_95 : decode cX7_see 95 = .ok (.iadd, 1) := by decide +kernel
theorem dX7_see_96 : decode cX7_see 96 = .ok (.putfield 253, 3) := by decide +kernel
theorem dX7_see_99 : decode cX7_see 99 = .ok (.aload_n 0, 1) := by decide +kernel
theorem dX7_see_100 : decode cX7_see 100 = .ok (.getfield 253, 3) := by decide +kernel
theorem dX7_see_103 : decode cX7_see 103 = .ok (.ireturn, 1) := by decide +kernel
theorem dX7_unsee_0 : decode cX7_unsee 0 = .ok (.aload_n 0, 1) := by decide +kernel
theorem dX7_unsee_1 : decode cX7_unsee 1 = .ok (.iconst 0, 1) := by decide +kernel
theorem dX7_unsee_2 : decode cX7_unsee 2 = .ok (.putfield 67, 3) := by decide +kernel
theorem dX7_unsee_5 : decode cX7_unsee 5 = .ok (.aload_n 0, 1) := by decide +kernel
theorem dX7_unsee_6 : decode cX7_unsee 6 = .ok (.getfield 253, 3) := by decide +kernel
theorem dX7_unsee_9 : decode cX7_unsee 9 = .ok (.istore_n 1, 1) := by decide +kernel
theorem dX7_unsee_10 : decode cX7_unsee 10 = .ok (.aload_n 0, 1) := by decide +kernel
theorem dX7_unsee_11 : decode cX7_unsee 11 = .ok (.iconst 0, 1) := by decide +kernel
theorem dX7_unsee_12 : decode cX7_unsee 12 = .ok (.putfield 253, 3) := by decide +kernel
theorem dX7_unsee_15 : decode cX7_unsee 15 = .ok (.iload_n 1, 1) := by decide +kernel
theorem dX7_unsee_16 : decode cX7_unsee 16 = .ok (.ireturn, 1) := by decide +kernel
theorem dX7_which_0 : decode cX7_which 0 = .ok (.aload_n 0, 1) := by decide +kernel
theorem dX7_which_1 : decode cX7_which 1 = .ok (.iconst 0, 1) := by decide +kernel
theorem dX7_which_2 : decode cX7_which 2 = .ok (.putfield 67, 3) := by decide +kernel
theorem dX7_which_5 : decode cX7_which 5 = .ok (.iload_n 1, 1) := by decide +kernel
theorem dX7_which_6 : decode cX7_which 6 = .ok (.i2l, 1) := by decide +kernel
theorem dX7_which_7 : decode cX7_which 7 = .ok (.lconst 0, 1) := by decide +kernel
theorem dX7_which_8 : decode cX7_which 8 = .ok (.lconst 1, 1) := by decide +kernel
theorem dX7_which_9 : decode cX7_which 9 = .ok (.invokestatic 72, 3) := by decide +kernel
theorem dX7_which_12 : decode cX7_which 12 = .ok (.ifCond .ne 6, 3) := by decide +kernel
theorem dX7_which_15 : decode cX7_which 15 = .ok (.bipush (-2), 2) := by decide +kernel
theorem dX7_which_17 : decode cX7_which 17 = .ok (.ireturn, 1) := by decide +kernel
theorem dX7_which_18 : decode cX7_which 18 = .ok (.iconst 0, 1) := by decide +kernel
theorem dX7_which_19 : decode cX7_which 19 = .ok (.istore_n 2, 1) := by decide +kernel
theorem dX7_which_20 : decode cX7_which 20 = .ok (.bipush (-9), 2) := by decide +kernel
theorem dX7_which_22 : decode cX7_which 22 = .ok (.istore_n 3, 1) := by decide +kernel
theorem dX7_which_23 : decode cX7_which 23 = .ok (.iconst 0, 1) := by decide +kernel
theorem dX7_which_24 : decode cX7_which 24 = .ok (.istore 4, 2) := by decide +kernel
theorem dX7_which_26 : decode cX7_which 26 = .ok (.aload_n 0, 1) := by decide +kernel
theorem dX7_which_27 : decode cX7_which 27 = .ok (.aload_n 0, 1) := by decide +kernel
theorem dX7_which_28 : decode cX7_which 28 = .ok (.getfield 20, 3) := by decide +kernel
theorem dX7_which_31 : decode cX7_which 31 = .ok (.invokevirtual 171, 3) := by decide +kernel
theorem dX7_which_34 : decode cX7_which 34 = .ok (.aload_n 0, 1) := by decide +kernel
theorem dX7_which_35 : decode cX7_which 35 = .ok (.invokevirtual 164, 3) := by decide +kernel
theorem dX7_which_38 : decode cX7_which 38 = .ok (.ifCond .eq 162, 3) := by decide +kernel
theorem dX7_which_41 : decode cX7_which 41 = .ok (.iconst 1, 1) := by decide +kernel
theorem dX7_which_42 : decode cX7_which 42 = .ok (.istore 5, 2) := by decide +kernel
theorem dX7_which_44 : decode cX7_which 44 = .ok (.iconst 0, 1) := by decide +kernel
theorem dX7_which_45 : decode cX7_which 45 = .ok (.istore 6, 2) := by decide +kernel
theorem dX7_which_47 : decode cX7_which 47 = .ok (.iload 6, 2) := by decide +kernel
theorem dX7_which_49 : decode cX7_which 49 = .ok (.aload_n 0, 1) := by decide +kernel
theorem dX7_which_50 : decode cX7_which 50 = .ok (.getfield 253, 3) := by decide +kernel
theorem dX7_which_53 : decode cX7_which 53 = .ok (.if_icmp .ge 112, 3) := by decide +kernel
theorem dX7_which_56 : decode cX7_which 56 = .ok (.aload_n 0, 1) := by decide +kernel
theorem dX7_which_57 : decode cX7_which 57 = .ok (.getfield 36, 3) := by decide +kernel
theorem dX7_which_60 : decode cX7_which 60 = .ok (.iload 6, 2) := by decide +kernel
theorem dX7_which_62 : decode cX7_which 62 = .ok (.iaload, 1) := by decide +kernel
theorem dX7_which_63 : decode cX7_which 63 = .ok (.aload_n 0, 1) := by decide +kernel
theorem dX7_which_64 : decode cX7_which 64 = .ok (.getfield 142, 3) := by decide +kernel
theorem dX7_which_67 : decode cX7_which 67 = .ok (.if_icmp .gt 21, 3) := by decide +kernel
theorem dX7_which_70 : decode cX7_which 70 = .ok (.aload_n 0, 1) := by decide +kernel
theorem dX7_which_71 : decode cX7_which 71 = .ok (.getfield 39, 3) := by decide +kernel
theorem dX7_which_74 : decode cX7_which 74 = .ok (.iload 6, 2) := by decide +kernel
theorem dX7_which_76 : decode cX7_which 76 = .ok (.iaload, 1) := by decide +kernel
theorem dX7_which_77 : decode cX7_which 77 = .ok (.aload_n 0, 1) := by decide +kernel
theorem dX7_which_78 : decode cX7_which 78 = .ok (.getfield 142, 3) := by decide +kernel
theorem dX7_which_81 : decode cX7_which 81 = .ok (.if_icmp .gt 7, 3) := by decide +kernel
theorem dX7_which_84 : decode cX7_which 84 = .ok (.iconst 1, 1) := by decide +kernel
theorem dX7_which_85 : decode cX7_which 85 = .ok (.goto 4, 3) := by decide +kernel
theorem dX7_which_88 : decode cX7_which 88 = .ok (.iconst 0, 1) := by decide +kernel
theorem dX7_which_89 : decode cX7_which 89 = .ok (.istore 7, 2) := by decide +kernel
theorem dX7_which_91 : decode cX7_which 91 = .ok (.iload 5, 2) := by decide +kernel
theorem dX7_which_93 : decode cX7_which 93 = .ok (.ifCond .eq 63, 3) := by decide +kernel
theorem dX7_which_96 : decode cX7_which 96 = .ok (.iload 7, 2) := by decide +kernel
theorem dX7_which_98 : decode cX7_which 98 = .ok (.ifCond .eq 54, 3) := by decide +kernel
theorem dX7_which_101 : decode cX7_which 101 = .ok (.aload_n 0, 1) := by decide +kernel
theorem dX7_which_102 : decode cX7_which 102 = .ok (.getfield 51, 3) := by decide +kernel
theorem dX7_which_105 : decode cX7_which 105 = .ok (.aload_n 0, 1) := by decide +kernel
theorem dX7_which_106 : decode cX7_which 106 = .ok (.getfield 36, 3) := by decide +kernel
theorem dX7_which_109 : decode cX7_which 109 = .ok (.iload 6, 2) := by decide +kernel
theorem dX7_which_111 : decode cX7_which 111 = .ok (.iaload, 1) := by decide +kernel
theorem dX7_which_112 : decode cX7_which 112 = .ok (.iaload, 1) := by decide +kernel
theorem dX7_which_113 : decode cX7_which 113 = .ok (.aload_n 0, 1) := by decide +kernel
theorem dX7_which_114 : decode cX7_which 114 = .ok (.getfield 51, 3) := by decide +kernel
theorem dX7_which_117 : decode cX7_which 117 = .ok (.aload_n 0, 1) := by decide +kernel
theorem dX7_which_118 : decode cX7_which 118 = .ok (.getfield 39, 3) := by decide +kernel
theorem dX7_which_121 : decode cX7_which 121 = .ok (.iload 6, 2) := by decide +kernel
theorem dX7_which_123 : decode cX7_which 123 = .ok (.iaload, 1) := by decide +kernel
theorem dX7_which_124 : decode cX7_which 124 = .ok (.iaload, 1) := by decide +kernel
theorem dX7_which_125 : decode cX7_which 125 = .ok (.if_icmp .ne 7, 3) := by decide +kernel
theorem dX7_which_128 : decode cX7_which 128 = .ok (.iconst 1, 1) := by decide +kernel
theorem dX7_which_129 : decode cX7_which 129 = .ok (.goto 4, 3) := by decide +kernel
theorem dX7_which_132 : decode cX7_which 132 = .ok (.iconst 0, 1) := by decide +kernel
theorem dX7_which_133 : decode cX7_which 133 = .ok (.aload_n 0, 1) := by decide +kernel
theorem dX7_which_134 : decode cX7_which 134 = .ok (.getfield 42, 3) := by decide +kernel
theorem dX7_which_137 : decode cX7_which 137 = .ok (.iload 6, 2) := by decide +kernel
theorem dX7_which_139 : decode cX7_which 139 = .ok (.iaload, 1) := by decide +kernel
theorem dX7_which_140 : decode cX7_which 140 = .ok (.iconst 1, 1) := by decide +kernel
theorem dX7_which_141 : decode cX7_which 141 = .ok (.if_icmp .ne 7, 3) := by decide +kernel
theorem dX7_which_144 : decode cX7_which 144 = .ok (.iconst 1, 1) := by decide +kernel
theorem dX7_which_145 : decode cX7_which 145 = .ok (.goto 4, 3) := by decide +kernel
theorem dX7_which_148 : decode cX7_which 148 = .ok (.iconst 0, 1) := by decide +kernel
theorem dX7_which_149 : decode cX7_which 149 = .ok (.if_icmp .ne 7, 3) := by decide +kernel
theorem dX7_which_152 : decode cX7_which 152 = .ok (.iconst 1, 1) := by decide +kernel
theorem dX7_which_153 : decode cX7_which 153 = .ok (.goto 4, 3) := by decide +kernel
theorem dX7_which_156 : decode cX7_which 156 = .ok (.iconst 0, 1) := by decide +kernel
theorem dX7_which_157 : decode cX7_which 157 = .ok (.istore 5, 2) := by decide +kernel
theorem dX7_which_159 : decode cX7_which 159 = .ok (.iinc 6 1, 3) := by decide +kernel
theorem dX7_which_162 : decode cX7_which 162 = .ok (.goto (-115), 3) := by decide +kernel
theorem dX7_which_165 : decode cX7_which 165 = .ok (.iload 5, 2) := by decide +kernel
theorem dX7_which_167 : decode cX7_which 167 = .ok (.ifCond .eq 12, 3) := by decide +kernel
theorem dX7_which_170 : decode cX7_which 170 = .ok (.iload_n 2, 1) := by decide +kernel
theorem dX7_which_171 : decode cX7_which 171 = .ok (.ifCond .ne 8, 3) := by decide +kernel
theorem dX7_which_174 : decode cX7_which 174 = .ok (.iload 4, 2) := by decide +kernel
theorem dX7_which_176 : decode cX7_which 176 = .ok (.goto 4, 3) := by decide +kernel
theorem dX7_which_179 : decode cX7_which 179 = .ok (.iload_n 3, 1) := by decide +kernel
theorem dX7_which_180 : decode cX7_which 180 = .ok (.istore_n 3, 1) := by decide +kernel
theorem dX7_which_181 : decode cX7_which 181 = .ok (.iload_n 2, 1) := by decide +kernel
theorem dX7_which_182 : decode cX7_which 182 = .ok (.iload 5, 2) := by decide +kernel
theorem dX7_which_184 : decode cX7_which 184 = .ok (.ifCond .eq 7, 3) := by decide +kernel
theorem dX7_which_187 : decode cX7_which 187 = .ok (.iconst 1, 1) := by decide +kernel
theorem dX7_which_188 : decode cX7_which 188 = .ok (.goto 4, 3) := by decide +kernel
theorem dX7_which_191 : decode cX7_which 191 = .ok (.iconst 0, 1) := by decide +kernel
theorem dX7_which_192 : decode cX7_which 192 = .ok (.iadd, 1) := by decide +kernel
theorem dX7_which_193 : decode cX7_which 193 = .ok (.istore_n 2, 1) := by decide +kernel
theorem dX7_which_194 : decode cX7_which 194 = .ok (.iinc 4 1, 3) := by decide +kernel
theorem dX7_which_197 : decode cX7_which 197 = .ok (.goto (-163), 3) := by decide +kernel
theorem dX7_which_200 : decode cX7_which 200 = .ok (.iload_n 1, 1) := by decide +kernel
theorem dX7_which_201 : decode cX7_which 201 = .ok (.ifCond .ne 7, 3) := by decide +kernel
theorem dX7_which_204 : decode cX7_which 204 = .ok (.iload_n 2, 1) := by decide +kernel
theorem dX7_which_205 : decode cX7_which 205 = .ok (.goto 4, 3) := by decide +kernel
theorem dX7_which_208 : decode cX7_which 208 = .ok (.iload_n 3, 1) := by decide +kernel
theorem dX7_which_209 : decode cX7_which 209 = .ok (.ireturn, 1) := by decide +kernel
theorem dX7_divisor_0 : decode cX7_divisor 0 = .ok (.iload_n 0, 1) := by decide +kernel
theorem dX7_divisor_1 : decode cX7_divisor 1 = .ok (.ifCond .ge 8, 3) := by decide +kernel
theorem dX7_divisor_4 : decode cX7_divisor 4 = .ok (.iload_n 0, 1) := by decide +kernel
theorem dX7_divisor_5 : decode cX7_divisor 5 = .ok (.ineg, 1) := by decide +kernel
theorem dX7_divisor_6 : decode cX7_divisor 6 = .ok (.goto 4, 3) := by decide +kernel
theorem dX7_divisor_9 : decode cX7_divisor 9 = .ok (.iload_n 0, 1) := by decide +kernel
theorem dX7_divisor_10 : decode cX7_divisor 10 = .ok (.istore_n 2, 1) := by decide +kernel
theorem dX7_divisor_11 : decode cX7_divisor 11 = .ok (.iload_n 1, 1) := by decide +kernel
theorem dX7_divisor_12 : decode cX7_divisor 12 = .ok (.istore_n 3, 1) := by decide +kernel
theorem dX7_divisor_13 : decode cX7_divisor 13 = .ok (.iload_n 3, 1) := by decide +kernel
theorem dX7_divisor_14 : decode cX7_divisor 14 = .ok (.ifCond .eq 16, 3) := by decide +kernel
theorem dX7_divisor_17 : decode cX7_divisor 17 = .ok (.iload_n 2, 1) := by decide +kernel
theorem dX7_divisor_18 : decode cX7_divisor 18 = .ok (.iload_n 3, 1) := by decide +kernel
theorem dX7_divisor_19 : decode cX7_divisor 19 = .ok (.irem, 1) := by decide +kernel
theorem dX7_divisor_20 : decode cX7_divisor 20 = .ok (.istore 4, 2) := by decide +kernel
theorem dX7_divisor_22 : decode cX7_divisor 22 = .ok (.iload_n 3, 1) := by decide +kernel
theorem dX7_divisor_23 : decode cX7_divisor 23 = .ok (.istore_n 2, 1) := by decide +kernel
theorem dX7_divisor_24 : decode cX7_divisor 24 = .ok (.iload 4, 2) := by decide +kernel
theorem dX7_divisor_26 : decode cX7_divisor 26 = .ok (.istore_n 3, 1) := by decide +kernel
theorem dX7_divisor_27 : decode cX7_divisor 27 = .ok (.goto (-14), 3) := by decide +kernel
theorem dX7_divisor_30 : decode cX7_divisor 30 = .ok (.iload_n 2, 1) := by decide +kernel
theorem dX7_divisor_31 : decode cX7_divisor 31 = .ok (.ireturn, 1) := by decide +kernel
theorem dX7_fraction_0 : decode cX7_fraction 0 = .ok (.iload_n 0, 1) := by decide +kernel
theorem dX7_fraction_1 : decode cX7_fraction 1 = .ok (.iload_n 1, 1) := by decide +kernel
theorem dX7_fraction_2 : decode cX7_fraction 2 = .ok (.invokestatic 256, 3) := by decide +kernel
theorem dX7_fraction_5 : decode cX7_fraction 5 = .ok (.istore_n 3, 1) := by decide +kernel
theorem dX7_fraction_6 : decode cX7_fraction 6 = .ok (.iload_n 2, 1) := by decide +kernel
theorem dX7_fraction_7 : decode cX7_fraction 7 = .ok (.ifCond .eq 9, 3) := by decide +kernel
theorem dX7_fraction_10 : decode cX7_fraction 10 = .ok (.iload_n 0, 1) := by decide +kernel
theorem dX7_fraction_11 : decode cX7_fraction 11 = .ok (.iload_n 3, 1) := by decide +kernel
theorem dX7_fraction_12 : decode cX7_fraction 12 = .ok (.idiv, 1) := by decide +kernel
theorem dX7_fraction_13 : decode cX7_fraction 13 = .ok (.goto 6, 3) := by decide +kernel
theorem dX7_fraction_16 : decode cX7_fraction 16 = .ok (.iload_n 1, 1) := by decide +kernel
theorem dX7_fraction_17 : decode cX7_fraction 17 = .ok (.iload_n 3, 1) := by decide +kernel
theorem dX7_fraction_18 : decode cX7_fraction 18 = .ok (.idiv, 1) := by decide +kernel
theorem dX7_fraction_19 : decode cX7_fraction 19 = .ok (.ireturn, 1) := by decide +kernel
theorem dX7_factorial_0 : decode cX7_factorial 0 = .ok (.iconst 1, 1) := by decide +kernel
theorem dX7_factorial_1 : decode cX7_factorial 1 = .ok (.istore_n 1, 1) := by decide +kernel
theorem dX7_factorial_2 : decode cX7_factorial 2 = .ok (.iconst 2, 1) := by decide +kernel
theorem dX7_factorial_3 : decode cX7_factorial 3 = .ok (.istore_n 2, 1) := by decide +kernel
theorem dX7_factorial_4 : decode cX7_factorial 4 = .ok (.iload_n 2, 1) := by decide +kernel
theorem dX7_factorial_5 : decode cX7_factorial 5 = .ok (.iload_n 0, 1) := by decide +kernel
theorem dX7_factorial_6 : decode cX7_factorial 6 = .ok (.if_icmp .gt 13, 3) := by decide +kernel
theorem dX7_factorial_9 : decode cX7_factorial 9 = .ok (.iload_n 1, 1) := by decide +kernel
theorem dX7_factorial_10 : decode cX7_factorial 10 = .ok (.iload_n 2, 1) := by decide +kernel
theorem dX7_factorial_11 : decode cX7_factorial 11 = .ok (.imul, 1) := by decide +kernel
theorem dX7_factorial_12 : decode cX7_factorial 12 = .ok (.istore_n 1, 1) := by decide +kernel
theorem dX7_factorial_13 : decode cX7_factorial 13 = .ok (.iinc 2 1, 3) := by decide +kernel
theorem dX7_factorial_16 : decode cX7_factorial 16 = .ok (.goto (-12), 3) := by decide +kernel
theorem dX7_factorial_19 : decode cX7_factorial 19 = .ok (.iload_n 1, 1) := by decide +kernel
theorem dX7_factorial_20 : decode cX7_factorial 20 = .ok (.ireturn, 1) := by decide +kernel
theorem dX7_share_0 : decode cX7_share 0 = .ok (.aload_n 0, 1) := by decide +kernel
theorem dX7_share_1 : decode cX7_share 1 = .ok (.iconst 0, 1) := by decide +kernel
theorem dX7_share_2 : decode cX7_share 2 = .ok (.putfield 67, 3) := by decide +kernel
theorem dX7_share_5 : decode cX7_share 5 = .ok (.aload_n 0, 1) := by decide +kernel
theorem dX7_share_6 : decode cX7_share 6 = .ok (.iload_n 1, 1) := by decide +kernel
theorem dX7_share_7 : decode cX7_share 7 = .ok (.invokevirtual 185, 3) := by decide +kernel
theorem dX7_share_10 : decode cX7_share 10 = .ok (.ifCond .eq 5, 3) := by decide +kernel
theorem dX7_share_13 : decode cX7_share 13 = .ok (.iconst (-1), 1) := by decide +kernel
theorem dX7_share_14 : decode cX7_share 14 = .ok (.ireturn, 1) := by decide +kernel
theorem dX7_share_15 : decode cX7_share 15 = .ok (.aload_n 0, 1) := by decide +kernel
theorem dX7_share_16 : decode cX7_share 16 = .ok (.getfield 20, 3) := by decide +kernel
theorem dX7_share_19 : decode cX7_share 19 = .ok (.iconst 1, 1) := by decide +kernel
theorem dX7_share_20 : decode cX7_share 20 = .ok (.iaload, 1) := by decide +kernel
theorem dX7_share_21 : decode cX7_share 21 = .ok (.istore_n 3, 1) := by decide +kernel
theorem dX7_share_22 : decode cX7_share 22 = .ok (.iconst 0, 1) := by decide +kernel
theorem dX7_share_23 : decode cX7_share 23 = .ok (.istore 4, 2) := by decide +kernel
theorem dX7_share_25 : decode cX7_share 25 = .ok (.iconst 0, 1) := by decide +kernel
theorem dX7_share_26 : decode cX7_share 26 = .ok (.istore 5, 2) := by decide +kernel
theorem dX7_share_28 : decode cX7_share 28 = .ok (.iload 5, 2) := by decide +kernel
theorem dX7_share_30 : decode cX7_share 30 = .ok (.iconst 1, 1) := by decide +kernel
theorem dX7_share_31 : decode cX7_share 31 = .ok (.iload_n 3, 1) := by decide +kernel
theorem dX7_share_32 : decode cX7_share 32 = .ok (.ishl, 1) := by decide +kernel
theorem dX7_share_33 : decode cX7_share 33 = .ok (.if_icmp .ge 71, 3) := by decide +kernel
theorem dX7_share_36 : decode cX7_share 36 = .ok (.iload 5, 2) := by decide +kernel
theorem dX7_share_38 : decode cX7_share 38 = .ok (.iload_n 1, 1) := by decide +kernel
theorem dX7_share_39 : decode cX7_share 39 = .ok (.invokestatic 122, 3) := by decide +kernel
theorem dX7_share_42 : decode cX7_share 42 = .ok (.ifCond .ne 56, 3) := by decide +kernel
theorem dX7_share_45 : decode cX7_share 45 = .ok (.iload 5, 2) := by decide +kernel
theorem dX7_share_47 : decode cX7_share 47 = .ok (.invokestatic 201, 3) := by decide +kernel
theorem dX7_share_50 : decode cX7_share 50 = .ok (.istore 6, 2) := by decide +kernel
theorem dX7_share_52 : decode cX7_share 52 = .ok (.iload 4, 2) := by decide +kernel
theorem dX7_share_54 : decode cX7_share 54 = .ok (.iload 6, 2) := by decide +kernel
theorem dX7_share_56 : decode cX7_share 56 = .ok (.invokestatic 259, 3) := by decide +kernel
theorem dX7_share_59 : decode cX7_share 59 = .ok (.iload_n 3, 1) := by decide +kernel
theorem dX7_share_60 : decode cX7_share 60 = .ok (.iconst 1, 1) := by decide +kernel
theorem dX7_share_61 : decode cX7_share 61 = .ok (.isub, 1) := by decide +kernel
theorem dX7_share_62 : decode cX7_share 62 = .ok (.iload 6, 2) := by decide +kernel
theorem dX7_share_64 : decode cX7_share 64 = .ok (.isub, 1) := by decide +kernel
theorem dX7_share_65 : decode cX7_share 65 = .ok (.invokestatic 259, 3) := by decide +kernel
theorem dX7_share_68 : decode cX7_share 68 = .ok (.imul, 1) := by decide +kernel
theorem dX7_share_69 : decode cX7_share 69 = .ok (.aload_n 0, 1) := by decide +kernel
theorem dX7_share_70 : decode cX7_share 70 = .ok (.aload_n 0, 1) := by decide +kernel
theorem dX7_share_71 : decode cX7_share 71 = .ok (.getfield 20, 3) := by decide +kernel
theorem dX7_share_74 : decode cX7_share 74 = .ok (.iload 5, 2) := by decide +kernel
theorem dX7_share_76 : decode cX7_share 76 = .ok (.invokevirtual 167, 3) := by decide +kernel
theorem dX7_share_79 : decode cX7_share 79 = .ok (.aload_n 0, 1) := by decide +kernel
theorem dX7_share_80 : decode cX7_share 80 = .ok (.aload_n 0, 1) := by decide +kernel
theorem dX7_share_81 : decode cX7_share 81 = .ok (.getfield 20, 3) := by decide +kernel
theorem dX7_share_84 : decode cX7_share 84 = .ok (.iload 5, 2) := by decide +kernel
theorem dX7_share_86 : decode cX7_share 86 = .ok (.iconst 1, 1) := by decide +kernel
theorem dX7_share_87 : decode cX7_share 87 = .ok (.iload_n 1, 1) := by decide +kernel
theorem dX7_share_88 : decode cX7_share 88 = .ok (.ishl, 1) := by decide +kernel
theorem dX7_share_89 : decode cX7_share 89 = .ok (.ior, 1) := by decide +kernel
theorem dX7_share_90 : decode cX7_share 90 = .ok (.invokevirtual 167, 3) := by decide +kernel
theorem dX7_share_93 : decode cX7_share 93 = .ok (.isub, 1) := by decide +kernel
theorem dX7_share_94 : decode cX7_share 94 = .ok (.imul, 1) := by decide +kernel
theorem dX7_share_95 : decode cX7_share 95 = .ok (.iadd, 1) := by decide +kernel
theorem dX7_share_96 : decode cX7_share 96 = .ok (.istore 4, 2) := by decide +kernel
theorem dX7_share_98 : decode cX7_share 98 = .ok (.iinc 5 1, 3) := by decide +kernel
theorem dX7_share_101 : decode cX7_share 101 = .ok (.goto (-73), 3) := by decide +kernel
theorem dX7_share_104 : decode cX7_share 104 = .ok (.iload 4, 2) := by decide +kernel
theorem dX7_share_106 : decode cX7_share 106 = .ok (.iload_n 3, 1) := by decide +kernel
theorem dX7_share_107 : decode cX7_share 107 = .ok (.invokestatic 259, 3) := by decide +kernel
theorem dX7_share_110 : decode cX7_share 110 = .ok (.iload_n 2, 1) := by decide +kernel
theorem dX7_share_111 : decode cX7_share 111 = .ok (.invokestatic 262, 3) := by decide +kernel
theorem dX7_share_114 : decode cX7_share 114 = .ok (.ireturn, 1) := by decide +kernel
theorem dX7_luck_0 : decode cX7_luck 0 = .ok (.aload_n 0, 1) := by decide +kernel
theorem dX7_luck_1 : decode cX7_luck 1 = .ok (.iconst 0, 1) := by decide +kernel
theorem dX7_luck_2 : decode cX7_luck 2 = .ok (.putfield 67, 3) := by decide +kernel
theorem dX7_luck_5 : decode cX7_luck 5 = .ok (.aload_n 0, 1) := by decide +kernel
theorem dX7_luck_6 : decode cX7_luck 6 = .ok (.aload_n 0, 1) := by decide +kernel
theorem dX7_luck_7 : decode cX7_luck 7 = .ok (.getfield 20, 3) := by decide +kernel
theorem dX7_luck_10 : decode cX7_luck 10 = .ok (.invokevirtual 118, 3) := by decide +kernel
theorem dX7_luck_13 : decode cX7_luck 13 = .ok (.aload_n 0, 1) := by decide +kernel
theorem dX7_luck_14 : decode cX7_luck 14 = .ok (.getfield 13, 3) := by decide +kernel
theorem dX7_luck_17 : decode cX7_luck 17 = .ok (.aload_n 0, 1) := by decide +kernel
theorem dX7_luck_18 : decode cX7_luck 18 = .ok (.getfield 20, 3) := by decide +kernel
theorem dX7_luck_21 : decode cX7_luck 21 = .ok (.iconst 0, 1) := by decide +kernel
theorem dX7_luck_22 : decode cX7_luck 22 = .ok (.iaload, 1) := by decide +kernel
theorem dX7_luck_23 : decode cX7_luck 23 = .ok (.invokestatic 266, 3) := by decide +kernel
theorem dX7_luck_26 : decode cX7_luck 26 = .ok (.iload_n 1, 1) := by decide +kernel
theorem dX7_luck_27 : decode cX7_luck 27 = .ok (.invokestatic 262, 3) := by decide +kernel
theorem dX7_luck_30 : decode cX7_luck 30 = .ok (.ireturn, 1) := by decide +kernel
theorem dX7_lost_0 : decode cX7_lost 0 = .ok (.aload_n 0, 1) := by decide +kernel
theorem dX7_lost_1 : decode cX7_lost 1 = .ok (.iconst 0, 1) := by decide +kernel
theorem dX7_lost_2 : decode cX7_lost 2 = .ok (.putfield 67, 3) := by decide +kernel
theorem dX7_lost_5 : decode cX7_lost 5 = .ok (.iload_n 1, 1) := by decide +kernel
theorem dX7_lost_6 : decode cX7_lost 6 = .ok (.i2l, 1) := by decide +kernel
theorem dX7_lost_7 : decode cX7_lost 7 = .ok (.lconst 0, 1) := by decide +kernel
theorem dX7_lost_8 : decode cX7_lost 8 = .ok (.ldc2_w 215, 3) := by decide +kernel
theorem dX7_lost_11 : decode cX7_lost 11 = .ok (.invokestatic 72, 3) := by decide +kernel
theorem dX7_lost_14 : decode cX7_lost 14 = .ok (.ifCond .ne 6, 3) := by decide +kernel
theorem dX7_lost_17 : decode cX7_lost 17 = .ok (.bipush (-2), 2) := by decide +kernel
theorem dX7_lost_19 : decode cX7_lost 19 = .ok (.ireturn, 1) := by decide +kernel
theorem dX7_lost_20 : decode cX7_lost 20 = .ok (.aload_n 0, 1) := by decide +kernel
theorem dX7_lost_21 : decode cX7_lost 21 = .ok (.getfield 20, 3) := by decide +kernel
theorem dX7_lost_24 : decode cX7_lost 24 = .ok (.iconst 1, 1) := by decide +kernel
theorem dX7_lost_25 : decode cX7_lost 25 = .ok (.iaload, 1) := by decide +kernel
theorem dX7_lost_26 : decode cX7_lost 26 = .ok (.istore_n 3, 1) := by decide +kernel
theorem dX7_lost_27 : decode cX7_lost 27 = .ok (.iconst 0, 1) := by decide +kernel
theorem dX7_lost_28 : decode cX7_lost 28 = .ok (.istore 4, 2) := by decide +kernel
theorem dX7_lost_30 : decode cX7_lost 30 = .ok (.iconst 0, 1) := by decide +kernel
theorem dX7_lost_31 : decode cX7_lost 31 = .ok (.istore 5, 2) := by decide +kernel
theorem dX7_lost_33 : decode cX7_lost 33 = .ok (.iload 5, 2) := by decide +kernel
theorem dX7_lost_35 : decode cX7_lost 35 = .ok (.iconst 1, 1) := by decide +kernel
theorem dX7_lost_36 : decode cX7_lost 36 = .ok (.iload_n 3, 1) := by decide +kernel
theorem dX7_lost_37 : decode cX7_lost 37 = .ok (.ishl, 1) := by decide +kernel
theorem dX7_lost_38 : decode cX7_lost 38 = .ok (.if_icmp .ge 66, 3) := by decide +kernel
theorem dX7_lost_41 : decode cX7_lost 41 = .ok (.aload_n 0, 1) := by decide +kernel
theorem dX7_lost_42 : decode cX7_lost 42 = .ok (.aload_n 0, 1) := by decide +kernel
theorem dX7_lost_43 : decode cX7_lost 43 = .ok (.getfield 20, 3) := by decide +kernel
theorem dX7_lost_46 : decode cX7_lost 46 = .ok (.iload 5, 2) := by decide +kernel
theorem dX7_lost_48 : decode cX7_lost 48 = .ok (.aload_n 0, 1) := by decide +kernel
theorem dX7_lost_49 : decode cX7_lost 49 = .ok (.getfield 20, 3) := by decide +kernel
theorem dX7_lost_52 : decode cX7_lost 52 = .ok (.iconst 0, 1) := by decide +kernel
theorem dX7_lost_53 : decode cX7_lost 53 = .ok (.iaload, 1) := by decide +kernel
theorem dX7_lost_54 : decode cX7_lost 54 = .ok (.iconst 1, 1) := by decide +kernel
theorem dX7_lost_55 : decode cX7_lost 55 = .ok (.invokevirtual 160, 3) := by decide +kernel
theorem dX7_lost_58 : decode cX7_lost 58 = .ok (.iload 4, 2) := by decide +kernel
theorem dX7_lost_60 : decode cX7_lost 60 = .ok (.aload_n 0, 1) := by decide +kernel
theorem dX7_lost_61 : decode cX7_lost 61 = .ok (.invokevirtual 164, 3) := by decide +kernel
theorem dX7_lost_64 : decode cX7_lost 64 = .ok (.ifCond .eq 30, 3) := by decide +kernel
theorem dX7_lost_67 : decode cX7_lost 67 = .ok (.bipush 10, 2) := by decide +kernel
theorem dX7_lost_69 : decode cX7_lost 69 = .ok (.iload_n 1, 1) := by decide +kernel
theorem dX7_lost_70 : decode cX7_lost 70 = .ok (.isub, 1) := by decide +kernel
theorem dX7_lost_71 : decode cX7_lost 71 = .ok (.iload 5, 2) := by decide +kernel
theorem dX7_lost_73 : decode cX7_lost 73 = .ok (.invokestatic 201, 3) := by decide +kernel
theorem dX7_lost_76 : decode cX7_lost 76 = .ok (.invokestatic 266, 3) := by decide +kernel
theorem dX7_lost_79 : decode cX7_lost 79 = .ok (.iload_n 1, 1) := by decide +kernel
theorem dX7_lost_80 : decode cX7_lost 80 = .ok (.iload_n 3, 1) := by decide +kernel
theorem dX7_lost_81 : decode cX7_lost 81 = .ok (.iload 5, 2) := by decide +kernel
theorem dX7_lost_83 : decode cX7_lost 83 = .ok (.invokestatic 201, 3) := by decide +kernel
theorem dX7_lost_86 : decode cX7_lost 86 = .ok (.isub, 1) := by decide +kernel
theorem dX7_lost_87 : decode cX7_lost 87 = .ok (.invokestatic 266, 3) := by decide +kernel
theorem dX7_lost_90 : decode cX7_lost 90 = .ok (.imul, 1) := by decide +kernel
theorem dX7_lost_91 : decode cX7_lost 91 = .ok (.goto 4, 3) := by decide +kernel
theorem dX7_lost_94 : decode cX7_lost 94 = .ok (.iconst 0, 1) := by decide +kernel
theorem dX7_lost_95 : decode cX7_lost 95 = .ok (.iadd, 1) := by decide +kernel
theorem dX7_lost_96 : decode cX7_lost 96 = .ok (.istore 4, 2) := by decide +kernel
theorem dX7_lost_98 : decode cX7_lost 98 = .ok (.iinc 5 1, 3) := by decide +kernel
theorem dX7_lost_101 : decode cX7_lost 101 = .ok (.goto (-68), 3) := by decide +kernel
theorem dX7_lost_104 : decode cX7_lost 104 = .ok (.iload 4, 2) := by decide +kernel
theorem dX7_lost_106 : decode cX7_lost 106 = .ok (.bipush 10, 2) := by decide +kernel
theorem dX7_lost_108 : decode cX7_lost 108 = .ok (.iload_n 3, 1) := by decide +kernel
theorem dX7_lost_109 : decode cX7_lost 109 = .ok (.invokestatic 266, 3) := by decide +kernel
theorem dX7_lost_112 : decode cX7_lost 112 = .ok (.iload_n 2, 1) := by decide +kernel
theorem dX7_lost_113 : decode cX7_lost 113 = .ok (.invokestatic 262, 3) := by decide +kernel
theorem dX7_lost_116 : decode cX7_lost 116 = .ok (.ireturn, 1) := by decide +kernel
theorem dX7_seed_0 : decode cX7_seed 0 = .ok (.aload_n 0, 1) := by decide +kernel
theorem dX7_seed_1 : decode cX7_seed 1 = .ok (.iconst 0, 1) := by decide +kernel
theorem dX7_seed_2 : decode cX7_seed 2 = .ok (.putfield 67, 3) := by decide +kernel
theorem dX7_seed_5 : decode cX7_seed 5 = .ok (.aload_n 0, 1) := by decide +kernel
theorem dX7_seed_6 : decode cX7_seed 6 = .ok (.getfield 269, 3) := by decide +kernel
theorem dX7_seed_9 : decode cX7_seed 9 = .ok (.lstore_n 3, 1) := by decide +kernel
theorem dX7_seed_10 : decode cX7_seed 10 = .ok (.aload_n 0, 1) := by decide +kernel
theorem dX7_seed_11 : decode cX7_seed 11 = .ok (.lload_n 1, 1) := by decide +kernel
theorem dX7_seed_12 : decode cX7_seed 12 = .ok (.putfield 269, 3) := by decide +kernel
theorem dX7_seed_15 : decode cX7_seed 15 = .ok (.lload_n 3, 1) := by decide +kernel
theorem dX7_seed_16 : decode cX7_seed 16 = .ok (.lreturn, 1) := by decide +kernel
theorem dX7_drawFor_0 : decode cX7_drawFor 0 = .ok (.aload_n 0, 1) := by decide +kernel
theorem dX7_drawFor_1 : decode cX7_drawFor 1 = .ok (.aload_n 0, 1) := by decide +kernel
theorem dX7_drawFor_2 : decode cX7_drawFor 2 = .ok (.getfield 269, 3) := by decide +kernel
theorem dX7_drawFor_5 : decode cX7_drawFor 5 = .ok (.ldc2_w 273, 3) := by decide +kernel
theorem dX7_drawFor_8 : decode cX7_drawFor 8 = .ok (.lmul, 1) := by decide +kernel
theorem dX7_drawFor_9 : decode cX7_drawFor 9 = .ok (.ldc2_w 275, 3) := by decide +kernel
theorem dX7_drawFor_12 : decode cX7_drawFor 12 = .ok (.ladd, 1) := by decide +kernel
theorem dX7_drawFor_13 : decode cX7_drawFor 13 = .ok (.putfield 269, 3) := by decide +kernel
theorem dX7_drawFor_16 : decode cX7_drawFor 16 = .ok (.aload_n 0, 1) := by decide +kernel
theorem dX7_drawFor_17 : decode cX7_drawFor 17 = .ok (.getfield 269, 3) := by decide +kernel
theorem dX7_drawFor_20 : decode cX7_drawFor 20 = .ok (.bipush 33, 2) := by decide +kernel
theorem dX7_drawFor_22 : decode cX7_drawFor 22 = .ok (.lushr, 1) := by decide +kernel
theorem dX7_drawFor_23 : decode cX7_drawFor 23 = .ok (.l2i, 1) := by decide +kernel
theorem dX7_drawFor_24 : decode cX7_drawFor 24 = .ok (.aload_n 0, 1) := by decide +kernel
theorem dX7_drawFor_25 : decode cX7_drawFor 25 = .ok (.getfield 13, 3) := by decide +kernel
theorem dX7_drawFor_28 : decode cX7_drawFor 28 = .ok (.irem, 1) := by decide +kernel
theorem dX7_drawFor_29 : decode cX7_drawFor 29 = .ok (.istore_n 2, 1) := by decide +kernel
theorem dX7_drawFor_30 : decode cX7_drawFor 30 = .ok (.iconst 0, 1) := by decide +kernel
theorem dX7_drawFor_31 : decode cX7_drawFor 31 = .ok (.istore_n 3, 1) := by decide +kernel
theorem dX7_drawFor_32 : decode cX7_drawFor 32 = .ok (.iload_n 3, 1) := by decide +kernel
theorem dX7_drawFor_33 : decode cX7_drawFor 33 = .ok (.aload_n 0, 1) := by decide +kernel
theorem dX7_drawFor_34 : decode cX7_drawFor 34 = .ok (.getfield 13, 3) := by decide +kernel
theorem dX7_drawFor_37 : decode cX7_drawFor 37 = .ok (.if_icmp .ge 54, 3) := by decide +kernel
theorem dX7_drawFor_40 : decode cX7_drawFor 40 = .ok (.iload_n 2, 1) := by decide +kernel
theorem dX7_drawFor_41 : decode cX7_drawFor 41 = .ok (.iload_n 3, 1) := by decide +kernel
theorem dX7_drawFor_42 : decode cX7_drawFor 42 = .ok (.iadd, 1) := by decide +kernel
theorem dX7_drawFor_43 : decode cX7_drawFor 43 = .ok (.aload_n 0, 1) := by decide +kernel
theorem dX7_drawFor_44 : decode cX7_drawFor 44 = .ok (.getfield 13, 3) := by decide +kernel
theorem dX7_drawFor_47 : decode cX7_drawFor 47 = .ok (.irem, 1) := by decide +kernel
theorem dX7_drawFor_48 : decode cX7_drawFor 48 = .ok (.istore 4, 2) := by decide +kernel
theorem dX7_drawFor_50 : decode cX7_drawFor 50 = .ok (.aload_n 0, 1) := by decide +kernel
theorem dX7_drawFor_51 : decode cX7_drawFor 51 = .ok (.iload_n 1, 1) := by decide +kernel
theorem dX7_drawFor_52 : decode cX7_drawFor 52 = .ok (.iload 4, 2) := by decide +kernel
theorem dX7_drawFor_54 : decode cX7_drawFor 54 = .ok (.invokevirtual 148, 3) := by decide +kernel
theorem dX7_drawFor_57 : decode cX7_drawFor 57 = .ok (.ifCond .eq 28, 3) := by decide +kernel
theorem dX7_drawFor_60 : decode cX7_drawFor 60 = .ok (.aload_n 0, 1) := by decide +kernel
theorem dX7_drawFor_61 : decode cX7_drawFor 61 = .ok (.iload_n 1, 1) := by decide +kernel
theorem dX7_drawFor_62 : decode cX7_drawFor 62 = .ok (.iload 4, 2) := by decide +kernel
theorem dX7_drawFor_64 : decode cX7_drawFor 64 = .ok (.invokevirtual 151, 3) := by decide +kernel
theorem dX7_drawFor_67 : decode cX7_drawFor 67 = .ok (.ifCond .eq 18, 3) := by decide +kernel
theorem dX7_drawFor_70 : decode cX7_drawFor 70 = .ok (.aload_n 0, 1) := by decide +kernel
theorem dX7_drawFor_71 : decode cX7_drawFor 71 = .ok (.getfield 54, 3) := by decide +kernel
theorem dX7_drawFor_74 : decode cX7_drawFor 74 = .ok (.iload 4, 2) := by decide +kernel
theorem dX7_drawFor_76 : decode cX7_drawFor 76 = .ok (.dup2, 1) := by decide +kernel
theorem dX7_drawFor_77 : decode cX7_drawFor 77 = .ok (.iaload, 1) := by decide +kernel
theorem dX7_drawFor_78 : decode cX7_drawFor 78 = .ok (.iconst 1, 1) := by decide +kernel
theorem dX7_drawFor_79 : decode cX7_drawFor 79 = .ok (.iload_n 1, 1) := by decide +kernel
theorem dX7_drawFor_80 : decode cX7_drawFor 80 = .ok (.ishl, 1) := by decide +kernel
theorem dX7_drawFor_81 : decode cX7_drawFor 81 = .ok (.ior, 1) := by decide +kernel
theorem dX7_drawFor_82 : decode cX7_drawFor 82 = .ok (.iastore, 1) := by decide +kernel
theorem dX7_drawFor_83 : decode cX7_drawFor 83 = .ok (.iconst 1, 1) := by decide +kernel
theorem dX7_drawFor_84 : decode cX7_drawFor 84 = .ok (.ireturn, 1) := by decide +kernel
theorem dX7_drawFor_85 : decode cX7_drawFor 85 = .ok (.iinc 3 1, 3) := by decide +kernel
theorem dX7_drawFor_88 : decode cX7_drawFor 88 = .ok (.goto (-56), 3) := by decide +kernel
theorem dX7_drawFor_91 : decode cX7_drawFor 91 = .ok (.iconst 0, 1) := by decide +kernel
theorem dX7_drawFor_92 : decode cX7_drawFor 92 = .ok (.ireturn, 1) := by decide +kernel
theorem dX7_drawn_0 : decode cX7_drawn 0 = .ok (.aload_n 0, 1) := by decide +kernel
theorem dX7_drawn_1 : decode cX7_drawn 1 = .ok (.iconst 0, 1) := by decide +kernel
theorem dX7_drawn_2 : decode cX7_drawn 2 = .ok (.putfield 67, 3) := by decide +kernel
theorem dX7_drawn_5 : decode cX7_drawn 5 = .ok (.iload_n 1, 1) := by decide +kernel
theorem dX7_drawn_6 : decode cX7_drawn 6 = .ok (.i2l, 1) := by decide +kernel
theorem dX7_drawn_7 : decode cX7_drawn 7 = .ok (.lconst 1, 1) := by decide +kernel
theorem dX7_drawn_8 : decode cX7_drawn 8 = .ok (.ldc2_w 96, 3) := by decide +kernel
theorem dX7_drawn_11 : decode cX7_drawn 11 = .ok (.invokestatic 72, 3) := by decide +kernel
theorem dX7_drawn_14 : decode cX7_drawn 14 = .ok (.ifCond .ne 6, 3) := by decide +kernel
theorem dX7_drawn_17 : decode cX7_drawn 17 = .ok (.bipush (-2), 2) := by decide +kernel
theorem dX7_drawn_19 : decode cX7_drawn 19 = .ok (.ireturn, 1) := by decide +kernel
theorem dX7_drawn_20 : decode cX7_drawn 20 = .ok (.iconst 0, 1) := by decide +kernel
theorem dX7_drawn_21 : decode cX7_drawn 21 = .ok (.istore_n 2, 1) := by decide +kernel
theorem dX7_drawn_22 : decode cX7_drawn 22 = .ok (.iconst 0, 1) := by decide +kernel
theorem dX7_drawn_23 : decode cX7_drawn 23 = .ok (.istore_n 3, 1) := by decide +kernel
theorem dX7_drawn_24 : decode cX7_drawn 24 = .ok (.iload_n 3, 1) := by decide +kernel
theorem dX7_drawn_25 : decode cX7_drawn 25 = .ok (.iload_n 1, 1) := by decide +kernel
theorem dX7_drawn_26 : decode cX7_drawn 26 = .ok (.if_icmp .ge 47, 3) := by decide +kernel
theorem dX7_drawn_29 : decode cX7_drawn 29 = .ok (.aload_n 0, 1) := by decide +kernel
theorem dX7_drawn_30 : decode cX7_drawn 30 = .ok (.aload_n 0, 1) := by decide +kernel
theorem dX7_drawn_31 : decode cX7_drawn 31 = .ok (.getfield 20, 3) := by decide +kernel
theorem dX7_drawn_34 : decode cX7_drawn 34 = .ok (.invokevirtual 171, 3) := by decide +kernel
theorem dX7_drawn_37 : decode cX7_drawn 37 = .ok (.iconst 1, 1) := by decide +kernel
theorem dX7_drawn_38 : decode cX7_drawn 38 = .ok (.istore 4, 2) := by decide +kernel
theorem dX7_drawn_40 : decode cX7_drawn 40 = .ok (.iload 4, 2) := by decide +kernel
theorem dX7_drawn_42 : decode cX7_drawn 42 = .ok (.aload_n 0, 1) := by decide +kernel
theorem dX7_drawn_43 : decode cX7_drawn 43 = .ok (.getfield 142, 3) := by decide +kernel
theorem dX7_drawn_46 : decode cX7_drawn 46 = .ok (.if_icmp .gt 21, 3) := by decide +kernel
theorem dX7_drawn_49 : decode cX7_drawn 49 = .ok (.aload_n 0, 1) := by decide +kernel
theorem dX7_drawn_50 : decode cX7_drawn 50 = .ok (.iload 4, 2) := by decide +kernel
theorem dX7_drawn_52 : decode cX7_drawn 52 = .ok (.invokevirtual 277, 3) := by decide +kernel
theorem dX7_drawn_55 : decode cX7_drawn 55 = .ok (.ifCond .eq 12, 3) := by decide +kernel
theorem dX7_drawn_58 : decode cX7_drawn 58 = .ok (.iinc 4 1, 3) := by decide +kernel
theorem dX7_drawn_61 : decode cX7_drawn 61 = .ok (.iinc 2 1, 3) := by decide +kernel
theorem dX7_drawn_64 : decode cX7_drawn 64 = .ok (.goto (-24), 3) := by decide +kernel
theorem dX7_drawn_67 : decode cX7_drawn 67 = .ok (.iinc 3 1, 3) := by decide +kernel
theorem dX7_drawn_70 : decode cX7_drawn 70 = .ok (.goto (-46), 3) := by decide +kernel
theorem dX7_drawn_73 : decode cX7_drawn 73 = .ok (.iload_n 2, 1) := by decide +kernel
theorem dX7_drawn_74 : decode cX7_drawn 74 = .ok (.ireturn, 1) := by decide +kernel
theorem dX7_keep_0 : decode cX7_keep 0 = .ok (.aload_n 0, 1) := by decide +kernel
theorem dX7_keep_1 : decode cX7_keep 1 = .ok (.iconst 0, 1) := by decide +kernel
theorem dX7_keep_2 : decode cX7_keep 2 = .ok (.putfield 67, 3) := by decide +kernel
theorem dX7_keep_5 : decode cX7_keep 5 = .ok (.iload_n 1, 1) := by decide +kernel
theorem dX7_keep_6 : decode cX7_keep 6 = .ok (.i2l, 1) := by decide +kernel
theorem dX7_keep_7 : decode cX7_keep 7 = .ok (.lconst 0, 1) := by decide +kernel
theorem dX7_keep_8 : decode cX7_keep 8 = .ok (.lconst 1, 1) := by decide +kernel
theorem dX7_keep_9 : decode cX7_keep 9 = .ok (.invokestatic 72, 3) := by decide +kernel
theorem dX7_keep_12 : decode cX7_keep 12 = .ok (.ifCond .ne 5, 3) := by decide +kernel
theorem dX7_keep_15 : decode cX7_keep 15 = .ok (.iconst (-1), 1) := by decide +kernel
theorem dX7_keep_16 : decode cX7_keep 16 = .ok (.ireturn, 1) := by decide +kernel
theorem dX7_keep_17 : decode cX7_keep 17 = .ok (.aload_n 0, 1) := by decide +kernel
theorem dX7_keep_18 : decode cX7_keep 18 = .ok (.getfield 32, 3) := by decide +kernel
theorem dX7_keep_21 : decode cX7_keep 21 = .ok (.iload_n 1, 1) := by decide +kernel
theorem dX7_keep_22 : decode cX7_keep 22 = .ok (.iconst 1, 1) := by decide +kernel
theorem dX7_keep_23 : decode cX7_keep 23 = .ok (.bastore, 1) := by decide +kernel
theorem dX7_keep_24 : decode cX7_keep 24 = .ok (.iconst 0, 1) := by decide +kernel
theorem dX7_keep_25 : decode cX7_keep 25 = .ok (.istore_n 2, 1) := by decide +kernel
theorem dX7_keep_26 : decode cX7_keep 26 = .ok (.iload_n 2, 1) := by decide +kernel
theorem dX7_keep_27 : decode cX7_keep 27 = .ok (.bipush 39, 2) := by decide +kernel
theorem dX7_keep_29 : decode cX7_keep 29 = .ok (.if_icmp .ge 26, 3) := by decide +kernel
theorem dX7_keep_32 : decode cX7_keep 32 = .ok (.aload_n 0, 1) := by decide +kernel
theorem dX7_keep_33 : decode cX7_keep 33 = .ok (.getfield 29, 3) := by decide +kernel
theorem dX7_keep_36 : decode cX7_keep 36 = .ok (.bipush 39, 2) := by decide +kernel
theorem dX7_keep_38 : decode cX7_keep 38 = .ok (.iload_n 1, 1) := by decide +kernel
theorem dX7_keep_39 : decode cX7_keep 39 = .ok (.imul, 1) := by decide +kernel
theorem dX7_keep_40 : decode cX7_keep 40 = .ok (.iload_n 2, 1) := by decide +kernel
theorem dX7_keep_41 : decode cX7_keep 41 = .ok (.iadd, 1) := by decide +kernel
theorem dX7_keep_42 : decode cX7_keep 42 = .ok (.aload_n 0, 1) := by decide +kernel
theorem dX7_keep_43 : decode cX7_keep 43 = .ok (.getfield 20, 3) := by decide +kernel
theorem dX7_keep_46 : decode cX7_keep 46 = .ok (.iload_n 2, 1) := by decide +kernel
theorem dX7_keep_47 : decode cX7_keep 47 = .ok (.iaload, 1) := by decide +kernel
theorem dX7_keep_48 : decode cX7_keep 48 = .ok (.iastore, 1) := by decide +kernel
theorem dX7_keep_49 : decode cX7_keep 49 = .ok (.iinc 2 1, 3) := by decide +kernel
theorem dX7_keep_52 : decode cX7_keep 52 = .ok (.goto (-26), 3) := by decide +kernel
theorem dX7_keep_55 : decode cX7_keep 55 = .ok (.aload_n 0, 1) := by decide +kernel
theorem dX7_keep_56 : decode cX7_keep 56 = .ok (.getfield 20, 3) := by decide +kernel
theorem dX7_keep_59 : decode cX7_keep 59 = .ok (.iconst 0, 1) := by decide +kernel
theorem dX7_keep_60 : decode cX7_keep 60 = .ok (.iaload, 1) := by decide +kernel
theorem dX7_keep_61 : decode cX7_keep 61 = .ok (.ireturn, 1) := by decide +kernel
theorem dX7_again_0 : decode cX7_again 0 = .ok (.aload_n 0, 1) := by decide +kernel
theorem dX7_again_1 : decode cX7_again 1 = .ok (.iconst 0, 1) := by decide +kernel
theorem dX7_again_2 : decode cX7_again 2 = .ok (.putfield 67, 3) := by decide +kernel
theorem dX7_again_5 : decode cX7_again 5 = .ok (.iload_n 1, 1) := by decide +kernel
theorem dX7_again_6 : decode cX7_again 6 = .ok (.i2l, 1) := by decide +kernel
theorem dX7_again_7 : decode cX7_again 7 = .ok (.lconst 0, 1) := by decide +kernel
theorem dX7_again_8 : decode cX7_again 8 = .ok (.lconst 1, 1) := by decide +kernel
theorem dX7_again_9 : decode cX7_again 9 = .ok (.invokestatic 72, 3) := by decide +kernel
theorem dX7_again_12 : decode cX7_again 12 = .ok (.ifCond .ne 5, 3) := by decide +kernel
theorem dX7_again_15 : decode cX7_again 15 = .ok (.iconst (-1), 1) := by decide +kernel
theorem dX7_again_16 : decode cX7_again 16 = .ok (.ireturn, 1) := by decide +kernel
theorem dX7_again_17 : decode cX7_again 17 = .ok (.aload_n 0, 1) := by decide +kernel
theorem dX7_again_18 : decode cX7_again 18 = .ok (.getfield 32, 3) := by decide +kernel
theorem dX7_again_21 : decode cX7_again 21 = .ok (.iload_n 1, 1) := by decide +kernel
theorem dX7_again_22 : decode cX7_again 22 = .ok (.baload, 1) := by decide +kernel
theorem dX7_again_23 : decode cX7_again 23 = .ok (.ifCond .ne 6, 3) := by decide +kernel
theorem dX7_again_26 : decode cX7_again 26 = .ok (.bipush (-3), 2) := by decide +kernel
theorem dX7_again_28 : decode cX7_again 28 = .ok (.ireturn, 1) := by decide +kernel
theorem dX7_again_29 : decode cX7_again 29 = .ok (.iconst 0, 1) := by decide +kernel
theorem dX7_again_30 : decode cX7_again 30 = .ok (.istore_n 2, 1) := by decide +kernel
theorem dX7_again_31 : decode cX7_again 31 = .ok (.iload_n 2, 1) := by decide +kernel
theorem dX7_again_32 : decode cX7_again 32 = .ok (.bipush 39, 2) := by decide +kernel
theorem dX7_again_34 : decode cX7_again 34 = .ok (.if_icmp .ge 26, 3) := by decide +kernel
theorem dX7_again_37 : decode cX7_again 37 = .ok (.aload_n 0, 1) := by decide +kernel
theorem dX7_again_38 : decode cX7_again 38 = .ok (.getfield 20, 3) := by decide +kernel
theorem dX7_again_41 : decode cX7_again 41 = .ok (.iload_n 2, 1) := by decide +kernel
theorem dX7_again_42 : decode cX7_again 42 = .ok (.aload_n 0, 1) := by decide +kernel
theorem dX7_again_43 : decode cX7_again 43 = .ok (.getfield 29, 3) := by decide +kernel
theorem dX7_again_46 : decode cX7_again 46 = .ok (.bipush 39, 2) := by decide +kernel
theorem dX7_again_48 : decode cX7_again 48 = .ok (.iload_n 1, 1) := by decide +kernel
theorem dX7_again_49 : decode cX7_again 49 = .ok (.imul, 1) := by decide +kernel
theorem dX7_again_50 : decode cX7_again 50 = .ok (.iload_n 2, 1) := by decide +kernel
theorem dX7_again_51 : decode cX7_again 51 = .ok (.iadd, 1) := by decide +kernel
theorem dX7_again_52 : decode cX7_again 52 = .ok (.iaload, 1) := by decide +kernel
theorem dX7_again_53 : decode cX7_again 53 = .ok (.iastore, 1) := by decide +kernel
theorem dX7_again_54 : decode cX7_again 54 = .ok (.iinc 2 1, 3) := by decide +kernel
theorem dX7_again_57 : decode cX7_again 57 = .ok (.goto (-26), 3) := by decide +kernel
theorem dX7_again_60 : decode cX7_again 60 = .ok (.aload_n 0, 1) := by decide +kernel
theorem dX7_again_61 : decode cX7_again 61 = .ok (.iconst 0, 1) := by decide +kernel
theorem dX7_again_62 : decode cX7_again 62 = .ok (.putfield 115, 3) := by decide +kernel
theorem dX7_again_65 : decode cX7_again 65 = .ok (.aload_n 0, 1) := by decide +kernel
theorem dX7_again_66 : decode cX7_again 66 = .ok (.getfield 20, 3) := by decide +kernel
theorem dX7_again_69 : decode cX7_again 69 = .ok (.iconst 0, 1) := by decide +kernel
theorem dX7_again_70 : decode cX7_again 70 = .ok (.iaload, 1) := by decide +kernel
theorem dX7_again_71 : decode cX7_again 71 = .ok (.ireturn, 1) := by decide +kernel
theorem dX7_pins_0 : decode cX7_pins 0 = .ok (.iconst 0, 1) := by decide +kernel
theorem dX7_pins_1 : decode cX7_pins 1 = .ok (.istore_n 1, 1) := by decide +kernel
theorem dX7_pins_2 : decode cX7_pins 2 = .ok (.iconst 0, 1) := by decide +kernel
theorem dX7_pins_3 : decode cX7_pins 3 = .ok (.istore_n 2, 1) := by decide +kernel
theorem dX7_pins_4 : decode cX7_pins 4 = .ok (.iload_n 2, 1) := by decide +kernel
theorem dX7_pins_5 : decode cX7_pins 5 = .ok (.bipush 10, 2) := by decide +kernel
theorem dX7_pins_7 : decode cX7_pins 7 = .ok (.if_icmp .ge 29, 3) := by decide +kernel
theorem dX7_pins_10 : decode cX7_pins 10 = .ok (.iload_n 1, 1) := by decide +kernel
theorem dX7_pins_11 : decode cX7_pins 11 = .ok (.aload_n 0, 1) := by decide +kernel
theorem dX7_pins_12 : decode cX7_pins 12 = .ok (.getfield 20, 3) := by decide +kernel
theorem dX7_pins_15 : decode cX7_pins 15 = .ok (.bipush 18, 2) := by decide +kernel
theorem dX7_pins_17 : decode cX7_pins 17 = .ok (.iload_n 2, 1) := by decide +kernel
theorem dX7_pins_18 : decode cX7_pins 18 = .ok (.iadd, 1) := by decide +kernel
theorem dX7_pins_19 : decode cX7_pins 19 = .ok (.iaload, 1) := by decide +kernel
theorem dX7_pins_20 : decode cX7_pins 20 = .ok (.ifCond .le 7, 3) := by decide +kernel
theorem dX7_pins_23 : decode cX7_pins 23 = .ok (.iconst 1, 1) := by decide +kernel
theorem dX7_pins_24 : decode cX7_pins 24 = .ok (.goto 4, 3) := by decide +kernel
theorem dX7_pins_27 : decode cX7_pins 27 = .ok (.iconst 0, 1) := by decide +kernel
theorem dX7_pins_28 : decode cX7_pins 28 = .ok (.iadd, 1) := by decide +kernel
theorem dX7_pins_29 : decode cX7_pins 29 = .ok (.istore_n 1, 1) := by decide +kernel
theorem dX7_pins_30 : decode cX7_pins 30 = .ok (.iinc 2 1, 3) := by decide +kernel
theorem dX7_pins_33 : decode cX7_pins 33 = .ok (.goto (-29), 3) := by decide +kernel
theorem dX7_pins_36 : decode cX7_pins 36 = .ok (.iload_n 1, 1) := by decide +kernel
theorem dX7_pins_37 : decode cX7_pins 37 = .ok (.ireturn, 1) := by decide +kernel
theorem dX7_count_0 : decode cX7_count 0 = .ok (.aload_n 0, 1) := by decide +kernel
theorem dX7_count_1 : decode cX7_count 1 = .ok (.iconst 0, 1) := by decide +kernel
theorem dX7_count_2 : decode cX7_count 2 = .ok (.putfield 67, 3) := by decide +kernel
theorem dX7_count_5 : decode cX7_count 5 = .ok (.iload_n 1, 1) := by decide +kernel
theorem dX7_count_6 : decode cX7_count 6 = .ok (.tableswitch 81 0 6 #[42, 47, 54, 59, 66, 71, 76], 42) := by decide +kernel
theorem dX7_count_48 : decode cX7_count 48 = .ok (.aload_n 0, 1) := by decide +kernel
theorem dX7_count_49 : decode cX7_count 49 = .ok (.getfield 76, 3) := by decide +kernel
theorem dX7_count_52 : decode cX7_count 52 = .ok (.ireturn, 1) := by decide +kernel
theorem dX7_count_53 : decode cX7_count 53 = .ok (.aload_n 0, 1) := by decide +kernel
theorem dX7_count_54 : decode cX7_count 54 = .ok (.getfield 20, 3) := by decide +kernel
theorem dX7_count_57 : decode cX7_count 57 = .ok (.iconst 0, 1) := by decide +kernel
theorem dX7_count_58 : decode cX7_count 58 = .ok (.iaload, 1) := by decide +kernel
theorem dX7_count_59 : decode cX7_count 59 = .ok (.ireturn, 1) := by decide +kernel
theorem dX7_count_60 : decode cX7_count 60 = .ok (.aload_n 0, 1) := by decide +kernel
theorem dX7_count_61 : decode cX7_count 61 = .ok (.getfield 13, 3) := by decide +kernel
theorem dX7_count_64 : decode cX7_count 64 = .ok (.ireturn, 1) := by decide +kernel
theorem dX7_count_65 : decode cX7_count 65 = .ok (.aload_n 0, 1) := by decide +kernel
theorem dX7_count_66 : decode cX7_count 66 = .ok (.getfield 20, 3) := by decide +kernel
theorem dX7_count_69 : decode cX7_count 69 = .ok (.iconst 1, 1) := by decide +kernel
theorem dX7_count_70 : decode cX7_count 70 = .ok (.iaload, 1) := by decide +kernel
theorem dX7_count_71 : decode cX7_count 71 = .ok (.ireturn, 1) := by decide +kernel
theorem dX7_count_72 : decode cX7_count 72 = .ok (.aload_n 0, 1) := by decide +kernel
theorem dX7_count_73 : decode cX7_count 73 = .ok (.invokevirtual 280, 3) := by decide +kernel
theorem dX7_count_76 : decode cX7_count 76 = .ok (.ireturn, 1) := by decide +kernel
theorem dX7_count_77 : decode cX7_count 77 = .ok (.aload_n 0, 1) := by decide +kernel
theorem dX7_count_78 : decode cX7_count 78 = .ok (.getfield 115, 3) := by decide +kernel
theorem dX7_count_81 : decode cX7_count 81 = .ok (.ireturn, 1) := by decide +kernel
theorem dX7_count_82 : decode cX7_count 82 = .ok (.aload_n 0, 1) := by decide +kernel
theorem dX7_count_83 : decode cX7_count 83 = .ok (.getfield 253, 3) := by decide +kernel
theorem dX7_count_86 : decode cX7_count 86 = .ok (.ireturn, 1) := by decide +kernel
theorem dX7_count_87 : decode cX7_count 87 = .ok (.bipush (-2), 2) := by decide +kernel
theorem dX7_count_89 : decode cX7_count 89 = .ok (.ireturn, 1) := by decide +kernel
theorem dJ6_bitCount_0f7a4_0 : decode cJ6_bitCount_0f7a4 0 = .ok (.iload_n 0, 1) := by decide +kernel
theorem dJ6_bitCount_0f7a4_1 : decode cJ6_bitCount_0f7a4 1 = .ok (.iload_n 0, 1) := by decide +kernel
theorem dJ6_bitCount_0f7a4_2 : decode cJ6_bitCount_0f7a4 2 = .ok (.iconst 1, 1) := by decide +kernel
theorem dJ6_bitCount_0f7a4_3 : decode cJ6_bitCount_0f7a4 3 = .ok (.iushr, 1) := by decide +kernel
theorem dJ6_bitCount_0f7a4_4 : decode cJ6_bitCount_0f7a4 4 = .ok (.ldc_w 265, 3) := by decide +kernel
theorem dJ6_bitCount_0f7a4_7 : decode cJ6_bitCount_0f7a4 7 = .ok (.iand, 1) := by decide +kernel
theorem dJ6_bitCount_0f7a4_8 : decode cJ6_bitCount_0f7a4 8 = .ok (.isub, 1) := by decide +kernel
theorem dJ6_bitCount_0f7a4_9 : decode cJ6_bitCount_0f7a4 9 = .ok (.istore_n 0, 1) := by decide +kernel
theorem dJ6_bitCount_0f7a4_10 : decode cJ6_bitCount_0f7a4 10 = .ok (.iload_n 0, 1) := by decide +kernel
theorem dJ6_bitCount_0f7a4_11 : decode cJ6_bitCount_0f7a4 11 = .ok (.ldc_w 266, 3) := by decide +kernel
theorem dJ6_bitCount_0f7a4_14 : decode cJ6_bitCount_0f7a4 14 = .ok (.iand, 1) := by decide +kernel
theorem dJ6_bitCount_0f7a4_15 : decode cJ6_bitCount_0f7a4 15 = .ok (.iload_n 0, 1) := by decide +kernel
theorem dJ6_bitCount_0f7a4_16 : decode cJ6_bitCount_0f7a4 16 = .ok (.iconst 2, 1) := by decide +kernel
theorem dJ6_bitCount_0f7a4_17 : decode cJ6_bitCount_0f7a4 17 = .ok (.iushr, 1) := by decide +kernel
theorem dJ6_bitCount_0f7a4_18 : decode cJ6_bitCount_0f7a4 18 = .ok (.ldc_w 266, 3) := by decide +kernel
theorem dJ6_bitCount_0f7a4_21 : decode cJ6_bitCount_0f7a4 21 = .ok (.iand, 1) := by decide +kernel
theorem dJ6_bitCount_0f7a4_22 : decode cJ6_bitCount_0f7a4 22 = .ok (.iadd, 1) := by decide +kernel
theorem dJ6_bitCount_0f7a4_23 : decode cJ6_bitCount_0f7a4 23 = .ok (.istore_n 0, 1) := by decide +kernel
theorem dJ6_bitCount_0f7a4_24 : decode cJ6_bitCount_0f7a4 24 = .ok (.iload_n 0, 1) := by decide +kernel
theorem dJ6_bitCount_0f7a4_25 : decode cJ6_bitCount_0f7a4 25 = .ok (.iload_n 0, 1) := by decide +kernel
theorem dJ6_bitCount_0f7a4_26 : decode cJ6_bitCount_0f7a4 26 = .ok (.iconst 4, 1) := by decide +kernel
theorem dJ6_bitCount_0f7a4_27 : decode cJ6_bitCount_0f7a4 27 = .ok (.iushr, 1) := by decide +kernel
theorem dJ6_bitCount_0f7a4_28 : decode cJ6_bitCount_0f7a4 28 = .ok (.iadd, 1) := by decide +kernel
theorem dJ6_bitCount_0f7a4_29 : decode cJ6_bitCount_0f7a4 29 = .ok (.ldc_w 267, 3) := by decide +kernel
theorem dJ6_bitCount_0f7a4_32 : decode cJ6_bitCount_0f7a4 32 = .ok (.iand, 1) := by decide +kernel
theorem dJ6_bitCount_0f7a4_33 : decode cJ6_bitCount_0f7a4 33 = .ok (.istore_n 0, 1) := by decide +kernel
theorem dJ6_bitCount_0f7a4_34 : decode cJ6_bitCount_0f7a4 34 = .ok (.iload_n 0, 1) := by decide +kernel
theorem dJ6_bitCount_0f7a4_35 : decode cJ6_bitCount_0f7a4 35 = .ok (.iload_n 0, 1) := by decide +kernel
theorem dJ6_bitCount_0f7a4_36 : decode cJ6_bitCount_0f7a4 36 = .ok (.bipush 8, 2) := by decide +kernel
theorem dJ6_bitCount_0f7a4_38 : decode cJ6_bitCount_0f7a4 38 = .ok (.iushr, 1) := by decide +kernel
theorem dJ6_bitCount_0f7a4_39 : decode cJ6_bitCount_0f7a4 39 = .ok (.iadd, 1) := by decide +kernel
theorem dJ6_bitCount_0f7a4_40 : decode cJ6_bitCount_0f7a4 40 = .ok (.istore_n 0, 1) := by decide +kernel
theorem dJ6_bitCount_0f7a4_41 : decode cJ6_bitCount_0f7a4 41 = .ok (.iload_n 0, 1) := by decide +kernel
theorem dJ6_bitCount_0f7a4_42 : decode cJ6_bitCount_0f7a4 42 = .ok (.iload_n 0, 1) := by decide +kernel
theorem dJ6_bitCount_0f7a4_43 : decode cJ6_bitCount_0f7a4 43 = .ok (.bipush 16, 2) := by decide +kernel
theorem dJ6_bitCount_0f7a4_45 : decode cJ6_bitCount_0f7a4 45 = .ok (.iushr, 1) := by decide +kernel
theorem dJ6_bitCount_0f7a4_46 : decode cJ6_bitCount_0f7a4 46 = .ok (.iadd, 1) := by decide +kernel
theorem dJ6_bitCount_0f7a4_47 : decode cJ6_bitCount_0f7a4 47 = .ok (.istore_n 0, 1) := by decide +kernel
theorem dJ6_bitCount_0f7a4_48 : decode cJ6_bitCount_0f7a4 48 = .ok (.iload_n 0, 1) := by decide +kernel
theorem dJ6_bitCount_0f7a4_49 : decode cJ6_bitCount_0f7a4 49 = .ok (.bipush 63, 2) := by decide +kernel
theorem dJ6_bitCount_0f7a4_51 : decode cJ6_bitCount_0f7a4 51 = .ok (.iand, 1) := by decide +kernel
theorem dJ6_bitCount_0f7a4_52 : decode cJ6_bitCount_0f7a4 52 = .ok (.ireturn, 1) := by decide +kernel
theorem dJ7_fill_53178_0 : decode cJ7_fill_53178 0 = .ok (.iconst 0, 1) := by decide +kernel
theorem dJ7_fill_53178_1 : decode cJ7_fill_53178 1 = .ok (.istore_n 2, 1) := by decide +kernel
theorem dJ7_fill_53178_2 : decode cJ7_fill_53178 2 = .ok (.aload_n 0, 1) := by decide +kernel
theorem dJ7_fill_53178_3 : decode cJ7_fill_53178 3 = .ok (.arraylength, 1) := by decide +kernel
theorem dJ7_fill_53178_4 : decode cJ7_fill_53178 4 = .ok (.istore_n 3, 1) := by decide +kernel
theorem dJ7_fill_53178_5 : decode cJ7_fill_53178 5 = .ok (.iload_n 2, 1) := by decide +kernel
theorem dJ7_fill_53178_6 : decode cJ7_fill_53178 6 = .ok (.iload_n 3, 1) := by decide +kernel
theorem dJ7_fill_53178_7 : decode cJ7_fill_53178 7 = .ok (.if_icmp .ge 13, 3) := by decide +kernel
theorem dJ7_fill_53178_10 : decode cJ7_fill_53178 10 = .ok (.aload_n 0, 1) := by decide +kernel
theorem dJ7_fill_53178_11 : decode cJ7_fill_53178 11 = .ok (.iload_n 2, 1) := by decide +kernel
theorem dJ7_fill_53178_12 : decode cJ7_fill_53178 12 = .ok (.iload_n 1, 1) := by decide +kernel
theorem dJ7_fill_53178_13 : decode cJ7_fill_53178 13 = .ok (.iastore, 1) := by decide +kernel
theorem dJ7_fill_53178_14 : decode cJ7_fill_53178 14 = .ok (.iinc 2 1, 3) := by decide +kernel
theorem dJ7_fill_53178_17 : decode cJ7_fill_53178 17 = .ok (.goto (-12), 3) := by decide +kernel
theorem dJ7_fill_53178_20 : decode cJ7_fill_53178 20 = .ok (.return_, 1) := by decide +kernel
theorem dL_law_0 : decode cL_law 0 = .ok (.new 7, 3) := by decide +kernel
theorem dL_law_3 : decode cL_law 3 = .ok (.dup, 1) := by decide +kernel
theorem dL_law_4 : decode cL_law 4 = .ok (.invokespecial 9, 3) := by decide +kernel
theorem dL_law_7 : decode cL_law 7 = .ok (.astore_n 1, 1) := by decide +kernel
theorem dL_law_8 : decode cL_law 8 = .ok (.new 10, 3) := by decide +kernel
theorem dL_law_11 : decode cL_law 11 = .ok (.dup, 1) := by decide +kernel
theorem dL_law_12 : decode cL_law 12 = .ok (.invokespecial 12, 3) := by decide +kernel
theorem dL_law_15 : decode cL_law 15 = .ok (.astore_n 2, 1) := by decide +kernel
theorem dL_law_16 : decode cL_law 16 = .ok (.iconst 0, 1) := by decide +kernel
theorem dL_law_17 : decode cL_law 17 = .ok (.istore_n 3, 1) := by decide +kernel
theorem dL_law_18 : decode cL_law 18 = .ok (.iload_n 3, 1) := by decide +kernel
theorem dL_law_19 : decode cL_law 19 = .ok (.aload_n 0, 1) := by decide +kernel
theorem dL_law_20 : decode cL_law 20 = .ok (.arraylength, 1) := by decide +kernel
theorem dL_law_21 : decode cL_law 21 = .ok (.iconst 5, 1) := by decide +kernel
theorem dL_law_22 : decode cL_law 22 = .ok (.isub, 1) := by decide +kernel
theorem dL_law_23 : decode cL_law 23 = .ok (.if_icmp .gt 956, 3) := by decide +kernel
theorem dL_law_26 : decode cL_law 26 = .ok (.aload_n 0, 1) := by decide +kernel
theorem dL_law_27 : decode cL_law 27 = .ok (.iload_n 3, 1) := by decide +kernel
theorem dL_law_28 : decode cL_law 28 = .ok (.iaload, 1) := by decide +kernel
theorem dL_law_29 : decode cL_law 29 = .ok (.bipush 31, 2) := by decide +kernel
theorem dL_law_31 : decode cL_law 31 = .ok (.iand, 1) := by decide +kernel
theorem dL_law_32 : decode cL_law 32 = .ok (.tableswitch 941 0 27 #[128, 151, 164, 177, 190, 223, 256, 289, 312, 345, 368, 421, 434, 467, 480, 503, 516, 579, 622, 635, 658, 707, 746, 795, 849, 872, 895, 918], 128) := by decide +kernel
theorem dL_law_160 : decode cL_law 160 = .ok (.aload_n 1, 1) := by decide +kernel
theorem dL_law_161 : decode cL_law 161 = .ok (.aload_n 0, 1) := by decide +kernel
theorem dL_law_162 : decode cL_law 162 = .ok (.iload_n 3, 1) := by decide +kernel
theorem dL_law_163 : decode cL_law 163 = .ok (.iconst 1, 1) := by decide +kernel
theorem dL_law_164 : decode cL_law 164 = .ok (.iadd, 1) := by decide +kernel
theorem dL_law_165 : decode cL_law 165 = .ok (.iaload, 1) := by decide +kernel
theorem dL_law_166 : decode cL_law 166 = .ok (.invokevirtual 13, 3) := by decide +kernel
theorem dL_law_169 : decode cL_law 169 = .ok (.aload_n 2, 1) := by decide +kernel
theorem dL_law_170 : decode cL_law 170 = .ok (.aload_n 0, 1) := by decide +kernel
theorem dL_law_171 : decode cL_law 171 = .ok (.iload_n 3, 1) := by decide +kernel
theorem dL_law_172 : decode cL_law 172 = .ok (.iconst 1, 1) := by decide +kernel
theorem dL_law_173 : decode cL_law 173 = .ok (.iadd, 1) := by decide +kernel
theorem dL_law_174 : decode cL_law 174 = .ok (.iaload, 1) := by decide +kernel
theorem dL_law_175 : decode cL_law 175 = .ok (.invokevirtual 17, 3) := by decide +kernel
theorem dL_law_178 : decode cL_law 178 = .ok (.if_icmp .eq 795, 3) := by decide +kernel
theorem dL_law_181 : decode cL_law 181 = .ok (.iconst 0, 1) := by decide +kernel
theorem dL_law_182 : decode cL_law 182 = .ok (.ireturn, 1) := by decide +kernel
theorem dL_law_183 : decode cL_law 183 = .ok (.aload_n 1, 1) := by decide +kernel
theorem dL_law_184 : decode cL_law 184 = .ok (.invokevirtual 18, 3) := by decide +kernel
theorem dL_law_187 : decode cL_law 187 = .ok (.aload_n 2, 1) := by decide +kernel
theorem dL_law_188 : decode cL_law 188 = .ok (.invokevirtual 22, 3) := by decide +kernel
theorem dL_law_191 : decode cL_law 191 = .ok (.if_icmp .eq 782, 3) := by decide +kernel
theorem dL_law_194 : decode cL_law 194 = .ok (.iconst 0, 1) := by decide +kernel
theorem dL_law_195 : decode cL_law 195 = .ok (.ireturn, 1) := by decide +kernel
theorem dL_law_196 : decode cL_law 196 = .ok (.aload_n 1, 1) := by decide +kernel
theorem dL_law_197 : decode cL_law 197 = .ok (.invokevirtual 23, 3) := by decide +kernel
theorem dL_law_200 : decode cL_law 200 = .ok (.aload_n 2, 1) := by decide +kernel
theorem dL_law_201 : decode cL_law 201 = .ok (.invokevirtual 26, 3) := by decide +kernel
theorem dL_law_204 : decode cL_law 204 = .ok (.if_icmp .eq 769, 3) := by decide +kernel
theorem dL_law_207 : decode cL_law 207 = .ok (.iconst 0, 1) := by decide +kernel
theorem dL_law_208 : decode cL_law 208 = .ok (.ireturn, 1) := by decide +kernel
theorem dL_law_209 : decode cL_law 209 = .ok (.aload_n 1, 1) := by decide +kernel
theorem dL_law_210 : decode cL_law 210 = .ok (.invokevirtual 27, 3) := by decide +kernel
theorem dL_law_213 : decode cL_law 213 = .ok (.aload_n 2, 1) := by decide +kernel
theorem dL_law_214 : decode cL_law 214 = .ok (.invokevirtual 30, 3) := by decide +kernel
theorem dL_law_217 : decode cL_law 217 = .ok (.if_icmp .eq 756, 3) := by decide +kernel
theorem dL_law_220 : decode cL_law 220 = .ok (.iconst 0, 1) := by decide +kernel
theorem dL_law_221 : decode cL_law 221 = .ok (.ireturn, 1) := by decide +kernel
theorem dL_law_222 : decode cL_law 222 = .ok (.aload_n 1, 1) := by decide +kernel
theorem dL_law_223 : decode cL_law 223 = .ok (.aload_n 0, 1) := by decide +kernel
theorem dL_law_224 : decode cL_law 224 = .ok (.iload_n 3, 1) := by decide +kernel
theorem dL_law_225 : decode cL_law 225 = .ok (.iconst 1, 1) := by decide +kernel
theorem dL_law_226 : decode cL_law 226 = .ok (.iadd, 1) := by decide +kernel
theorem dL_law_227 : decode cL_law 227 = .ok (.iaload, 1) := by decide +kernel
theorem dL_law_228 : decode cL_law 228 = .ok (.aload_n 0, 1) := by decide +kernel
theorem dL_law_229 : decode cL_law 229 = .ok (.iload_n 3, 1) := by decide +kernel
theorem dL_law_230 : decode cL_law 230 = .ok (.iconst 2, 1) := by decide +kernel
theorem dL_law_231 : decode cL_law 231 = .ok (.iadd, 1) := by decide +kernel
theorem dL_law_232 : decode cL_law 232 = .ok (.iaload, 1) := by decide +kernel
theorem dL_law_233 : decode cL_law 233 = .ok (.invokevirtual 31, 3) := by decide +kernel
theorem dL_law_236 : decode cL_law 236 = .ok (.aload_n 2, 1) := by decide +kernel
theorem dL_law_237 : decode cL_law 237 = .ok (.aload_n 0, 1) := by decide +kernel
theorem dL_law_238 : decode cL_law 238 = .ok (.iload_n 3, 1) := by decide +kernel
theorem dL_law_239 : decode cL_law 239 = .ok (.iconst 1, 1) := by decide +kernel
theorem dL_law_240 : decode cL_law 240 = .ok (.iadd, 1) := by decide +kernel
theorem dL_law_241 : decode cL_law 241 = .ok (.iaload, 1) := by decide +kernel
theorem dL_law_242 : decode cL_law 242 = .ok (.aload_n 0, 1) := by decide +kernel
theorem dL_law_243 : decode cL_law 243 = .ok (.iload_n 3, 1) := by decide +kernel
theorem dL_law_244 : decode cL_law 244 = .ok (.iconst 2, 1) := by decide +kernel
theorem dL_law_245 : decode cL_law 245 = .ok (.iadd, 1) := by decide +kernel
theorem dL_law_246 : decode cL_law 246 = .ok (.iaload, 1) := by decide +kernel
theorem dL_law_247 : decode cL_law 247 = .ok (.invokevirtual 35, 3) := by decide +kernel
theorem dL_law_250 : decode cL_law 250 = .ok (.if_icmp .eq 723, 3) := by decide +kernel
theorem dL_law_253 : decode cL_law 253 = .ok (.iconst 0, 1) := by decide +kernel
theorem dL_law_254 : decode cL_law 254 = .ok (.ireturn, 1) := by decide +kernel
theorem dL_law_255 : decode cL_law 255 = .ok (.aload_n 1, 1) := by decide +kernel
theorem dL_law_256 : decode cL_law 256 = .ok (.aload_n 0, 1) := by decide +kernel
theorem dL_law_257 : decode cL_law 257 = .ok (.iload_n 3, 1) := by decide +kernel
theorem dL_law_258 : decode cL_law 258 = .ok (.iconst 1, 1) := by decide +kernel
theorem dL_law_259 : decode cL_law 259 = .ok (.iadd, 1) := by decide +kernel
theorem dL_law_260 : decode cL_law 260 = .ok (.iaload, 1) := by decide +kernel
theorem dL_law_261 : decode cL_law 261 = .ok (.aload_n 0, 1) := by decide +kernel
theorem dL_law_262 : decode cL_law 262 = .ok (.iload_n 3, 1) := by decide +kernel
theorem dL_law_263 : decode cL_law 263 = .ok (.iconst 2, 1) := by decide +kernel
theorem dL_law_264 : decode cL_law 264 = .ok (.iadd, 1) := by decide +kernel
theorem dL_law_265 : decode cL_law 265 = .ok (.iaload, 1) := by decide +kernel
theorem dL_law_266 : decode cL_law 266 = .ok (.invokevirtual 36, 3) := by decide +kernel
theorem dL_law_269 : decode cL_law 269 = .ok (.aload_n 2, 1) := by decide +kernel
theorem dL_law_270 : decode cL_law 270 = .ok (.aload_n 0, 1) := by decide +kernel
theorem dL_law_271 : decode cL_law 271 = .ok (.iload_n 3, 1) := by decide +kernel
theorem dL_law_272 : decode cL_law 272 = .ok (.iconst 1, 1) := by decide +kernel
theorem dL_law_273 : decode cL_law 273 = .ok (.iadd, 1) := by decide +kernel
theorem dL_law_274 : decode cL_law 274 = .ok (.iaload, 1) := by decide +kernel
theorem dL_law_275 : decode cL_law 275 = .ok (.aload_n 0, 1) := by decide +kernel
theorem dL_law_276 : decode cL_law 276 = .ok (.iload_n 3, 1) := by decide +kernel
theorem dL_law_277 : decode cL_law 277 = .ok (.iconst 2, 1) := by decide +kernel
theorem dL_law_278 : decode cL_law 278 = .ok (.iadd, 1) := by decide +kernel
theorem dL_law_279 : decode cL_law 279 = .ok (.iaload, 1) := by decide +kernel
theorem dL_law_280 : decode cL_law 280 = .ok (.invokevirtual 39, 3) := by decide +kernel
theorem dL_law_283 : decode cL_law 283 = .ok (.if_icmp .eq 690, 3) := by decide +kernel
theorem dL_law_286 : decode cL_law 286 = .ok (.iconst 0, 1) := by decide +kernel
theorem dL_law_287 : decode cL_law 287 = .ok (.ireturn, 1) := by decide +kernel
theorem dL_law_288 : decode cL_law 288 = .ok (.aload_n 1, 1) := by decide +kernel
theorem dL_law_289 : decode cL_law 289 = .ok (.aload_n 0, 1) := by decide +kernel
theorem dL_law_290 : decode cL_law 290 = .ok (.iload_n 3, 1) := by decide +kernel
theorem dL_law_291 : decode cL_law 291 = .ok (.iconst 1, 1) := by decide +kernel
theorem dL_law_292 : decode cL_law 292 = .ok (.iadd, 1) := by decide +kernel
theorem dL_law_293 : decode cL_law 293 = .ok (.iaload, 1) := by decide +kernel
theorem dL_law_294 : decode cL_law 294 = .ok (.aload_n 0, 1) := by decide +kernel
theorem dL_law_295 : decode cL_law 295 = .ok (.iload_n 3, 1) := by decide +kernel
theorem dL_law_296 : decode cL_law 296 = .ok (.iconst 2, 1) := by decide +kernel
theorem dL_law_297 : decode cL_law 297 = .ok (.iadd, 1) := by decide +kernel
theorem dL_law_298 : decode cL_law 298 = .ok (.iaload, 1) := by decide +kernel
theorem dL_law_299 : decode cL_law 299 = .ok (.invokevirtual 40, 3) := by decide +kernel
theorem dL_law_302 : decode cL_law 302 = .ok (.aload_n 2, 1) := by decide +kernel
theorem dL_law_303 : decode cL_law 303 = .ok (.aload_n 0, 1) := by decide +kernel
theorem dL_law_304 : decode cL_law 304 = .ok (.iload_n 3, 1) := by decide +kernel
theorem dL_law_305 : decode cL_law 305 = .ok (.iconst 1, 1) := by decide +kernel
theorem dL_law_306 : decode cL_law 306 = .ok (.iadd, 1) := by decide +kernel
theorem dL_law_307 : decode cL_law 307 = .ok (.iaload, 1) := by decide +kernel
theorem dL_law_308 : decode cL_law 308 = .ok (.aload_n 0, 1) := by decide +kernel
theorem dL_law_309 : decode cL_law 309 = .ok (.iload_n 3, 1) := by decide +kernel
theorem dL_law_310 : decode cL_law 310 = .ok (.iconst 2, 1) := by decide +kernel
theorem dL_law_311 : decode cL_law 311 = .ok (.iadd, 1) := by decide +kernel
theorem dL_law_312 : decode cL_law 312 = .ok (.iaload, 1) := by decide +kernel
theorem dL_law_313 : decode cL_law 313 = .ok (.invokevirtual 43, 3) := by decide +kernel
theorem dL_law_316 : decode cL_law 316 = .ok (.if_icmp .eq 657, 3) := by decide +kernel
theorem dL_law_319 : decode cL_law 319 = .ok (.iconst 0, 1) := by decide +kernel
theorem dL_law_320 : decode cL_law 320 = .ok (.ireturn, 1) := by decide +kernel
theorem dL_law_321 : decode cL_law 321 = .ok (.aload_n 1, 1) := by decide +kernel
theorem dL_law_322 : decode cL_law 322 = .ok (.aload_n 0, 1) := by decide +kernel
theorem dL_law_323 : decode cL_law 323 = .ok (.iload_n 3, 1) := by decide +kernel
theorem dL_law_324 : decode cL_law 324 = .ok (.iconst 1, 1) := by decide +kernel
theorem dL_law_325 : decode cL_law 325 = .ok (.iadd, 1) := by decide +kernel
theorem dL_law_326 : decode cL_law 326 = .ok (.iaload, 1) := by decide +kernel
theorem dL_law_327 : decode cL_law 327 = .ok (.invokevirtual 44, 3) := by decide +kernel
theorem dL_law_330 : decode cL_law 330 = .ok (.aload_n 2, 1) := by decide +kernel
theorem dL_law_331 : decode cL_law 331 = .ok (.aload_n 0, 1) := by decide +kernel
theorem dL_law_332 : decode cL_law 332 = .ok (.iload_n 3, 1) := by decide +kernel
theorem dL_law_333 : decode cL_law 333 = .ok (.iconst 1, 1) := by decide +kernel
theorem dL_law_334 : decode cL_law 334 = .ok (.iadd, 1) := by decide +kernel
theorem dL_law_335 : decode cL_law 335 = .ok (.iaload, 1) := by decide +kernel
theorem dL_law_336 : decode cL_law 336 = .ok (.invokevirtual 47, 3) := by decide +kernel
theorem dL_law_339 : decode cL_law 339 = .ok (.if_icmp .eq 634, 3) := by decide +kernel
theorem dL_law_342 : decode cL_law 342 = .ok (.iconst 0, 1) := by decide +kernel
theorem dL_law_343 : decode cL_law 343 = .ok (.ireturn, 1) := by decide +kernel
theorem dL_law_344 : decode cL_law 344 = .ok (.aload_n 1, 1) := by decide +kernel
theorem dL_law_345 : decode cL_law 345 = .ok (.aload_n 0, 1) := by decide +kernel
theorem dL_law_346 : decode cL_law 346 = .ok (.iload_n 3, 1) := by decide +kernel
theorem dL_law_347 : decode cL_law 347 = .ok (.iconst 1, 1) := by decide +kernel
theorem dL_law_348 : decode cL_law 348 = .ok (.iadd, 1) := by decide +kernel
theorem dL_law_349 : decode cL_law 349 = .ok (.iaload, 1) := by decide +kernel
theorem dL_law_350 : decode cL_law 350 = .ok (.aload_n 0, 1) := by decide +kernel
theorem dL_law_351 : decode cL_law 351 = .ok (.iload_n 3, 1) := by decide +kernel
theorem dL_law_352 : decode cL_law 352 = .ok (.iconst 2, 1) := by decide +kernel
theorem dL_law_353 : decode cL_law 353 = .ok (.iadd, 1) := by decide +kernel
theorem dL_law_354 : decode cL_law 354 = .ok (.iaload, 1) := by decide +kernel
theorem dL_law_355 : decode cL_law 355 = .ok (.invokevirtual 48, 3) := by decide +kernel
theorem dL_law_358 : decode cL_law 358 = .ok (.aload_n 2, 1) := by decide +kernel
theorem dL_law_359 : decode cL_law 359 = .ok (.aload_n 0, 1) := by decide +kernel
theorem dL_law_360 : decode cL_law 360 = .ok (.iload_n 3, 1) := by decide +kernel
theorem dL_law_361 : decode cL_law 361 = .ok (.iconst 1, 1) := by decide +kernel
theorem dL_law_362 : decode cL_law 362 = .ok (.iadd, 1) := by decide +kernel
theorem dL_law_363 : decode cL_law 363 = .ok (.iaload, 1) := by decide +kernel
theorem dL_law_364 : decode cL_law 364 = .ok (.aload_n 0, 1) := by decide +kernel
theorem dL_law_365 : decode cL_law 365 = .ok (.iload_n 3, 1) := by decide +kernel
theorem dL_law_366 : decode cL_law 366 = .ok (.iconst 2, 1) := by decide +kernel
theorem dL_law_367 : decode cL_law 367 = .ok (.iadd, 1) := by decide +kernel
theorem dL_law_368 : decode cL_law 368 = .ok (.iaload, 1) := by decide +kernel
theorem dL_law_369 : decode cL_law 369 = .ok (.invokevirtual 51, 3) := by decide +kernel
theorem dL_law_372 : decode cL_law 372 = .ok (.if_icmp .eq 601, 3) := by decide +kernel
theorem dL_law_375 : decode cL_law 375 = .ok (.iconst 0, 1) := by decide +kernel
theorem dL_law_376 : decode cL_law 376 = .ok (.ireturn, 1) := by decide +kernel
theorem dL_law_377 : decode cL_law 377 = .ok (.aload_n 1, 1) := by decide +kernel
theorem dL_law_378 : decode cL_law 378 = .ok (.aload_n 0, 1) := by decide +kernel
theorem dL_law_379 : decode cL_law 379 = .ok (.iload_n 3, 1) := by decide +kernel
theorem dL_law_380 : decode cL_law 380 = .ok (.iconst 1, 1) := by decide +kernel
theorem dL_law_381 : decode cL_law 381 = .ok (.iadd, 1) := by decide +kernel
theorem dL_law_382 : decode cL_law 382 = .ok (.iaload, 1) := by decide +kernel
theorem dL_law_383 : decode cL_law 383 = .ok (.invokevirtual 52, 3) := by decide +kernel
theorem dL_law_386 : decode cL_law 386 = .ok (.aload_n 2, 1) := by decide +kernel
theorem dL_law_387 : decode cL_law 387 = .ok (.aload_n 0, 1) := by decide +kernel
theorem dL_law_388 : decode cL_law 388 = .ok (.iload_n 3, 1) := by decide +kernel
theorem dL_law_389 : decode cL_law 389 = .ok (.iconst 1, 1) := by decide +kernel
theorem dL_law_390 : decode cL_law 390 = .ok (.iadd, 1) := by decide +kernel
theorem dL_law_391 : decode cL_law 391 = .ok (.iaload, 1) := by decide +kernel
theorem dL_law_392 : decode cL_law 392 = .ok (.invokevirtual 55, 3) := by decide +kernel
theorem dL_law_395 : decode cL_law 395 = .ok (.if_icmp .eq 578, 3) := by decide +kernel
theorem dL_law_398 : decode cL_law 398 = .ok (.iconst 0, 1) := by decide +kernel
theorem dL_law_399 : decode cL_law 399 = .ok (.ireturn, 1) := by decide +kernel
theorem dL_law_400 : decode cL_law 400 = .ok (.aload_n 1, 1) := by decide +kernel
theorem dL_law_401 : decode cL_law 401 = .ok (.aload_n 0, 1) := by decide +kernel
theorem dL_law_402 : decode cL_law 402 = .ok (.iload_n 3, 1) := by decide +kernel
theorem dL_law_403 : decode cL_law 403 = .ok (.iconst 1, 1) := by decide +kernel
theorem dL_law_404 : decode cL_law 404 = .ok (.iadd, 1) := by decide +kernel
theorem dL_law_405 : decode cL_law 405 = .ok (.iaload, 1) := by decide +kernel
theorem dL_law_406 : decode cL_law 406 = .ok (.aload_n 0, 1) := by decide +kernel
theorem dL_law_407 : decode cL_law 407 = .ok (.iload_n 3, 1) := by decide +kernel
theorem dL_law_408 : decode cL_law 408 = .ok (.iconst 2, 1) := by decide +kernel
theorem dL_law_409 : decode cL_law 409 = .ok (.iadd, 1) := by decide +kernel
theorem dL_law_410 : decode cL_law 410 = .ok (.iaload, 1) := by decide +kernel
theorem dL_law_411 : decode cL_law 411 = .ok (.aload_n 0, 1) := by decide +kernel
theorem dL_law_412 : decode cL_law 412 = .ok (.iload_n 3, 1) := by decide +kernel
theorem dL_law_413 : decode cL_law 413 = .ok (.iconst 3, 1) := by decide +kernel
theorem dL_law_414 : decode cL_law 414 = .ok (.iadd, 1) := by decide +kernel
theorem dL_law_415 : decode cL_law 415 = .ok (.iaload, 1) := by decide +kernel
theorem dL_law_416 : decode cL_law 416 = .ok (.aload_n 0, 1) := by decide +kernel
theorem dL_law_417 : decode cL_law 417 = .ok (.iload_n 3, 1) := by decide +kernel
theorem dL_law_418 : decode cL_law 418 = .ok (.iconst 4, 1) := by decide +kernel
theorem dL_law_419 : decode cL_law 419 = .ok (.iadd, 1) := by decide +kernel
theorem dL_law_420 : decode cL_law 420 = .ok (.iaload, 1) := by decide +kernel
theorem dL_law_421 : decode cL_law 421 = .ok (.invokevirtual 56, 3) := by decide +kernel
theorem dL_law_424 : decode cL_law 424 = .ok (.aload_n 2, 1) := by decide +kernel
theorem dL_law_425 : decode cL_law 425 = .ok (.aload_n 0, 1) := by decide +kernel
theorem dL_law_426 : decode cL_law 426 = .ok (.iload_n 3, 1) := by decide +kernel
theorem dL_law_427 : decode cL_law 427 = .ok (.iconst 1, 1) := by decide +kernel
theorem dL_law_428 : decode cL_law 428 = .ok (.iadd, 1) := by decide +kernel
theorem dL_law_429 : decode cL_law 429 = .ok (.iaload, 1) := by decide +kernel
theorem dL_law_430 : decode cL_law 430 = .ok (.aload_n 0, 1) := by decide +kernel
theorem dL_law_431 : decode cL_law 431 = .ok (.iload_n 3, 1) := by decide +kernel
theorem dL_law_432 : decode cL_law 432 = .ok (.iconst 2, 1) := by decide +kernel
theorem dL_law_433 : decode cL_law 433 = .ok (.iadd, 1) := by decide +kernel
theorem dL_law_434 : decode cL_law 434 = .ok (.iaload, 1) := by decide +kernel
theorem dL_law_435 : decode cL_law 435 = .ok (.aload_n 0, 1) := by decide +kernel
theorem dL_law_436 : decode cL_law 436 = .ok (.iload_n 3, 1) := by decide +kernel
theorem dL_law_437 : decode cL_law 437 = .ok (.iconst 3, 1) := by decide +kernel
theorem dL_law_438 : decode cL_law 438 = .ok (.iadd, 1) := by decide +kernel
theorem dL_law_439 : decode cL_law 439 = .ok (.iaload, 1) := by decide +kernel
theorem dL_law_440 : decode cL_law 440 = .ok (.aload_n 0, 1) := by decide +kernel
theorem dL_law_441 : decode cL_law 441 = .ok (.iload_n 3, 1) := by decide +kernel
theorem dL_law_442 : decode cL_law 442 = .ok (.iconst 4, 1) := by decide +kernel
theorem dL_law_443 : decode cL_law 443 = .ok (.iadd, 1) := by decide +kernel
theorem dL_law_444 : decode cL_law 444 = .ok (.iaload, 1) := by decide +kernel
theorem dL_law_445 : decode cL_law 445 = .ok (.invokevirtual 60, 3) := by decide +kernel
theorem dL_law_448 : decode cL_law 448 = .ok (.if_icmp .eq 525, 3) := by decide +kernel
theorem dL_law_451 : decode cL_law 451 = .ok (.iconst 0, 1) := by decide +kernel
theorem dL_law_452 : decode cL_law 452 = .ok (.ireturn, 1) := by decide +kernel
theorem dL_law_453 : decode cL_law 453 = .ok (.aload_n 1, 1) := by decide +kernel
theorem dL_law_454 : decode cL_law 454 = .ok (.invokevirtual 61, 3) := by decide +kernel
theorem dL_law_457 : decode cL_law 457 = .ok (.aload_n 2, 1) := by decide +kernel
theorem dL_law_458 : decode cL_law 458 = .ok (.invokevirtual 64, 3) := by decide +kernel
theorem dL_law_461 : decode cL_law 461 = .ok (.if_icmp .eq 512, 3) := by decide +kernel
theorem dL_law_464 : decode cL_law 464 = .ok (.iconst 0, 1) := by decide +kernel
theorem dL_law_465 : decode cL_law 465 = .ok (.ireturn, 1) := by decide +kernel
theorem dL_law_466 : decode cL_law 466 = .ok (.aload_n 1, 1) := by decide +kernel
theorem dL_law_467 : decode cL_law 467 = .ok (.aload_n 0, 1) := by decide +kernel
theorem dL_law_468 : decode cL_law 468 = .ok (.iload_n 3, 1) := by decide +kernel
theorem dL_law_469 : decode cL_law 469 = .ok (.iconst 1, 1) := by decide +kernel
theorem dL_law_470 : decode cL_law 470 = .ok (.iadd, 1) := by decide +kernel
theorem dL_law_471 : decode cL_law 471 = .ok (.iaload, 1) := by decide +kernel
theorem dL_law_472 : decode cL_law 472 = .ok (.aload_n 0, 1) := by decide +kernel
theorem dL_law_473 : decode cL_law 473 = .ok (.iload_n 3, 1) := by decide +kernel
theorem dL_law_474 : decode cL_law 474 = .ok (.iconst 2, 1) := by decide +kernel
theorem dL_law_475 : decode cL_law 475 = .ok (.iadd, 1) := by decide +kernel
theorem dL_law_476 : decode cL_law 476 = .ok (.iaload, 1) := by decide +kernel
theorem dL_law_477 : decode cL_law 477 = .ok (.invokevirtual 65, 3) := by decide +kernel
theorem dL_law_480 : decode cL_law 480 = .ok (.aload_n 2, 1) := by decide +kernel
theorem dL_law_481 : decode cL_law 481 = .ok (.aload_n 0, 1) := by decide +kernel
theorem dL_law_482 : decode cL_law 482 = .ok (.iload_n 3, 1) := by decide +kernel
theorem dL_law_483 : decode cL_law 483 = .ok (.iconst 1, 1) := by decide +kernel
theorem dL_law_484 : decode cL_law 484 = .ok (.iadd, 1) := by decide +kernel
theorem dL_law_485 : decode cL_law 485 = .ok (.iaload, 1) := by decide +kernel
theorem dL_law_486 : decode cL_law 486 = .ok (.aload_n 0, 1) := by decide +kernel
theorem dL_law_487 : decode cL_law 487 = .ok (.iload_n 3, 1) := by decide +kernel
theorem dL_law_488 : decode cL_law 488 = .ok (.iconst 2, 1) := by decide +kernel
theorem dL_law_489 : decode cL_law 489 = .ok (.iadd, 1) := by decide +kernel
theorem dL_law_490 : decode cL_law 490 = .ok (.iaload, 1) := by decide +kernel
theorem dL_law_491 : decode cL_law 491 = .ok (.invokevirtual 68, 3) := by decide +kernel
theorem dL_law_494 : decode cL_law 494 = .ok (.if_icmp .eq 479, 3) := by decide +kernel
theorem dL_law_497 : decode cL_law 497 = .ok (.iconst 0, 1) := by decide +kernel
theorem dL_law_498 : decode cL_law 498 = .ok (.ireturn, 1) := by decide +kernel
theorem dL_law_499 : decode cL_law 499 = .ok (.aload_n 1, 1) := by decide +kernel
theorem dL_law_500 : decode cL_law 500 = .ok (.invokevirtual 69, 3) := by decide +kernel
theorem dL_law_503 : decode cL_law 503 = .ok (.aload_n 2, 1) := by decide +kernel
theorem dL_law_504 : decode cL_law 504 = .ok (.invokevirtual 72, 3) := by decide +kernel
theorem dL_law_507 : decode cL_law 507 = .ok (.if_icmp .eq 466, 3) := by decide +kernel
theorem dL_law_510 : decode cL_law 510 = .ok (.iconst 0, 1) := by decide +kernel
theorem dL_law_511 : decode cL_law 511 = .ok (.ireturn, 1) := by decide +kernel
theorem dL_law_512 : decode cL_law 512 = .ok (.aload_n 1, 1) := by decide +kernel
theorem dL_law_513 : decode cL_law 513 = .ok (.aload_n 0, 1) := by decide +kernel
theorem dL_law_514 : decode cL_law 514 = .ok (.iload_n 3, 1) := by decide +kernel
theorem dL_law_515 : decode cL_law 515 = .ok (.iconst 1, 1) := by decide +kernel
theorem dL_law_516 : decode cL_law 516 = .ok (.iadd, 1) := by decide +kernel
theorem dL_law_517 : decode cL_law 517 = .ok (.iaload, 1) := by decide +kernel
theorem dL_law_518 : decode cL_law 518 = .ok (.invokevirtual 73, 3) := by decide +kernel
theorem dL_law_521 : decode cL_law 521 = .ok (.aload_n 2, 1) := by decide +kernel
theorem dL_law_522 : decode cL_law 522 = .ok (.aload_n 0, 1) := by decide +kernel
theorem dL_law_523 : decode cL_law 523 = .ok (.iload_n 3, 1) := by decide +kernel
theorem dL_law_524 : decode cL_law 524 = .ok (.iconst 1, 1) := by decide +kernel
theorem dL_law_525 : decode cL_law 525 = .ok (.iadd, 1) := by decide +kernel
theorem dL_law_526 : decode cL_law 526 = .ok (.iaload, 1) := by decide +kernel
theorem dL_law_527 : decode cL_law 527 = .ok (.invokevirtual 76, 3) := by decide +kernel
theorem dL_law_530 : decode cL_law 530 = .ok (.if_icmp .eq 443, 3) := by decide +kernel
theorem dL_law_533 : decode cL_law 533 = .ok (.iconst 0, 1) := by decide +kernel
theorem dL_law_534 : decode cL_law 534 = .ok (.ireturn, 1) := by decide +kernel
theorem dL_law_535 : decode cL_law 535 = .ok (.aload_n 1, 1) := by decide +kernel
theorem dL_law_536 : decode cL_law 536 = .ok (.invokevirtual 77, 3) := by decide +kernel
theorem dL_law_539 : decode cL_law 539 = .ok (.aload_n 2, 1) := by decide +kernel
theorem dL_law_540 : decode cL_law 540 = .ok (.invokevirtual 80, 3) := by decide +kernel
theorem dL_law_543 : decode cL_law 543 = .ok (.if_icmp .eq 430, 3) := by decide +kernel
theorem dL_law_546 : decode cL_law 546 = .ok (.iconst 0, 1) := by decide +kernel
theorem dL_law_547 : decode cL_law 547 = .ok (.ireturn, 1) := by decide +kernel
theorem dL_law_548 : decode cL_law 548 = .ok (.aload_n 1, 1) := by decide +kernel
theorem dL_law_549 : decode cL_law 549 = .ok (.aload_n 0, 1) := by decide +kernel
theorem dL_law_550 : decode cL_law 550 = .ok (.iload_n 3, 1) := by decide +kernel
theorem dL_law_551 : decode cL_law 551 = .ok (.iconst 1, 1) := by decide +kernel
theorem dL_law_552 : decode cL_law 552 = .ok (.iadd, 1) := by decide +kernel
theorem dL_law_553 : decode cL_law 553 = .ok (.iaload, 1) := by decide +kernel
theorem dL_law_554 : decode cL_law 554 = .ok (.aload_n 0, 1) := by decide +kernel
theorem dL_law_555 : decode cL_law 555 = .ok (.iload_n 3, 1) := by decide +kernel
theorem dL_law_556 : decode cL_law 556 = .ok (.iconst 2, 1) := by decide +kernel
theorem dL_law_557 : decode cL_law 557 = .ok (.iadd, 1) := by decide +kernel
theorem dL_law_558 : decode cL_law 558 = .ok (.iaload, 1) := by decide +kernel
theorem dL_law_559 : decode cL_law 559 = .ok (.i2l, 1) := by decide +kernel
theorem dL_law_560 : decode cL_law 560 = .ok (.bipush 32, 2) := by decide +kernel
theorem dL_law_562 : decode cL_law 562 = .ok (.lshl, 1) := by decide +kernel
theorem dL_law_563 : decode cL_law 563 = .ok (.aload_n 0, 1) := by decide +kernel
theorem dL_law_564 : decode cL_law 564 = .ok (.iload_n 3, 1) := by decide +kernel
theorem dL_law_565 : decode cL_law 565 = .ok (.iconst 3, 1) := by decide +kernel
theorem dL_law_566 : decode cL_law 566 = .ok (.iadd, 1) := by decide +kernel
theorem dL_law_567 : decode cL_law 567 = .ok (.iaload, 1) := by decide +kernel
theorem dL_law_568 : decode cL_law 568 = .ok (.i2l, 1) := by decide +kernel
theorem dL_law_569 : decode cL_law 569 = .ok (.ldc2_w 81, 3) := by decide +kernel
theorem dL_law_572 : decode cL_law 572 = .ok (.land, 1) := by decide +kernel
theorem dL_law_573 : decode cL_law 573 = .ok (.lor, 1) := by decide +kernel
theorem dL_law_574 : decode cL_law 574 = .ok (.invokevirtual 83, 3) := by decide +kernel
theorem dL_law_577 : decode cL_law 577 = .ok (.aload_n 2, 1) := by decide +kernel
theorem dL_law_578 : decode cL_law 578 = .ok (.aload_n 0, 1) := by decide +kernel
theorem dL_law_579 : decode cL_law 579 = .ok (.iload_n 3, 1) := by decide +kernel
theorem dL_law_580 : decode cL_law 580 = .ok (.iconst 1, 1) := by decide +kernel
theorem dL_law_581 : decode cL_law 581 = .ok (.iadd, 1) := by decide +kernel
theorem dL_law_582 : decode cL_law 582 = .ok (.iaload, 1) := by decide +kernel
theorem dL_law_583 : decode cL_law 583 = .ok (.aload_n 0, 1) := by decide +kernel
theorem dL_law_584 : decode cL_law 584 = .ok (.iload_n 3, 1) := by decide +kernel
theorem dL_law_585 : decode cL_law 585 = .ok (.iconst 2, 1) := by decide +kernel
theorem dL_law_586 : decode cL_law 586 = .ok (.iadd, 1) := by decide +kernel
theorem dL_law_587 : decode cL_law 587 = .ok (.iaload, 1) := by decide +kernel
theorem dL_law_588 : decode cL_law 588 = .ok (.i2l, 1) := by decide +kernel
theorem dL_law_589 : decode cL_law 589 = .ok (.bipush 32, 2) := by decide +kernel
theorem dL_law_591 : decode cL_law 591 = .ok (.lshl, 1) := by decide +kernel
theorem dL_law_592 : decode cL_law 592 = .ok (.aload_n 0, 1) := by decide +kernel
theorem dL_law_593 : decode cL_law 593 = .ok (.iload_n 3, 1) := by decide +kernel
theorem dL_law_594 : decode cL_law 594 = .ok (.iconst 3, 1) := by decide +kernel
theorem dL_law_595 : decode cL_law 595 = .ok (.iadd, 1) := by decide +kernel
theorem dL_law_596 : decode cL_law 596 = .ok (.iaload, 1) := by decide +kernel
theorem dL_law_597 : decode cL_law 597 = .ok (.i2l, 1) := by decide +kernel
theorem dL_law_598 : decode cL_law 598 = .ok (.ldc2_w 81, 3) := by decide +kernel
theorem dL_law_601 : decode cL_law 601 = .ok (.land, 1) := by decide +kernel
theorem dL_law_602 : decode cL_law 602 = .ok (.lor, 1) := by decide +kernel
theorem dL_law_603 : decode cL_law 603 = .ok (.invokevirtual 87, 3) := by decide +kernel
theorem dL_law_606 : decode cL_law 606 = .ok (.if_icmp .eq 367, 3) := by decide +kernel
theorem dL_law_609 : decode cL_law 609 = .ok (.iconst 0, 1) := by decide +kernel
theorem dL_law_610 : decode cL_law 610 = .ok (.ireturn, 1) := by decide +kernel
theorem dL_law_611 : decode cL_law 611 = .ok (.aload_n 1, 1) := by decide +kernel
theorem dL_law_612 : decode cL_law 612 = .ok (.aload_n 0, 1) := by decide +kernel
theorem dL_law_613 : decode cL_law 613 = .ok (.iload_n 3, 1) := by decide +kernel
theorem dL_law_614 : decode cL_law 614 = .ok (.iconst 1, 1) := by decide +kernel
theorem dL_law_615 : decode cL_law 615 = .ok (.iadd, 1) := by decide +kernel
theorem dL_law_616 : decode cL_law 616 = .ok (.iaload, 1) := by decide +kernel
theorem dL_law_617 : decode cL_law 617 = .ok (.aload_n 0, 1) := by decide +kernel
theorem dL_law_618 : decode cL_law 618 = .ok (.iload_n 3, 1) := by decide +kernel
theorem dL_law_619 : decode cL_law 619 = .ok (.iconst 2, 1) := by decide +kernel
theorem dL_law_620 : decode cL_law 620 = .ok (.iadd, 1) := by decide +kernel
theorem dL_law_621 : decode cL_law 621 = .ok (.iaload, 1) := by decide +kernel
theorem dL_law_622 : decode cL_law 622 = .ok (.aload_n 0, 1) := by decide +kernel
theorem dL_law_623 : decode cL_law 623 = .ok (.iload_n 3, 1) := by decide +kernel
theorem dL_law_624 : decode cL_law 624 = .ok (.iconst 3, 1) := by decide +kernel
theorem dL_law_625 : decode cL_law 625 = .ok (.iadd, 1) := by decide +kernel
theorem dL_law_626 : decode cL_law 626 = .ok (.iaload, 1) := by decide +kernel
theorem dL_law_627 : decode cL_law 627 = .ok (.invokevirtual 88, 3) := by decide +kernel
theorem dL_law_630 : decode cL_law 630 = .ok (.aload_n 2, 1) := by decide +kernel
theorem dL_law_631 : decode cL_law 631 = .ok (.aload_n 0, 1) := by decide +kernel
theorem dL_law_632 : decode cL_law 632 = .ok (.iload_n 3, 1) := by decide +kernel
theorem dL_law_633 : decode cL_law 633 = .ok (.iconst 1, 1) := by decide +kernel
theorem dL_law_634 : decode cL_law 634 = .ok (.iadd, 1) := by decide +kernel
theorem dL_law_635 : decode cL_law 635 = .ok (.iaload, 1) := by decide +kernel
theorem dL_law_636 : decode cL_law 636 = .ok (.aload_n 0, 1) := by decide +kernel
theorem dL_law_637 : decode cL_law 637 = .ok (.iload_n 3, 1) := by decide +kernel
theorem dL_law_638 : decode cL_law 638 = .ok (.iconst 2, 1) := by decide +kernel
theorem dL_law_639 : decode cL_law 639 = .ok (.iadd, 1) := by decide +kernel
theorem dL_law_640 : decode cL_law 640 = .ok (.iaload, 1) := by decide +kernel
theorem dL_law_641 : decode cL_law 641 = .ok (.aload_n 0, 1) := by decide +kernel
theorem dL_law_642 : decode cL_law 642 = .ok (.iload_n 3, 1) := by decide +kernel
theorem dL_law_643 : decode cL_law 643 = .ok (.iconst 3, 1) := by decide +kernel
theorem dL_law_644 : decode cL_law 644 = .ok (.iadd, 1) := by decide +kernel
theorem dL_law_645 : decode cL_law 645 = .ok (.iaload, 1) := by decide +kernel
theorem dL_law_646 : decode cL_law 646 = .ok (.invokevirtual 92, 3) := by decide +kernel
theorem dL_law_649 : decode cL_law 649 = .ok (.if_icmp .eq 324, 3) := by decide +kernel
theorem dL_law_652 : decode cL_law 652 = .ok (.iconst 0, 1) := by decide +kernel
theorem dL_law_653 : decode cL_law 653 = .ok (.ireturn, 1) := by decide +kernel
theorem dL_law_654 : decode cL_law 654 = .ok (.aload_n 1, 1) := by decide +kernel
theorem dL_law_655 : decode cL_law 655 = .ok (.invokevirtual 93, 3) := by decide +kernel
theorem dL_law_658 : decode cL_law 658 = .ok (.aload_n 2, 1) := by decide +kernel
theorem dL_law_659 : decode cL_law 659 = .ok (.invokevirtual 96, 3) := by decide +kernel
theorem dL_law_662 : decode cL_law 662 = .ok (.if_icmp .eq 311, 3) := by decide +kernel
theorem dL_law_665 : decode cL_law 665 = .ok (.iconst 0, 1) := by decide +kernel
theorem dL_law_666 : decode cL_law 666 = .ok (.ireturn, 1) := by decide +kernel
theorem dL_law_667 : decode cL_law 667 = .ok (.aload_n 1, 1) := by decide +kernel
theorem dL_law_668 : decode cL_law 668 = .ok (.aload_n 0, 1) := by decide +kernel
theorem dL_law_669 : decode cL_law 669 = .ok (.iload_n 3, 1) := by decide +kernel
theorem dL_law_670 : decode cL_law 670 = .ok (.iconst 1, 1) := by decide +kernel
theorem dL_law_671 : decode cL_law 671 = .ok (.iadd, 1) := by decide +kernel
theorem dL_law_672 : decode cL_law 672 = .ok (.iaload, 1) := by decide +kernel
theorem dL_law_673 : decode cL_law 673 = .ok (.invokevirtual 97, 3) := by decide +kernel
theorem dL_law_676 : decode cL_law 676 = .ok (.aload_n 2, 1) := by decide +kernel
theorem dL_law_677 : decode cL_law 677 = .ok (.aload_n 0, 1) := by decide +kernel
theorem dL_law_678 : decode cL_law 678 = .ok (.iload_n 3, 1) := by decide +kernel
theorem dL_law_679 : decode cL_law 679 = .ok (.iconst 1, 1) := by decide +kernel
theorem dL_law_680 : decode cL_law 680 = .ok (.iadd, 1) := by decide +kernel
theorem dL_law_681 : decode cL_law 681 = .ok (.iaload, 1) := by decide +kernel
theorem dL_law_682 : decode cL_law 682 = .ok (.invokevirtual 100, 3) := by decide +kernel
theorem dL_law_685 : decode cL_law 685 = .ok (.if_icmp .eq 288, 3) := by decide +kernel
theorem dL_law_688 : decode cL_law 688 = .ok (.iconst 0, 1) := by decide +kernel
theorem dL_law_689 : decode cL_law 689 = .ok (.ireturn, 1) := by decide +kernel
theorem dL_law_690 : decode cL_law 690 = .ok (.aload_n 1, 1) := by decide +kernel
theorem dL_law_691 : decode cL_law 691 = .ok (.aload_n 0, 1) := by decide +kernel
theorem dL_law_692 : decode cL_law 692 = .ok (.iload_n 3, 1) := by decide +kernel
theorem dL_law_693 : decode cL_law 693 = .ok (.iconst 1, 1) := by decide +kernel
theorem dL_law_694 : decode cL_law 694 = .ok (.iadd, 1) := by decide +kernel
theorem dL_law_695 : decode cL_law 695 = .ok (.iaload, 1) := by decide +kernel
theorem dL_law_696 : decode cL_law 696 = .ok (.aload_n 0, 1) := by decide +kernel
theorem dL_law_697 : decode cL_law 697 = .ok (.iload_n 3, 1) := by decide +kernel
theorem dL_law_698 : decode cL_law 698 = .ok (.iconst 2, 1) := by decide +kernel
theorem dL_law_699 : decode cL_law 699 = .ok (.iadd, 1) := by decide +kernel
theorem dL_law_700 : decode cL_law 700 = .ok (.iaload, 1) := by decide +kernel
theorem dL_law_701 : decode cL_law 701 = .ok (.ifCond .eq 7, 3) := by decide +kernel
theorem dL_law_704 : decode cL_law 704 = .ok (.iconst 1, 1) := by decide +kernel
theorem dL_law_705 : decode cL_law 705 = .ok (.goto 4, 3) := by decide +kernel
theorem dL_law_708 : decode cL_law 708 = .ok (.iconst 0, 1) := by decide +kernel
theorem dL_law_709 : decode cL_law 709 = .ok (.invokevirtual 101, 3) := by decide +kernel
theorem dL_law_712 : decode cL_law 712 = .ok (.aload_n 2, 1) := by decide +kernel
theorem dL_law_713 : decode cL_law 713 = .ok (.aload_n 0, 1) := by decide +kernel
theorem dL_law_714 : decode cL_law 714 = .ok (.iload_n 3, 1) := by decide +kernel
theorem dL_law_715 : decode cL_law 715 = .ok (.iconst 1, 1) := by decide +kernel
theorem dL_law_716 : decode cL_law 716 = .ok (.iadd, 1) := by decide +kernel
theorem dL_law_717 : decode cL_law 717 = .ok (.iaload, 1) := by decide +kernel
theorem dL_law_718 : decode cL_law 718 = .ok (.aload_n 0, 1) := by decide +kernel
theorem dL_law_719 : decode cL_law 719 = .ok (.iload_n 3, 1) := by decide +kernel
theorem dL_law_720 : decode cL_law 720 = .ok (.iconst 2, 1) := by decide +kernel
theorem dL_law_721 : decode cL_law 721 = .ok (.iadd, 1) := by decide +kernel
theorem dL_law_722 : decode cL_law 722 = .ok (.iaload, 1) := by decide +kernel
theorem dL_law_723 : decode cL_law 723 = .ok (.ifCond .eq 7, 3) := by decide +kernel
theorem dL_law_726 : decode cL_law 726 = .ok (.iconst 1, 1) := by decide +kernel
theorem dL_law_727 : decode cL_law 727 = .ok (.goto 4, 3) := by decide +kernel
theorem dL_law_730 : decode cL_law 730 = .ok (.iconst 0, 1) := by decide +kernel
theorem dL_law_731 : decode cL_law 731 = .ok (.invokevirtual 105, 3) := by decide +kernel
theorem dL_law_734 : decode cL_law 734 = .ok (.if_icmp .eq 239, 3) := by decide +kernel
theorem dL_law_737 : decode cL_law 737 = .ok (.iconst 0, 1) := by decide +kernel
theorem dL_law_738 : decode cL_law 738 = .ok (.ireturn, 1) := by decide +kernel
theorem dL_law_739 : decode cL_law 739 = .ok (.aload_n 1, 1) := by decide +kernel
theorem dL_law_740 : decode cL_law 740 = .ok (.aload_n 0, 1) := by decide +kernel
theorem dL_law_741 : decode cL_law 741 = .ok (.iload_n 3, 1) := by decide +kernel
theorem dL_law_742 : decode cL_law 742 = .ok (.iconst 1, 1) := by decide +kernel
theorem dL_law_743 : decode cL_law 743 = .ok (.iadd, 1) := by decide +kernel
theorem dL_law_744 : decode cL_law 744 = .ok (.iaload, 1) := by decide +kernel
theorem dL_law_745 : decode cL_law 745 = .ok (.ifCond .eq 7, 3) := by decide +kernel
theorem dL_law_748 : decode cL_law 748 = .ok (.iconst 1, 1) := by decide +kernel
theorem dL_law_749 : decode cL_law 749 = .ok (.goto 4, 3) := by decide +kernel
theorem dL_law_752 : decode cL_law 752 = .ok (.iconst 0, 1) := by decide +kernel
theorem dL_law_753 : decode cL_law 753 = .ok (.invokevirtual 106, 3) := by decide +kernel
theorem dL_law_756 : decode cL_law 756 = .ok (.aload_n 2, 1) := by decide +kernel
theorem dL_law_757 : decode cL_law 757 = .ok (.aload_n 0, 1) := by decide +kernel
theorem dL_law_758 : decode cL_law 758 = .ok (.iload_n 3, 1) := by decide +kernel
theorem dL_law_759 : decode cL_law 759 = .ok (.iconst 1, 1) := by decide +kernel
theorem dL_law_760 : decode cL_law 760 = .ok (.iadd, 1) := by decide +kernel
theorem dL_law_761 : decode cL_law 761 = .ok (.iaload, 1) := by decide +kernel
theorem dL_law_762 : decode cL_law 762 = .ok (.ifCond .eq 7, 3) := by decide +kernel
theorem dL_law_765 : decode cL_law 765 = .ok (.iconst 1, 1) := by decide +kernel
theorem dL_law_766 : decode cL_law 766 = .ok (.goto 4, 3) := by decide +kernel
theorem dL_law_769 : decode cL_law 769 = .ok (.iconst 0, 1) := by decide +kernel
theorem dL_law_770 : decode cL_law 770 = .ok (.invokevirtual 110, 3) := by decide +kernel
theorem dL_law_773 : decode cL_law 773 = .ok (.if_icmp .eq 200, 3) := by decide +kernel
theorem dL_law_776 : decode cL_law 776 = .ok (.iconst 0, 1) := by decide +kernel
theorem dL_law_777 : decode cL_law 777 = .ok (.ireturn, 1) := by decide +kernel
theorem dL_law_778 : decode cL_law 778 = .ok (.aload_n 1, 1) := by decide +kernel
theorem dL_law_779 : decode cL_law 779 = .ok (.aload_n 0, 1) := by decide +kernel
theorem dL_law_780 : decode cL_law 780 = .ok (.iload_n 3, 1) := by decide +kernel
theorem dL_law_781 : decode cL_law 781 = .ok (.iconst 1, 1) := by decide +kernel
theorem dL_law_782 : decode cL_law 782 = .ok (.iadd, 1) := by decide +kernel
theorem dL_law_783 : decode cL_law 783 = .ok (.iaload, 1) := by decide +kernel
theorem dL_law_784 : decode cL_law 784 = .ok (.aload_n 0, 1) := by decide +kernel
theorem dL_law_785 : decode cL_law 785 = .ok (.iload_n 3, 1) := by decide +kernel
theorem dL_law_786 : decode cL_law 786 = .ok (.iconst 2, 1) := by decide +kernel
theorem dL_law_787 : decode cL_law 787 = .ok (.iadd, 1) := by decide +kernel
theorem dL_law_788 : decode cL_law 788 = .ok (.iaload, 1) := by decide +kernel
theorem dL_law_789 : decode cL_law 789 = .ok (.ifCond .eq 7, 3) := by decide +kernel
theorem dL_law_792 : decode cL_law 792 = .ok (.iconst 1, 1) := by decide +kernel
theorem dL_law_793 : decode cL_law 793 = .ok (.goto 4, 3) := by decide +kernel
theorem dL_law_796 : decode cL_law 796 = .ok (.iconst 0, 1) := by decide +kernel
theorem dL_law_797 : decode cL_law 797 = .ok (.invokevirtual 111, 3) := by decide +kernel
theorem dL_law_800 : decode cL_law 800 = .ok (.aload_n 2, 1) := by decide +kernel
theorem dL_law_801 : decode cL_law 801 = .ok (.aload_n 0, 1) := by decide +kernel
theorem dL_law_802 : decode cL_law 802 = .ok (.iload_n 3, 1) := by decide +kernel
theorem dL_law_803 : decode cL_law 803 = .ok (.iconst 1, 1) := by decide +kernel
theorem dL_law_804 : decode cL_law 804 = .ok (.iadd, 1) := by decide +kernel
theorem dL_law_805 : decode cL_law 805 = .ok (.iaload, 1) := by decide +kernel
theorem dL_law_806 : decode cL_law 806 = .ok (.aload_n 0, 1) := by decide +kernel
theorem dL_law_807 : decode cL_law 807 = .ok (.iload_n 3, 1) := by decide +kernel
theorem dL_law_808 : decode cL_law 808 = .ok (.iconst 2, 1) := by decide +kernel
theorem dL_law_809 : decode cL_law 809 = .ok (.iadd, 1) := by decide +kernel
theorem dL_law_810 : decode cL_law 810 = .ok (.iaload, 1) := by decide +kernel
theorem dL_law_811 : decode cL_law 811 = .ok (.ifCond .eq 7, 3) := by decide +kernel
theorem dL_law_814 : decode cL_law 814 = .ok (.iconst 1, 1) := by decide +kernel
theorem dL_law_815 : decode cL_law 815 = .ok (.goto 4, 3) := by decide +kernel
theorem dL_law_818 : decode cL_law 818 = .ok (.iconst 0, 1) := by decide +kernel
theorem dL_law_819 : decode cL_law 819 = .ok (.invokevirtual 114, 3) := by decide +kernel
theorem dL_law_822 : decode cL_law 822 = .ok (.if_icmp .eq 151, 3) := by decide +kernel
theorem dL_law_825 : decode cL_law 825 = .ok (.iconst 0, 1) := by decide +kernel
theorem dL_law_826 : decode cL_law 826 = .ok (.ireturn, 1) := by decide +kernel
theorem dL_law_827 : decode cL_law 827 = .ok (.aload_n 1, 1) := by decide +kernel
theorem dL_law_828 : decode cL_law 828 = .ok (.aload_n 0, 1) := by decide +kernel
theorem dL_law_829 : decode cL_law 829 = .ok (.iload_n 3, 1) := by decide +kernel
theorem dL_law_830 : decode cL_law 830 = .ok (.iconst 1, 1) := by decide +kernel
theorem dL_law_831 : decode cL_law 831 = .ok (.iadd, 1) := by decide +kernel
theorem dL_law_832 : decode cL_law 832 = .ok (.iaload, 1) := by decide +kernel
theorem dL_law_833 : decode cL_law 833 = .ok (.i2l, 1) := by decide +kernel
theorem dL_law_834 : decode cL_law 834 = .ok (.bipush 32, 2) := by decide +kernel
theorem dL_law_836 : decode cL_law 836 = .ok (.lshl, 1) := by decide +kernel
theorem dL_law_837 : decode cL_law 837 = .ok (.aload_n 0, 1) := by decide +kernel
theorem dL_law_838 : decode cL_law 838 = .ok (.iload_n 3, 1) := by decide +kernel
theorem dL_law_839 : decode cL_law 839 = .ok (.iconst 2, 1) := by decide +kernel
theorem dL_law_840 : decode cL_law 840 = .ok (.iadd, 1) := by decide +kernel
theorem dL_law_841 : decode cL_law 841 = .ok (.iaload, 1) := by decide +kernel
theorem dL_law_842 : decode cL_law 842 = .ok (.i2l, 1) := by decide +kernel
theorem dL_law_843 : decode cL_law 843 = .ok (.ldc2_w 81, 3) := by decide +kernel
theorem dL_law_846 : decode cL_law 846 = .ok (.land, 1) := by decide +kernel
theorem dL_law_847 : decode cL_law 847 = .ok (.lor, 1) := by decide +kernel
theorem dL_law_848 : decode cL_law 848 = .ok (.invokevirtual 115, 3) := by decide +kernel
theorem dL_law_851 : decode cL_law 851 = .ok (.aload_n 2, 1) := by decide +kernel
theorem dL_law_852 : decode cL_law 852 = .ok (.aload_n 0, 1) := by decide +kernel
theorem dL_law_853 : decode cL_law 853 = .ok (.iload_n 3, 1) := by decide +kernel
theorem dL_law_854 : decode cL_law 854 = .ok (.iconst 1, 1) := by decide +kernel
theorem dL_law_855 : decode cL_law 855 = .ok (.iadd, 1) := by decide +kernel
theorem dL_law_856 : decode cL_law 856 = .ok (.iaload, 1) := by decide +kernel
theorem dL_law_857 : decode cL_law 857 = .ok (.i2l, 1) := by decide +kernel
theorem dL_law_858 : decode cL_law 858 = .ok (.bipush 32, 2) := by decide +kernel
theorem dL_law_860 : decode cL_law 860 = .ok (.lshl, 1) := by decide +kernel
theorem dL_law_861 : decode cL_law 861 = .ok (.aload_n 0, 1) := by decide +kernel
theorem dL_law_862 : decode cL_law 862 = .ok (.iload_n 3, 1) := by decide +kernel
theorem dL_law_863 : decode cL_law 863 = .ok (.iconst 2, 1) := by decide +kernel
theorem dL_law_864 : decode cL_law 864 = .ok (.iadd, 1) := by decide +kernel
theorem dL_law_865 : decode cL_law 865 = .ok (.iaload, 1) := by decide +kernel
theorem dL_law_866 : decode cL_law 866 = .ok (.i2l, 1) := by decide +kernel
theorem dL_law_867 : decode cL_law 867 = .ok (.ldc2_w 81, 3) := by decide +kernel
theorem dL_law_870 : decode cL_law 870 = .ok (.land, 1) := by decide +kernel
theorem dL_law_871 : decode cL_law 871 = .ok (.lor, 1) := by decide +kernel
theorem dL_law_872 : decode cL_law 872 = .ok (.invokevirtual 119, 3) := by decide +kernel
theorem dL_law_875 : decode cL_law 875 = .ok (.lcmp, 1) := by decide +kernel
theorem dL_law_876 : decode cL_law 876 = .ok (.ifCond .eq 97, 3) := by decide +kernel
theorem dL_law_879 : decode cL_law 879 = .ok (.iconst 0, 1) := by decide +kernel
theorem dL_law_880 : decode cL_law 880 = .ok (.ireturn, 1) := by decide +kernel
theorem dL_law_881 : decode cL_law 881 = .ok (.aload_n 1, 1) := by decide +kernel
theorem dL_law_882 : decode cL_law 882 = .ok (.aload_n 0, 1) := by decide +kernel
theorem dL_law_883 : decode cL_law 883 = .ok (.iload_n 3, 1) := by decide +kernel
theorem dL_law_884 : decode cL_law 884 = .ok (.iconst 1, 1) := by decide +kernel
theorem dL_law_885 : decode cL_law 885 = .ok (.iadd, 1) := by decide +kernel
theorem dL_law_886 : decode cL_law 886 = .ok (.iaload, 1) := by decide +kernel
theorem dL_law_887 : decode cL_law 887 = .ok (.invokevirtual 120, 3) := by decide +kernel
theorem dL_law_890 : decode cL_law 890 = .ok (.aload_n 2, 1) := by decide +kernel
theorem dL_law_891 : decode cL_law 891 = .ok (.aload_n 0, 1) := by decide +kernel
theorem dL_law_892 : decode cL_law 892 = .ok (.iload_n 3, 1) := by decide +kernel
theorem dL_law_893 : decode cL_law 893 = .ok (.iconst 1, 1) := by decide +kernel
theorem dL_law_894 : decode cL_law 894 = .ok (.iadd, 1) := by decide +kernel
theorem dL_law_895 : decode cL_law 895 = .ok (.iaload, 1) := by decide +kernel
theorem dL_law_896 : decode cL_law 896 = .ok (.invokevirtual 123, 3) := by decide +kernel
theorem dL_law_899 : decode cL_law 899 = .ok (.if_icmp .eq 74, 3) := by decide +kernel
theorem dL_law_902 : decode cL_law 902 = .ok (.iconst 0, 1) := by decide +kernel
theorem dL_law_903 : decode cL_law 903 = .ok (.ireturn, 1) := by decide +kernel
theorem dL_law_904 : decode cL_law 904 = .ok (.aload_n 1, 1) := by decide +kernel
theorem dL_law_905 : decode cL_law 905 = .ok (.aload_n 0, 1) := by decide +kernel
theorem dL_law_906 : decode cL_law 906 = .ok (.iload_n 3, 1) := by decide +kernel
theorem dL_law_907 : decode cL_law 907 = .ok (.iconst 1, 1) := by decide +kernel
theorem dL_law_908 : decode cL_law 908 = .ok (.iadd, 1) := by decide +kernel
theorem dL_law_909 : decode cL_law 909 = .ok (.iaload, 1) := by decide +kernel
theorem dL_law_910 : decode cL_law 910 = .ok (.invokevirtual 124, 3) := by decide +kernel
theorem dL_law_913 : decode cL_law 913 = .ok (.aload_n 2, 1) := by decide +kernel
theorem dL_law_914 : decode cL_law 914 = .ok (.aload_n 0, 1) := by decide +kernel
theorem dL_law_915 : decode cL_law 915 = .ok (.iload_n 3, 1) := by decide +kernel
theorem dL_law_916 : decode cL_law 916 = .ok (.iconst 1, 1) := by decide +kernel
theorem dL_law_917 : decode cL_law 917 = .ok (.iadd, 1) := by decide +kernel
theorem dL_law_918 : decode cL_law 918 = .ok (.iaload, 1) := by decide +kernel
theorem dL_law_919 : decode cL_law 919 = .ok (.invokevirtual 127, 3) := by decide +kernel
theorem dL_law_922 : decode cL_law 922 = .ok (.if_icmp .eq 51, 3) := by decide +kernel
theorem dL_law_925 : decode cL_law 925 = .ok (.iconst 0, 1) := by decide +kernel
theorem dL_law_926 : decode cL_law 926 = .ok (.ireturn, 1) := by decide +kernel
theorem dL_law_927 : decode cL_law 927 = .ok (.aload_n 1, 1) := by decide +kernel
theorem dL_law_928 : decode cL_law 928 = .ok (.aload_n 0, 1) := by decide +kernel
theorem dL_law_929 : decode cL_law 929 = .ok (.iload_n 3, 1) := by decide +kernel
theorem dL_law_930 : decode cL_law 930 = .ok (.iconst 1, 1) := by decide +kernel
theorem dL_law_931 : decode cL_law 931 = .ok (.iadd, 1) := by decide +kernel
theorem dL_law_932 : decode cL_law 932 = .ok (.iaload, 1) := by decide +kernel
theorem dL_law_933 : decode cL_law 933 = .ok (.invokevirtual 128, 3) := by decide +kernel
theorem dL_law_936 : decode cL_law 936 = .ok (.aload_n 2, 1) := by decide +kernel
theorem dL_law_937 : decode cL_law 937 = .ok (.aload_n 0, 1) := by decide +kernel
theorem dL_law_938 : decode cL_law 938 = .ok (.iload_n 3, 1) := by decide +kernel
theorem dL_law_939 : decode cL_law 939 = .ok (.iconst 1, 1) := by decide +kernel
theorem dL_law_940 : decode cL_law 940 = .ok (.iadd, 1) := by decide +kernel
theorem dL_law_941 : decode cL_law 941 = .ok (.iaload, 1) := by decide +kernel
theorem dL_law_942 : decode cL_law 942 = .ok (.invokevirtual 131, 3) := by decide +kernel
theorem dL_law_945 : decode cL_law 945 = .ok (.if_icmp .eq 28, 3) := by decide +kernel
theorem dL_law_948 : decode cL_law 948 = .ok (.iconst 0, 1) := by decide +kernel
theorem dL_law_949 : decode cL_law 949 = .ok (.ireturn, 1) := by decide +kernel
theorem dL_law_950 : decode cL_law 950 = .ok (.aload_n 1, 1) := by decide +kernel
theorem dL_law_951 : decode cL_law 951 = .ok (.aload_n 0, 1) := by decide +kernel
theorem dL_law_952 : decode cL_law 952 = .ok (.iload_n 3, 1) := by decide +kernel
theorem dL_law_953 : decode cL_law 953 = .ok (.iconst 1, 1) := by decide +kernel
theorem dL_law_954 : decode cL_law 954 = .ok (.iadd, 1) := by decide +kernel
theorem dL_law_955 : decode cL_law 955 = .ok (.iaload, 1) := by decide +kernel
theorem dL_law_956 : decode cL_law 956 = .ok (.invokevirtual 132, 3) := by decide +kernel
theorem dL_law_959 : decode cL_law 959 = .ok (.aload_n 2, 1) := by decide +kernel
theorem dL_law_960 : decode cL_law 960 = .ok (.aload_n 0, 1) := by decide +kernel
theorem dL_law_961 : decode cL_law 961 = .ok (.iload_n 3, 1) := by decide +kernel
theorem dL_law_962 : decode cL_law 962 = .ok (.iconst 1, 1) := by decide +kernel
theorem dL_law_963 : decode cL_law 963 = .ok (.iadd, 1) := by decide +kernel
theorem dL_law_964 : decode cL_law 964 = .ok (.iaload, 1) := by decide +kernel
theorem dL_law_965 : decode cL_law 965 = .ok (.invokevirtual 135, 3) := by decide +kernel
theorem dL_law_968 : decode cL_law 968 = .ok (.if_icmp .eq 5, 3) := by decide +kernel
theorem dL_law_971 : decode cL_law 971 = .ok (.iconst 0, 1) := by decide +kernel
theorem dL_law_972 : decode cL_law 972 = .ok (.ireturn, 1) := by decide +kernel
theorem dL_law_973 : decode cL_law 973 = .ok (.iinc 3 5, 3) := by decide +kernel
theorem dL_law_976 : decode cL_law 976 = .ok (.goto (-958), 3) := by decide +kernel
theorem dL_law_979 : decode cL_law 979 = .ok (.iconst 1, 1) := by decide +kernel
theorem dL_law_980 : decode cL_law 980 = .ok (.ireturn, 1) := by decide +kernel
end
section
/-! THE LAYER: the machine's words as whole numbers. (0, x): an int; (1, x): a long; (2, k): the k-th cell that was made, 0 is null; (3, _): nothing; (4, a): the address a. Memory: mm k j is what slot j of cell k holds; rf k j the cell that it refers to, where that never changes; kd k: what cell k is: (0, c) an object of class c, (1, n) ints, (2, n) booleans, (3, n) tasks, (9, _) nothing. -/
abbrev ac_G : Type := Launch × Nat × va_G × (ClassId × ClassId × ClassId) × (Nat × Nat × Nat × (Nat → Int))
abbrev ac_M : Type := Nat → Nat → Int
abbrev ac_Y : Type := Nat × (Nat → Nat × Nat) × (Nat → Nat → Nat)
abbrev ac_P : Type := List (Nat × Int) → ac_Y → ac_M → Prop
def ac_v (base : Nat) : Nat × Int → Value
  | (0, x) => .int (Int32.ofInt x)
  | (1, x) => .long (Int64.ofInt x)
  | (4, x) => .ref x.toNat
  | (_, x) => if x = 0 then .null else .ref (base + (x.toNat - 1))
def ac_tyM : Nat → Nat
  | 1 => 2 | 6 => 2 | 7 => 2 | 8 => 2 | 9 => 2 | 11 => 2 | 12 => 2 | 14 => 2 | 15 => 2 | 16 => 2 | 17 => 1 | 18 => 2 | 19 => 2 | 20 => 2 | 21 => 2 | 23 => 4 | 24 => 4 | 25 => 3 | 26 => 2 | 27 => 2 | _ => 0
/-- kinds of fields: 0 int, 1 long, 2 a cell for ever, 3 a cell that may change, 4 boolean -/
def ac_ty : Nat → Nat → Nat
  | 0, _ => 2
  | 1, 0 => 2 | 1, _ => 0
  | 2, 0 => 2 | 2, 1 => 2 | 2, _ => 0
  | 3, 0 => 2 | 3, 1 => 2 | 3, 2 => 2 | 3, 6 => 4 | 3, _ => 0
  | 4, 0 => 2 | 4, _ => 0
  | 5, 0 => 2 | 5, 1 => 2 | 5, 2 => 2 | 5, 3 => 2 | 5, 4 => 2 | 5, 5 => 2 | 5, 6 => 2 | 5, _ => 0
  | 6, 8 => 1 | 6, _ => 2
  | _, j => ac_tyM j
def ac_N : Nat → Nat
  | 0 => 2 | 1 => 3 | 2 => 3 | 3 => 7 | 4 => 3 | 5 => 15 | 6 => 9 | 7 => 28 | _ => 0
def ac_w (rf : Nat → Nat → Nat) (mm : ac_M) (ci k j : Nat) : Nat × Int := match ac_ty ci j with
  | 1 => (1, mm k j)
  | 2 => (2, (rf k j : Int))
  | 3 => (2, mm k j)
  | _ => (0, mm k j)
def ac_ent (G : ac_G) (Y : ac_Y) (mm : ac_M) (k : Nat) : va_E := match Y.2.1 k with
  | (0, ci) => .inr (ci, (List.range (ac_N ci)).map (fun j => ac_v G.2.1 (ac_w Y.2.2 mm ci k j)))
  | (1, n) => .inl (G.2.2.2.1.1, n, .inl (fun j => Int32.ofInt (mm k j)))
  | (2, n) => .inl (G.2.2.2.1.2.1, n, .inl (fun j => Int32.ofInt (mm k j)))
  | (_, n) => .inl (G.2.2.2.1.2.2, n, .inr (.inr (.inr (.inr (fun j => if Y.2.2 k j = 0 then none else some (G.2.1 + (Y.2.2 k j - 1)))))))
def ac_ws (G : ac_G) (Y : ac_Y) (mm : ac_M) : va_W := (List.range Y.1).map (fun i => (G.2.1 + i, ac_ent G Y mm (i + 1)))
def ac_A (G : ac_G) : Nat → Prop := fun q => G.2.1 ≤ q
def ac_tys (G : ac_G) : List (ClassId × FieldType) := [(G.2.2.2.1.1, .int), (G.2.2.2.1.2.1, .boolean), (G.2.2.2.1.2.2, .object RX3)]
def ac_T : List Cond := lw_tbl.filter goodWord
def ac_isN : Cond → Bool
  | .fieldLinkNest _ _ _ _ _ _ => true
  | .methodLinkNest _ _ _ _ => true
  | _ => false
def ac_Nw (U : State) : Prop := ∀ w ∈ lw_tbl, ac_isN w = true → va_Nw w U
def ac_names : Nat → Int
  | 1 => 1 | 2 => 2 | 4 => 2 | 5 => 1 | 6 => 1 | 8 => 2 | 9 => 1 | 10 => 2 | 12 => 2 | 14 => 1 | 15 => 2 | 16 => 1 | _ => 0
def ac_NM (G : ac_G) (U : State) : Prop := va_Z RX5 "NAMES" "[I" (.ref G.2.2.2.2.1) (ac_A G) U U.heap ∧ va_X G.2.2.2.2.1 18 (fun j => Int32.ofInt (ac_names j)) U U.heap ∧ G.2.2.2.2.1 < G.2.1 ∧ va_X G.2.2.2.2.2.1 G.2.2.2.2.2.2.1 (fun j => Int32.ofInt (G.2.2.2.2.2.2.2 j)) U U.heap ∧ G.2.2.2.2.2.1 < G.2.1
/-- what holds of the state behind every call -/
def ac_B (G : ac_G) (U : State) : Prop := va_K G.2.2.1 vwCl (ac_tys G) U ∧ ac_Nw U ∧ ac_NM G U ∧ G.2.1 ≤ U.heap.size ∧ va_AO RX3 U
def ac_X (G : ac_G) (on : String × String) (cc : ByteArray) (nL : Nat) (ret : Option FieldType) (p : Program) (s : State) (m : MethodId) (args : Array Value) (meth : Method) (c : Code) : Prop :=
  p.tables.exec = Jvm.exec ∧ c.code = cc ∧ c.maxLocals = nL ∧ meth.sig.returnType = ret ∧ meth.locks = false ∧ s.vm.findClass on.1 = some m.cls ∧ (∀ w ∈ ac_T, w.before args s = true) ∧ ac_B G s ∧ meth.name = on.2
def ac_wf (Y : ac_Y) : Prop := ∀ k, (k = 0 ∨ Y.1 < k) → (Y.2.1 k).1 = 9
def ac_H (G : ac_G) (Y : ac_Y) (mm : ac_M) (H : Heap) : Prop := ac_wf Y ∧ va_P G.2.2.1 vwCl (ac_ws G Y mm) H
def ac_enc (base : Nat) (ls : List (Nat × Int)) : List (Nat × Value) := (List.range ls.length).filterMap (fun i => match ls[i]? with
  | some (3, _) => none
  | some w => some (i, ac_v base w)
  | none => none)
def ac_room (d mc ms : Nat) : Room := { frames := 1208 + d, cells := mc, slots := ms, locals := 100 * d }
def ac_Qc (G : ac_G) (P : ac_P) : Array Value → State → Outcome → State → Prop := fun _ st o t =>
  (∃ (r : List (Nat × Int)) (Y : ac_Y) (mm : ac_M), o = .returned (r.map (ac_v G.2.1)).head? ∧ P r Y mm ∧ ac_H G Y mm t.heap ∧ t.heap.size = G.2.1 + Y.1) ∧ va_F (ac_A G) st t
/-- the machine stands at pc of a method, with locals ls and operand stack st, and comes to its end, P of its answer and the world then -/
def ac_V (G : ac_G) (on : String × String) (cc : ByteArray) (nL : Nat) (ret : Option FieldType) (d mc ms : Nat) (P : ac_P) (ck cn : Nat) (Y : ac_Y) (mm : ac_M) (pc : Nat) (ls st : List (Nat × Int)) : Prop :=
  ∀ (p : Program) (e : Env) (s : State) (m : MethodId) (args : Array Value) (below : List Frame) (meth : Method) (c : Code) (H : Heap) (locs : List Loc) (la : Array Slot),
    ac_X G on cc nL ret p s m args meth c → s.heap.size + ck = G.2.1 + Y.1 → ac_H G Y mm H → va_S (ac_A G) s.heap H locs → lv_has la nL (ac_enc G.2.1 ls) →
    W p G.1 e (ac_room d mc ms) s m args below meth c H locs ck cn (MQ below (ac_Qc G P) args s mc ms (ac_A G)) (F0 m pc la (st.map (ac_v G.2.1)))
/-- a method's contract -/
def ac_C (G : ac_G) (y : MethodName) (cc : ByteArray) (nL : Nat) (ret : Option FieldType) (d mc ms : Nat) (Y : ac_Y) (mm : ac_M) (as : List (Nat × Int)) (P : ac_P) : Prop :=
  Met G.1 y (.code y cc nL ret :: ac_T) (ac_room d mc ms) (fun a U => a = (as.map (ac_v G.2.1)).toArray ∧ ac_H G Y mm U.heap ∧ ac_B G U ∧ U.heap.size = G.2.1 + Y.1) (ac_Qc G P) mc ms (ac_A G)
theorem ac_enc_mem {base : Nat} {ls : List (Nat × Int)} {q : Nat × Value} : q ∈ ac_enc base ls ↔ ∃ w, ls[q.1]? = some w ∧ w.1 ≠ 3 ∧ q.2 = ac_v base w := by
  unfold ac_enc
  rw [List.mem_filterMap]
  constructor
  · rintro ⟨i, -, h⟩
    split at h
    · cases h
    · rename_i w hw hne
      cases h
      refine ⟨w, hne, fun h3 => ?_, rfl⟩
      obtain ⟨a, b⟩ := w
      have h4 : a = 3 := h3
      subst h4; exact hw b rfl
    · cases h
  · rintro ⟨w, h1, h2, h3⟩
    refine ⟨q.1, List.mem_range.mpr (List.getElem?_eq_some_iff.mp h1).1, ?_⟩
    obtain ⟨a, b⟩ := w
    rw [h1]
    split
    · rename_i x h; cases h; exact absurd rfl h2
    · rename_i h; cases h; rw [← h3]
    · rename_i h; cases h
theorem ac_lget {base nL : Nat} {la : Array Slot} {ls : List (Nat × Int)} {i : Nat} {w : Nat × Int} (h : lv_has la nL (ac_enc base ls)) (hl : ls[i]? = some w) (h3 : w.1 ≠ 3) : la[i]? = some (.val (ac_v base w)) :=
  h.2.2 (i, ac_v base w) (ac_enc_mem.mpr ⟨w, hl, h3, rfl⟩)
theorem ac_lweak {base nL : Nat} {la : Array Slot} {l : List (Nat × Value)} {ls : List (Nat × Int)} (h : lv_has la nL l) (hs : ∀ q ∈ ac_enc base ls, q ∈ l) : lv_has la nL (ac_enc base ls) := ⟨h.1, h.2.1, fun q hq => h.2.2 q (hs q hq)⟩
end
section
def ac_in (a : Int) : Prop := -2147483648 ≤ a ∧ a < 2147483648
def ac_il (a : Int) : Prop := -9223372036854775808 ≤ a ∧ a < 9223372036854775808
theorem ac_toInt {a : Int} (h : ac_in a) : (Int32.ofInt a).toInt = a := Int32.toInt_ofInt_of_le (by have := h.1; omega) (by have := h.2; omega)
theorem ac_toIntL {a : Int} (h : ac_il a) : (Int64.ofInt a).toInt = a := Int64.toInt_ofInt_of_le (by have := h.1; omega) (by have := h.2; omega)
theorem ac_lt {a b : Int} (ha : ac_in a) (hb : ac_in b) : Int32.ofInt a < Int32.ofInt b ↔ a < b := by rw [Int32.lt_iff_toInt_lt, ac_toInt ha, ac_toInt hb]
theorem ac_le {a b : Int} (ha : ac_in a) (hb : ac_in b) : Int32.ofInt a ≤ Int32.ofInt b ↔ a ≤ b := by rw [Int32.le_iff_toInt_le, ac_toInt ha, ac_toInt hb]
theorem ac_eq {a b : Int} (ha : ac_in a) (hb : ac_in b) : Int32.ofInt a = Int32.ofInt b ↔ a = b := by rw [← Int32.toInt_inj, ac_toInt ha, ac_toInt hb]
theorem ac_ofIntL_inj {a b : Int} (ha : ac_il a) (hb : ac_il b) : Int64.ofInt a = Int64.ofInt b ↔ a = b := by rw [← Int64.toInt_inj, ac_toIntL ha, ac_toIntL hb]
theorem ac_ltL {a b : Int} (ha : ac_il a) (hb : ac_il b) : Int64.ofInt a < Int64.ofInt b ↔ a < b := by rw [Int64.lt_iff_toInt_lt, ac_toIntL ha, ac_toIntL hb]
theorem ac_in0 : ac_in 0 := ⟨by decide, by decide⟩
theorem ac_cat1 {base : Nat} {w : Nat × Int} (h : w.1 ≠ 1) : (ac_v base w).category = 1 := by
  obtain ⟨a, x⟩ := w
  match a, h with
  | 0, _ => rfl
  | 1, h => exact absurd rfl h
  | 2, _ =>
    show (if x = 0 then Value.null else Value.ref (base + (x.toNat - 1))).category = 1
    split <;> rfl
  | 3, _ =>
    show (if x = 0 then Value.null else Value.ref (base + (x.toNat - 1))).category = 1
    split <;> rfl
  | 4, _ => rfl
  | a + 5, _ =>
    show (if x = 0 then Value.null else Value.ref (base + (x.toNat - 1))).category = 1
    split <;> rfl
section AcOps
variable {G : ac_G} {on : String × String} {cc : ByteArray} {nL : Nat} {ret : Option FieldType} {d mc ms : Nat} {P : ac_P} {ck cn : Nat} {Y : ac_Y} {mm : ac_M} {pc q : Nat} {ls st : List (Nat × Int)}
theorem ac_iload_n {i : Fin 4} {x : Int} (hdg : decode cc pc = .ok (.iload_n i, 1)) (hq : pc + 1 = q) (hl : ls[(i : Nat)]? = some (0, x)) (kk : ac_V G on cc nL ret d mc ms P ck cn Y mm q ls ((0, x) :: st)) : ac_V G on cc nL ret d mc ms P ck cn Y mm pc ls (st) := by
  intro p e s m args below meth c H locs la X hz hH hS hL
  subst hq
  have h := kk p e s m args below meth c H locs la X hz hH hS hL
  exact lv_iload_n X.1 X.2.1 hdg rfl (ac_lget hL hl (show (0:Nat) ≠ 3 by decide)) h
theorem ac_aload_n {i : Fin 4} {x : Int} (hdg : decode cc pc = .ok (.aload_n i, 1)) (hq : pc + 1 = q) (hl : ls[(i : Nat)]? = some (2, x)) (kk : ac_V G on cc nL ret d mc ms P ck cn Y mm q ls ((2, x) :: st)) : ac_V G on cc nL ret d mc ms P ck cn Y mm pc ls (st) := by
  intro p e s m args below meth c H locs la X hz hH hS hL
  subst hq
  have h := kk p e s m args below meth c H locs la X hz hH hS hL
  have g := ac_lget hL hl (show (2:Nat) ≠ 3 by decide)
  simp only [List.map_cons, ac_v] at g h
  split at g
  · rename_i hx0
    rw [if_pos hx0] at h
    exact lv_aload_nN X.1 X.2.1 hdg rfl g h
  · rename_i hx0
    rw [if_neg hx0] at h
    exact lv_aload_n X.1 X.2.1 hdg rfl g h
theorem ac_lload_n {i : Fin 4} {x : Int} (hdg : decode cc pc = .ok (.lload_n i, 1)) (hq : pc + 1 = q) (hl : ls[(i : Nat)]? = some (1, x)) (kk : ac_V G on cc nL ret d mc ms P ck cn Y mm q ls ((1, x) :: st)) : ac_V G on cc nL ret d mc ms P ck cn Y mm pc ls (st) := by
  intro p e s m args below meth c H locs la X hz hH hS hL
  subst hq
  have h := kk p e s m args below meth c H locs la X hz hH hS hL
  exact lv_lload_n X.1 X.2.1 hdg rfl (ac_lget hL hl (show (1:Nat) ≠ 3 by decide)) h
theorem ac_iload {i : Nat} {x : Int} (hdg : decode cc pc = .ok (.iload i, 2)) (hq : pc + 2 = q) (hl : ls[(i : Nat)]? = some (0, x)) (kk : ac_V G on cc nL ret d mc ms P ck cn Y mm q ls ((0, x) :: st)) : ac_V G on cc nL ret d mc ms P ck cn Y mm pc ls (st) := by
  intro p e s m args below meth c H locs la X hz hH hS hL
  subst hq
  have h := kk p e s m args below meth c H locs la X hz hH hS hL
  exact lv_iload X.1 X.2.1 hdg (ac_lget hL hl (show (0:Nat) ≠ 3 by decide)) h
theorem ac_aload {i : Nat} {x : Int} (hdg : decode cc pc = .ok (.aload i, 2)) (hq : pc + 2 = q) (hl : ls[(i : Nat)]? = some (2, x)) (kk : ac_V G on cc nL ret d mc ms P ck cn Y mm q ls ((2, x) :: st)) : ac_V G on cc nL ret d mc ms P ck cn Y mm pc ls (st) := by
  intro p e s m args below meth c H locs la X hz hH hS hL
  subst hq
  have h := kk p e s m args below meth c H locs la X hz hH hS hL
  have g := ac_lget hL hl (show (2:Nat) ≠ 3 by decide)
  simp only [List.map_cons, ac_v] at g h
  split at g
  · rename_i hx0
    rw [if_pos hx0] at h
    exact lv_aloadN X.1 X.2.1 hdg g h
  · rename_i hx0
    rw [if_neg hx0] at h
    exact lv_aload X.1 X.2.1 hdg g h
theorem ac_lload {i : Nat} {x : Int} (hdg : decode cc pc = .ok (.lload i, 2)) (hq : pc + 2 = q) (hl : ls[(i : Nat)]? = some (1, x)) (kk : ac_V G on cc nL ret d mc ms P ck cn Y mm q ls ((1, x) :: st)) : ac_V G on cc nL ret d mc ms P ck cn Y mm pc ls (st) := by
  intro p e s m args below meth c H locs la X hz hH hS hL
  subst hq
  have h := kk p e s m args below meth c H locs la X hz hH hS hL
  exact lv_lload X.1 X.2.1 hdg (ac_lget hL hl (show (1:Nat) ≠ 3 by decide)) h
theorem ac_iconst {n : Int} (hdg : decode cc pc = .ok (.iconst n, 1)) (hq : pc + 1 = q) (kk : ac_V G on cc nL ret d mc ms P ck cn Y mm q ls ((0, n) :: st)) : ac_V G on cc nL ret d mc ms P ck cn Y mm pc ls (st) := by
  intro p e s m args below meth c H locs la X hz hH hS hL
  subst hq
  have h := kk p e s m args below meth c H locs la X hz hH hS hL
  exact lv_iconst X.1 X.2.1 hdg rfl h
theorem ac_bipush {n : Int} (hdg : decode cc pc = .ok (.bipush n, 2)) (hq : pc + 2 = q) (hn : (Int8.ofInt n).toInt32 = Int32.ofInt n) (kk : ac_V G on cc nL ret d mc ms P ck cn Y mm q ls ((0, n) :: st)) : ac_V G on cc nL ret d mc ms P ck cn Y mm pc ls (st) := by
  intro p e s m args below meth c H locs la X hz hH hS hL
  subst hq
  have h := kk p e s m args below meth c H locs la X hz hH hS hL
  exact lv_bipush X.1 X.2.1 hdg hn h
theorem ac_sipush {n : Int} (hdg : decode cc pc = .ok (.sipush n, 3)) (hq : pc + 3 = q) (hn : (Int16.ofInt n).toInt32 = Int32.ofInt n) (kk : ac_V G on cc nL ret d mc ms P ck cn Y mm q ls ((0, n) :: st)) : ac_V G on cc nL ret d mc ms P ck cn Y mm pc ls (st) := by
  intro p e s m args below meth c H locs la X hz hH hS hL
  subst hq
  have h := kk p e s m args below meth c H locs la X hz hH hS hL
  exact lv_sipush X.1 X.2.1 hdg hn h
theorem ac_lconst {n : Fin 2} {v : Int} (hdg : decode cc pc = .ok (.lconst n, 1)) (hq : pc + 1 = q) (hn : Int64.ofNat (n : Nat) = Int64.ofInt v) (kk : ac_V G on cc nL ret d mc ms P ck cn Y mm q ls ((1, v) :: st)) : ac_V G on cc nL ret d mc ms P ck cn Y mm pc ls (st) := by
  intro p e s m args below meth c H locs la X hz hH hS hL
  subst hq
  have h := kk p e s m args below meth c H locs la X hz hH hS hL
  exact lv_lconst X.1 X.2.1 hdg hn h
theorem ac_aconst_null (hdg : decode cc pc = .ok (.aconst_null, 1)) (hq : pc + 1 = q) (kk : ac_V G on cc nL ret d mc ms P ck cn Y mm q ls ((2, 0) :: st)) : ac_V G on cc nL ret d mc ms P ck cn Y mm pc ls (st) := by
  intro p e s m args below meth c H locs la X hz hH hS hL
  subst hq
  have h := kk p e s m args below meth c H locs la X hz hH hS hL
  exact lv_null X.1 X.2.1 hdg h
theorem ac_ldc {i : Nat} {v : Int} (hdg : decode cc pc = .ok (.ldc i, 2)) (hq : pc + 2 = q) (hc : Cond.constant on.1 i (Int32.ofInt v) ∈ ac_T) (kk : ac_V G on cc nL ret d mc ms P ck cn Y mm q ls ((0, v) :: st)) : ac_V G on cc nL ret d mc ms P ck cn Y mm pc ls (st) := by
  intro p e s m args below meth c H locs la X hz hH hS hL
  subst hq
  have h := kk p e s m args below meth c H locs la X hz hH hS hL
  refine lv_ldc X.1 X.2.1 X.2.2.2.2.2.1 (X.2.2.2.2.2.2.1 _ hc) hdg ?_
  exact h
theorem ac_ldc_w {i : Nat} {v : Int} (hdg : decode cc pc = .ok (.ldc_w i, 3)) (hq : pc + 3 = q) (hc : Cond.constant on.1 i (Int32.ofInt v) ∈ ac_T) (kk : ac_V G on cc nL ret d mc ms P ck cn Y mm q ls ((0, v) :: st)) : ac_V G on cc nL ret d mc ms P ck cn Y mm pc ls (st) := by
  intro p e s m args below meth c H locs la X hz hH hS hL
  subst hq
  have h := kk p e s m args below meth c H locs la X hz hH hS hL
  refine lv_ldcw X.1 X.2.1 X.2.2.2.2.2.1 (X.2.2.2.2.2.2.1 _ hc) hdg ?_
  exact h
theorem ac_ldc2_w {i : Nat} {v : Int} (hdg : decode cc pc = .ok (.ldc2_w i, 3)) (hq : pc + 3 = q) (hc : Cond.constantLong on.1 i (Int64.ofInt v) ∈ ac_T) (kk : ac_V G on cc nL ret d mc ms P ck cn Y mm q ls ((1, v) :: st)) : ac_V G on cc nL ret d mc ms P ck cn Y mm pc ls (st) := by
  intro p e s m args below meth c H locs la X hz hH hS hL
  subst hq
  have h := kk p e s m args below meth c H locs la X hz hH hS hL
  refine lv_ldc2 X.1 X.2.1 X.2.2.2.2.2.1 (X.2.2.2.2.2.2.1 _ hc) hdg ?_
  exact h
theorem ac_iadd {a b : Int} (hdg : decode cc pc = .ok (.iadd, 1)) (hq : pc + 1 = q) (kk : ac_V G on cc nL ret d mc ms P ck cn Y mm q ls ((0, a + b) :: st)) : ac_V G on cc nL ret d mc ms P ck cn Y mm pc ls ((0, b) :: (0, a) :: st) := by
  intro p e s m args below meth c H locs la X hz hH hS hL
  subst hq
  have h := kk p e s m args below meth c H locs la X hz hH hS hL
  refine lv_iadd X.1 X.2.1 hdg ?_
  rw [← Int32.ofInt_add]
  exact h
theorem ac_isub {a b : Int} (hdg : decode cc pc = .ok (.isub, 1)) (hq : pc + 1 = q) (kk : ac_V G on cc nL ret d mc ms P ck cn Y mm q ls ((0, a - b) :: st)) : ac_V G on cc nL ret d mc ms P ck cn Y mm pc ls ((0, b) :: (0, a) :: st) := by
  intro p e s m args below meth c H locs la X hz hH hS hL
  subst hq
  have h := kk p e s m args below meth c H locs la X hz hH hS hL
  refine lv_isub X.1 X.2.1 hdg ?_
  rw [← Int32.ofInt_sub]
  exact h
theorem ac_imul {a b : Int} (hdg : decode cc pc = .ok (.imul, 1)) (hq : pc + 1 = q) (kk : ac_V G on cc nL ret d mc ms P ck cn Y mm q ls ((0, a * b) :: st)) : ac_V G on cc nL ret d mc ms P ck cn Y mm pc ls ((0, b) :: (0, a) :: st) := by
  intro p e s m args below meth c H locs la X hz hH hS hL
  subst hq
  have h := kk p e s m args below meth c H locs la X hz hH hS hL
  refine lv_imul X.1 X.2.1 hdg ?_
  rw [← Int32.ofInt_mul]
  exact h
theorem ac_ladd {a b : Int} (hdg : decode cc pc = .ok (.ladd, 1)) (hq : pc + 1 = q) (kk : ac_V G on cc nL ret d mc ms P ck cn Y mm q ls ((1, a + b) :: st)) : ac_V G on cc nL ret d mc ms P ck cn Y mm pc ls ((1, b) :: (1, a) :: st) := by
  intro p e s m args below meth c H locs la X hz hH hS hL
  subst hq
  have h := kk p e s m args below meth c H locs la X hz hH hS hL
  refine lv_ladd X.1 X.2.1 hdg ?_
  rw [← Int64.ofInt_add]
  exact h
theorem ac_lsub {a b : Int} (hdg : decode cc pc = .ok (.lsub, 1)) (hq : pc + 1 = q) (kk : ac_V G on cc nL ret d mc ms P ck cn Y mm q ls ((1, a - b) :: st)) : ac_V G on cc nL ret d mc ms P ck cn Y mm pc ls ((1, b) :: (1, a) :: st) := by
  intro p e s m args below meth c H locs la X hz hH hS hL
  subst hq
  have h := kk p e s m args below meth c H locs la X hz hH hS hL
  refine lv_lsub X.1 X.2.1 hdg ?_
  rw [← Int64.ofInt_sub]
  exact h
theorem ac_lmul {a b : Int} (hdg : decode cc pc = .ok (.lmul, 1)) (hq : pc + 1 = q) (kk : ac_V G on cc nL ret d mc ms P ck cn Y mm q ls ((1, a * b) :: st)) : ac_V G on cc nL ret d mc ms P ck cn Y mm pc ls ((1, b) :: (1, a) :: st) := by
  intro p e s m args below meth c H locs la X hz hH hS hL
  subst hq
  have h := kk p e s m args below meth c H locs la X hz hH hS hL
  refine lv_lmul X.1 X.2.1 hdg ?_
  rw [← Int64.ofInt_mul]
  exact h
theorem ac_ineg {a : Int} (hdg : decode cc pc = .ok (.ineg, 1)) (hq : pc + 1 = q) (kk : ac_V G on cc nL ret d mc ms P ck cn Y mm q ls ((0, -a) :: st)) : ac_V G on cc nL ret d mc ms P ck cn Y mm pc ls ((0, a) :: st) := by
  intro p e s m args below meth c H locs la X hz hH hS hL
  subst hq
  have h := kk p e s m args below meth c H locs la X hz hH hS hL
  refine lv_ineg X.1 X.2.1 hdg ?_
  rw [← Int32.ofInt_neg]
  exact h
theorem ac_i2l {a : Int} (hdg : decode cc pc = .ok (.i2l, 1)) (hq : pc + 1 = q) (ha : ac_in a) (kk : ac_V G on cc nL ret d mc ms P ck cn Y mm q ls ((1, a) :: st)) : ac_V G on cc nL ret d mc ms P ck cn Y mm pc ls ((0, a) :: st) := by
  intro p e s m args below meth c H locs la X hz hH hS hL
  subst hq
  have h := kk p e s m args below meth c H locs la X hz hH hS hL
  exact lv_i2l X.1 X.2.1 hdg (Int32.toInt64_ofInt (by have := ha.1; simpa using this) (by have := ha.2; have h2 : Int32.maxValue.toInt = 2147483647 := (by decide); omega)) h
theorem ac_l2i {a : Int} (hdg : decode cc pc = .ok (.l2i, 1)) (hq : pc + 1 = q) (kk : ac_V G on cc nL ret d mc ms P ck cn Y mm q ls ((0, a) :: st)) : ac_V G on cc nL ret d mc ms P ck cn Y mm pc ls ((1, a) :: st) := by
  intro p e s m args below meth c H locs la X hz hH hS hL
  subst hq
  have h := kk p e s m args below meth c H locs la X hz hH hS hL
  exact lv_l2i X.1 X.2.1 hdg Int64.toInt32_ofInt h
theorem ac_dup {w : Nat × Int} (hdg : decode cc pc = .ok (.dup, 1)) (hq : pc + 1 = q) (hw : w.1 ≠ 1) (kk : ac_V G on cc nL ret d mc ms P ck cn Y mm q ls (w :: w :: st)) : ac_V G on cc nL ret d mc ms P ck cn Y mm pc ls (w :: st) := by
  intro p e s m args below meth c H locs la X hz hH hS hL
  subst hq
  have h := kk p e s m args below meth c H locs la X hz hH hS hL
  exact lv_dup X.1 X.2.1 hdg (ac_cat1 hw) h
theorem ac_dup2_11 {w u : Nat × Int} (hdg : decode cc pc = .ok (.dup2, 1)) (hq : pc + 1 = q) (hw : w.1 ≠ 1) (hu : u.1 ≠ 1) (kk : ac_V G on cc nL ret d mc ms P ck cn Y mm q ls (w :: u :: w :: u :: st)) : ac_V G on cc nL ret d mc ms P ck cn Y mm pc ls (w :: u :: st) := by
  intro p e s m args below meth c H locs la X hz hH hS hL
  subst hq
  have h := kk p e s m args below meth c H locs la X hz hH hS hL
  exact lv_dup2_11 X.1 X.2.1 hdg (ac_cat1 hw) (ac_cat1 hu) h
theorem ac_dup2_2 {a : Int} (hdg : decode cc pc = .ok (.dup2, 1)) (hq : pc + 1 = q) (kk : ac_V G on cc nL ret d mc ms P ck cn Y mm q ls ((1, a) :: (1, a) :: st)) : ac_V G on cc nL ret d mc ms P ck cn Y mm pc ls ((1, a) :: st) := by
  intro p e s m args below meth c H locs la X hz hH hS hL
  subst hq
  have h := kk p e s m args below meth c H locs la X hz hH hS hL
  exact lv_dup2_2 X.1 X.2.1 hdg rfl h
theorem ac_pop {w : Nat × Int} (hdg : decode cc pc = .ok (.pop, 1)) (hq : pc + 1 = q) (hw : w.1 ≠ 1) (kk : ac_V G on cc nL ret d mc ms P ck cn Y mm q ls (st)) : ac_V G on cc nL ret d mc ms P ck cn Y mm pc ls (w :: st) := by
  intro p e s m args below meth c H locs la X hz hH hS hL
  subst hq
  have h := kk p e s m args below meth c H locs la X hz hH hS hL
  exact lv_pop X.1 X.2.1 hdg (ac_cat1 hw) h
theorem ac_top {w w' : Nat × Int} (hw : w = w') (kk : ac_V G on cc nL ret d mc ms P ck cn Y mm pc ls (w' :: st)) : ac_V G on cc nL ret d mc ms P ck cn Y mm pc ls (w :: st) := by subst hw; exact kk
theorem ac_ls {ls' : List (Nat × Int)} (hw : ls = ls') (kk : ac_V G on cc nL ret d mc ms P ck cn Y mm pc ls' st) : ac_V G on cc nL ret d mc ms P ck cn Y mm pc ls st := by subst hw; exact kk
theorem ac_goto {off : Int} (hdg : decode cc pc = .ok (.goto off, 3)) (hq : (pc : Int) + off = (q : Int)) (kk : ac_V G on cc nL ret d mc ms P ck cn Y mm q ls st) : ac_V G on cc nL ret d mc ms P ck cn Y mm pc ls st := by
  intro p e s m args below meth c H locs la X hz hH hS hL
  have h := kk p e s m args below meth c H locs la X hz hH hS hL
  exact lv_goto X.1 X.2.1 hdg hq h
theorem ac_icmp_eq {a b off : Int} {tgt : Nat} (hdg : decode cc pc = .ok (.if_icmp .eq off, 3)) (ht : (pc : Int) + off = (tgt : Int)) (hq : pc + 3 = q) (ha : ac_in a) (hb : ac_in b) (kt : a = b → ac_V G on cc nL ret d mc ms P ck cn Y mm tgt ls st) (kf : ¬ a = b → ac_V G on cc nL ret d mc ms P ck cn Y mm q ls st) : ac_V G on cc nL ret d mc ms P ck cn Y mm pc ls ((0, b) :: (0, a) :: st) := by
  intro p e s m args below meth c H locs la X hz hH hS hL
  subst hq
  have e1 := ac_eq ha hb
  have e2 := ac_lt ha hb
  have e3 := ac_lt hb ha
  have e4 := ac_le ha hb
  have e5 := ac_le hb ha
  refine lv_icmp_eq X.1 X.2.1 hdg ht (fun hh => kt ?_ p e s m args below meth c H locs la X hz hH hS hL) (fun hh => kf ?_ p e s m args below meth c H locs la X hz hH hS hL)
  · simp only [gt_iff_lt, ge_iff_le, ne_eq, e1, e2, e3, e4, e5] at hh
    omega
  · simp only [gt_iff_lt, ge_iff_le, ne_eq, e1, e2, e3, e4, e5] at hh
    omega
theorem ac_if_eq {a off : Int} {tgt : Nat} (hdg : decode cc pc = .ok (.ifCond .eq off, 3)) (ht : (pc : Int) + off = (tgt : Int)) (hq : pc + 3 = q) (ha : ac_in a) (kt : a = 0 → ac_V G on cc nL ret d mc ms P ck cn Y mm tgt ls st) (kf : ¬ a = 0 → ac_V G on cc nL ret d mc ms P ck cn Y mm q ls st) : ac_V G on cc nL ret d mc ms P ck cn Y mm pc ls ((0, a) :: st) := by
  intro p e s m args below meth c H locs la X hz hH hS hL
  subst hq
  have e1 : Int32.ofInt a = 0 ↔ a = 0 := ac_eq (b := 0) ha ac_in0
  have e2 : Int32.ofInt a < 0 ↔ a < 0 := ac_lt (b := 0) ha ac_in0
  have e3 : 0 < Int32.ofInt a ↔ 0 < a := ac_lt (a := 0) ac_in0 ha
  have e4 : Int32.ofInt a ≤ 0 ↔ a ≤ 0 := ac_le (b := 0) ha ac_in0
  have e5 : 0 ≤ Int32.ofInt a ↔ 0 ≤ a := ac_le (a := 0) ac_in0 ha
  refine lv_if_eq X.1 X.2.1 hdg ht (fun hh => kt ?_ p e s m args below meth c H locs la X hz hH hS hL) (fun hh => kf ?_ p e s m args below meth c H locs la X hz hH hS hL)
  · simp only [gt_iff_lt, ge_iff_le, ne_eq, e1, e2, e3, e4, e5] at hh
    omega
  · simp only [gt_iff_lt, ge_iff_le, ne_eq, e1, e2, e3, e4, e5] at hh
    omega
theorem ac_icmp_ne {a b off : Int} {tgt : Nat} (hdg : decode cc pc = .ok (.if_icmp .ne off, 3)) (ht : (pc : Int) + off = (tgt : Int)) (hq : pc + 3 = q) (ha : ac_in a) (hb : ac_in b) (kt : ¬ a = b → ac_V G on cc nL ret d mc ms P ck cn Y mm tgt ls st) (kf : a = b → ac_V G on cc nL ret d mc ms P ck cn Y mm q ls st) : ac_V G on cc nL ret d mc ms P ck cn Y mm pc ls ((0, b) :: (0, a) :: st) := by
  intro p e s m args below meth c H locs la X hz hH hS hL
  subst hq
  have e1 := ac_eq ha hb
  have e2 := ac_lt ha hb
  have e3 := ac_lt hb ha
  have e4 := ac_le ha hb
  have e5 := ac_le hb ha
  refine lv_icmp_ne X.1 X.2.1 hdg ht (fun hh => kt ?_ p e s m args below meth c H locs la X hz hH hS hL) (fun hh => kf ?_ p e s m args below meth c H locs la X hz hH hS hL)
  · simp only [gt_iff_lt, ge_iff_le, ne_eq, e1, e2, e3, e4, e5] at hh
    omega
  · simp only [gt_iff_lt, ge_iff_le, ne_eq, e1, e2, e3, e4, e5] at hh
    omega
theorem ac_if_ne {a off : Int} {tgt : Nat} (hdg : decode cc pc = .ok (.ifCond .ne off, 3)) (ht : (pc : Int) + off = (tgt : Int)) (hq : pc + 3 = q) (ha : ac_in a) (kt : ¬ a = 0 → ac_V G on cc nL ret d mc ms P ck cn Y mm tgt ls st) (kf : a = 0 → ac_V G on cc nL ret d mc ms P ck cn Y mm q ls st) : ac_V G on cc nL ret d mc ms P ck cn Y mm pc ls ((0, a) :: st) := by
  intro p e s m args below meth c H locs la X hz hH hS hL
  subst hq
  have e1 : Int32.ofInt a = 0 ↔ a = 0 := ac_eq (b := 0) ha ac_in0
  have e2 : Int32.ofInt a < 0 ↔ a < 0 := ac_lt (b := 0) ha ac_in0
  have e3 : 0 < Int32.ofInt a ↔ 0 < a := ac_lt (a := 0) ac_in0 ha
  have e4 : Int32.ofInt a ≤ 0 ↔ a ≤ 0 := ac_le (b := 0) ha ac_in0
  have e5 : 0 ≤ Int32.ofInt a ↔ 0 ≤ a := ac_le (a := 0) ac_in0 ha
  refine lv_if_ne X.1 X.2.1 hdg ht (fun hh => kt ?_ p e s m args below meth c H locs la X hz hH hS hL) (fun hh => kf ?_ p e s m args below meth c H locs la X hz hH hS hL)
  · simp only [gt_iff_lt, ge_iff_le, ne_eq, e1, e2, e3, e4, e5] at hh
    omega
  · simp only [gt_iff_lt, ge_iff_le, ne_eq, e1, e2, e3, e4, e5] at hh
    omega
theorem ac_icmp_lt {a b off : Int} {tgt : Nat} (hdg : decode cc pc = .ok (.if_icmp .lt off, 3)) (ht : (pc : Int) + off = (tgt : Int)) (hq : pc + 3 = q) (ha : ac_in a) (hb : ac_in b) (kt : a < b → ac_V G on cc nL ret d mc ms P ck cn Y mm tgt ls st) (kf : b ≤ a → ac_V G on cc nL ret d mc ms P ck cn Y mm q ls st) : ac_V G on cc nL ret d mc ms P ck cn Y mm pc ls ((0, b) :: (0, a) :: st) := by
  intro p e s m args below meth c H locs la X hz hH hS hL
  subst hq
  have e1 := ac_eq ha hb
  have e2 := ac_lt ha hb
  have e3 := ac_lt hb ha
  have e4 := ac_le ha hb
  have e5 := ac_le hb ha
  refine lv_icmp_lt X.1 X.2.1 hdg ht (fun hh => kt ?_ p e s m args below meth c H locs la X hz hH hS hL) (fun hh => kf ?_ p e s m args below meth c H locs la X hz hH hS hL)
  · simp only [gt_iff_lt, ge_iff_le, ne_eq, e1, e2, e3, e4, e5] at hh
    omega
  · simp only [gt_iff_lt, ge_iff_le, ne_eq, e1, e2, e3, e4, e5] at hh
    omega
theorem ac_if_lt {a off : Int} {tgt : Nat} (hdg : decode cc pc = .ok (.ifCond .lt off, 3)) (ht : (pc : Int) + off = (tgt : Int)) (hq : pc + 3 = q) (ha : ac_in a) (kt : a < 0 → ac_V G on cc nL ret d mc ms P ck cn Y mm tgt ls st) (kf : 0 ≤ a → ac_V G on cc nL ret d mc ms P ck cn Y mm q ls st) : ac_V G on cc nL ret d mc ms P ck cn Y mm pc ls ((0, a) :: st) := by
  intro p e s m args below meth c H locs la X hz hH hS hL
  subst hq
  have e1 : Int32.ofInt a = 0 ↔ a = 0 := ac_eq (b := 0) ha ac_in0
  have e2 : Int32.ofInt a < 0 ↔ a < 0 := ac_lt (b := 0) ha ac_in0
  have e3 : 0 < Int32.ofInt a ↔ 0 < a := ac_lt (a := 0) ac_in0 ha
  have e4 : Int32.ofInt a ≤ 0 ↔ a ≤ 0 := ac_le (b := 0) ha ac_in0
  have e5 : 0 ≤ Int32.ofInt a ↔ 0 ≤ a := ac_le (a := 0) ac_in0 ha
  refine lv_if_lt X.1 X.2.1 hdg ht (fun hh => kt ?_ p e s m args below meth c H locs la X hz hH hS hL) (fun hh => kf ?_ p e s m args below meth c H locs la X hz hH hS hL)
  · simp only [gt_iff_lt, ge_iff_le, ne_eq, e1, e2, e3, e4, e5] at hh
    omega
  · simp only [gt_iff_lt, ge_iff_le, ne_eq, e1, e2, e3, e4, e5] at hh
    omega
theorem ac_icmp_ge {a b off : Int} {tgt : Nat} (hdg : decode cc pc = .ok (.if_icmp .ge off, 3)) (ht : (pc : Int) + off = (tgt : Int)) (hq : pc + 3 = q) (ha : ac_in a) (hb : ac_in b) (kt : b ≤ a → ac_V G on cc nL ret d mc ms P ck cn Y mm tgt ls st) (kf : a < b → ac_V G on cc nL ret d mc ms P ck cn Y mm q ls st) : ac_V G on cc nL ret d mc ms P ck cn Y mm pc ls ((0, b) :: (0, a) :: st) := by
  intro p e s m args below meth c H locs la X hz hH hS hL
  subst hq
  have e1 := ac_eq ha hb
  have e2 := ac_lt ha hb
  have e3 := ac_lt hb ha
  have e4 := ac_le ha hb
  have e5 := ac_le hb ha
  refine lv_icmp_ge X.1 X.2.1 hdg ht (fun hh => kt ?_ p e s m args below meth c H locs la X hz hH hS hL) (fun hh => kf ?_ p e s m args below meth c H locs la X hz hH hS hL)
  · simp only [gt_iff_lt, ge_iff_le, ne_eq, e1, e2, e3, e4, e5] at hh
    omega
  · simp only [gt_iff_lt, ge_iff_le, ne_eq, e1, e2, e3, e4, e5] at hh
    omega
theorem ac_if_ge {a off : Int} {tgt : Nat} (hdg : decode cc pc = .ok (.ifCond .ge off, 3)) (ht : (pc : Int) + off = (tgt : Int)) (hq : pc + 3 = q) (ha : ac_in a) (kt : 0 ≤ a → ac_V G on cc nL ret d mc ms P ck cn Y mm tgt ls st) (kf : a < 0 → ac_V G on cc nL ret d mc ms P ck cn Y mm q ls st) : ac_V G on cc nL ret d mc ms P ck cn Y mm pc ls ((0, a) :: st) := by
  intro p e s m args below meth c H locs la X hz hH hS hL
  subst hq
  have e1 : Int32.ofInt a = 0 ↔ a = 0 := ac_eq (b := 0) ha ac_in0
  have e2 : Int32.ofInt a < 0 ↔ a < 0 := ac_lt (b := 0) ha ac_in0
  have e3 : 0 < Int32.ofInt a ↔ 0 < a := ac_lt (a := 0) ac_in0 ha
  have e4 : Int32.ofInt a ≤ 0 ↔ a ≤ 0 := ac_le (b := 0) ha ac_in0
  have e5 : 0 ≤ Int32.ofInt a ↔ 0 ≤ a := ac_le (a := 0) ac_in0 ha
  refine lv_if_ge X.1 X.2.1 hdg ht (fun hh => kt ?_ p e s m args below meth c H locs la X hz hH hS hL) (fun hh => kf ?_ p e s m args below meth c H locs la X hz hH hS hL)
  · simp only [gt_iff_lt, ge_iff_le, ne_eq, e1, e2, e3, e4, e5] at hh
    omega
  · simp only [gt_iff_lt, ge_iff_le, ne_eq, e1, e2, e3, e4, e5] at hh
    omega
theorem ac_icmp_gt {a b off : Int} {tgt : Nat} (hdg : decode cc pc = .ok (.if_icmp .gt off, 3)) (ht : (pc : Int) + off = (tgt : Int)) (hq : pc + 3 = q) (ha : ac_in a) (hb : ac_in b) (kt : b < a → ac_V G on cc nL ret d mc ms P ck cn Y mm tgt ls st) (kf : a ≤ b → ac_V G on cc nL ret d mc ms P ck cn Y mm q ls st) : ac_V G on cc nL ret d mc ms P ck cn Y mm pc ls ((0, b) :: (0, a) :: st) := by
  intro p e s m args below meth c H locs la X hz hH hS hL
  subst hq
  have e1 := ac_eq ha hb
  have e2 := ac_lt ha hb
  have e3 := ac_lt hb ha
  have e4 := ac_le ha hb
  have e5 := ac_le hb ha
  refine lv_icmp_gt X.1 X.2.1 hdg ht (fun hh => kt ?_ p e s m args below meth c H locs la X hz hH hS hL) (fun hh => kf ?_ p e s m args below meth c H locs la X hz hH hS hL)
  · simp only [gt_iff_lt, ge_iff_le, ne_eq, e1, e2, e3, e4, e5] at hh
    omega
  · simp only [gt_iff_lt, ge_iff_le, ne_eq, e1, e2, e3, e4, e5] at hh
    omega
theorem ac_if_gt {a off : Int} {tgt : Nat} (hdg : decode cc pc = .ok (.ifCond .gt off, 3)) (ht : (pc : Int) + off = (tgt : Int)) (hq : pc + 3 = q) (ha : ac_in a) (kt : 0 < a → ac_V G on cc nL ret d mc ms P ck cn Y mm tgt ls st) (kf : a ≤ 0 → ac_V G on cc nL ret d mc ms P ck cn Y mm q ls st) : ac_V G on cc nL ret d mc ms P ck cn Y mm pc ls ((0, a) :: st) := by
  intro p e s m args below meth c H locs la X hz hH hS hL
  subst hq
  have e1 : Int32.ofInt a = 0 ↔ a = 0 := ac_eq (b := 0) ha ac_in0
  have e2 : Int32.ofInt a < 0 ↔ a < 0 := ac_lt (b := 0) ha ac_in0
  have e3 : 0 < Int32.ofInt a ↔ 0 < a := ac_lt (a := 0) ac_in0 ha
  have e4 : Int32.ofInt a ≤ 0 ↔ a ≤ 0 := ac_le (b := 0) ha ac_in0
  have e5 : 0 ≤ Int32.ofInt a ↔ 0 ≤ a := ac_le (a := 0) ac_in0 ha
  refine lv_if_gt X.1 X.2.1 hdg ht (fun hh => kt ?_ p e s m args below meth c H locs la X hz hH hS hL) (fun hh => kf ?_ p e s m args below meth c H locs la X hz hH hS hL)
  · simp only [gt_iff_lt, ge_iff_le, ne_eq, e1, e2, e3, e4, e5] at hh
    omega
  · simp only [gt_iff_lt, ge_iff_le, ne_eq, e1, e2, e3, e4, e5] at hh
    omega
theorem ac_icmp_le {a b off : Int} {tgt : Nat} (hdg : decode cc pc = .ok (.if_icmp .le off, 3)) (ht : (pc : Int) + off = (tgt : Int)) (hq : pc + 3 = q) (ha : ac_in a) (hb : ac_in b) (kt : a ≤ b → ac_V G on cc nL ret d mc ms P ck cn Y mm tgt ls st) (kf : b < a → ac_V G on cc nL ret d mc ms P ck cn Y mm q ls st) : ac_V G on cc nL ret d mc ms P ck cn Y mm pc ls ((0, b) :: (0, a) :: st) := by
  intro p e s m args below meth c H locs la X hz hH hS hL
  subst hq
  have e1 := ac_eq ha hb
  have e2 := ac_lt ha hb
  have e3 := ac_lt hb ha
  have e4 := ac_le ha hb
  have e5 := ac_le hb ha
  refine lv_icmp_le X.1 X.2.1 hdg ht (fun hh => kt ?_ p e s m args below meth c H locs la X hz hH hS hL) (fun hh => kf ?_ p e s m args below meth c H locs la X hz hH hS hL)
  · simp only [gt_iff_lt, ge_iff_le, ne_eq, e1, e2, e3, e4, e5] at hh
    omega
  · simp only [gt_iff_lt, ge_iff_le, ne_eq, e1, e2, e3, e4, e5] at hh
    omega
theorem ac_if_le {a off : Int} {tgt : Nat} (hdg : decode cc pc = .ok (.ifCond .le off, 3)) (ht : (pc : Int) + off = (tgt : Int)) (hq : pc + 3 = q) (ha : ac_in a) (kt : a ≤ 0 → ac_V G on cc nL ret d mc ms P ck cn Y mm tgt ls st) (kf : 0 < a → ac_V G on cc nL ret d mc ms P ck cn Y mm q ls st) : ac_V G on cc nL ret d mc ms P ck cn Y mm pc ls ((0, a) :: st) := by
  intro p e s m args below meth c H locs la X hz hH hS hL
  subst hq
  have e1 : Int32.ofInt a = 0 ↔ a = 0 := ac_eq (b := 0) ha ac_in0
  have e2 : Int32.ofInt a < 0 ↔ a < 0 := ac_lt (b := 0) ha ac_in0
  have e3 : 0 < Int32.ofInt a ↔ 0 < a := ac_lt (a := 0) ac_in0 ha
  have e4 : Int32.ofInt a ≤ 0 ↔ a ≤ 0 := ac_le (b := 0) ha ac_in0
  have e5 : 0 ≤ Int32.ofInt a ↔ 0 ≤ a := ac_le (a := 0) ac_in0 ha
  refine lv_if_le X.1 X.2.1 hdg ht (fun hh => kt ?_ p e s m args below meth c H locs la X hz hH hS hL) (fun hh => kf ?_ p e s m args below meth c H locs la X hz hH hS hL)
  · simp only [gt_iff_lt, ge_iff_le, ne_eq, e1, e2, e3, e4, e5] at hh
    omega
  · simp only [gt_iff_lt, ge_iff_le, ne_eq, e1, e2, e3, e4, e5] at hh
    omega
def ac_b (c : Prop) [Decidable c] : Int := if c then 1 else 0
theorem ac_b1 {c : Prop} [Decidable c] (h : c) : ac_b c = 1 := if_pos h
theorem ac_b0 {c : Prop} [Decidable c] (h : ¬ c) : ac_b c = 0 := if_neg h
theorem ac_bin {c : Prop} [Decidable c] : ac_in (ac_b c) := by unfold ac_b ac_in; split <;> omega
theorem ac_b01 {c : Prop} [Decidable c] : ac_b c = 0 ∨ ac_b c = 1 := by unfold ac_b; split <;> omega
theorem ac_bif_eq {c : Prop} [Decidable c] {off : Int} {tgt : Nat} (hdg : decode cc pc = .ok (.ifCond .eq off, 3)) (ht : (pc : Int) + off = (tgt : Int)) (hq : pc + 3 = q) (kt : ¬ c → ac_V G on cc nL ret d mc ms P ck cn Y mm tgt ls st) (kf : c → ac_V G on cc nL ret d mc ms P ck cn Y mm q ls st) : ac_V G on cc nL ret d mc ms P ck cn Y mm pc ls ((0, ac_b c) :: st) := by
  refine ac_if_eq hdg ht hq ac_bin (fun h => kt ?_) (fun h => kf ?_)
  · intro hc; rw [ac_b1 hc] at h; omega
  · refine Decidable.byContradiction fun hc => ?_
    rw [ac_b0 hc] at h; omega
theorem ac_bif_ne {c : Prop} [Decidable c] {off : Int} {tgt : Nat} (hdg : decode cc pc = .ok (.ifCond .ne off, 3)) (ht : (pc : Int) + off = (tgt : Int)) (hq : pc + 3 = q) (kt : c → ac_V G on cc nL ret d mc ms P ck cn Y mm tgt ls st) (kf : ¬ c → ac_V G on cc nL ret d mc ms P ck cn Y mm q ls st) : ac_V G on cc nL ret d mc ms P ck cn Y mm pc ls ((0, ac_b c) :: st) := by
  refine ac_if_ne hdg ht hq ac_bin (fun h => kt ?_) (fun h => kf ?_)
  · refine Decidable.byContradiction fun hc => ?_
    rw [ac_b0 hc] at h; omega
  · intro hc; rw [ac_b1 hc] at h; omega
theorem ac_ifnull_t {off : Int} (hdg : decode cc pc = .ok (.ifnull off, 3)) (hq : (pc : Int) + off = (q : Int)) (kk : ac_V G on cc nL ret d mc ms P ck cn Y mm q ls st) : ac_V G on cc nL ret d mc ms P ck cn Y mm pc ls ((2, 0) :: st) := by
  intro p e s m args below meth c H locs la X hz hH hS hL
  have h := kk p e s m args below meth c H locs la X hz hH hS hL
  exact lv_ifnullN X.1 X.2.1 hdg hq h
theorem ac_ifnull_f {off x : Int} (hdg : decode cc pc = .ok (.ifnull off, 3)) (hq : pc + 3 = q) (hx : x ≠ 0) (kk : ac_V G on cc nL ret d mc ms P ck cn Y mm q ls st) : ac_V G on cc nL ret d mc ms P ck cn Y mm pc ls ((2, x) :: st) := by
  intro p e s m args below meth c H locs la X hz hH hS hL
  subst hq
  have h := kk p e s m args below meth c H locs la X hz hH hS hL
  simp only [List.map_cons, ac_v, if_neg hx]
  exact lv_ifnull X.1 X.2.1 hdg h
theorem ac_ifnonnull_t {off x : Int} (hdg : decode cc pc = .ok (.ifnonnull off, 3)) (hq : (pc : Int) + off = (q : Int)) (hx : x ≠ 0) (kk : ac_V G on cc nL ret d mc ms P ck cn Y mm q ls st) : ac_V G on cc nL ret d mc ms P ck cn Y mm pc ls ((2, x) :: st) := by
  intro p e s m args below meth c H locs la X hz hH hS hL
  have h := kk p e s m args below meth c H locs la X hz hH hS hL
  simp only [List.map_cons, ac_v, if_neg hx]
  exact lv_ifnonnull X.1 X.2.1 hdg hq h
theorem ac_ifnonnull_f {off : Int} (hdg : decode cc pc = .ok (.ifnonnull off, 3)) (hq : pc + 3 = q) (kk : ac_V G on cc nL ret d mc ms P ck cn Y mm q ls st) : ac_V G on cc nL ret d mc ms P ck cn Y mm pc ls ((2, 0) :: st) := by
  intro p e s m args below meth c H locs la X hz hH hS hL
  subst hq
  have h := kk p e s m args below meth c H locs la X hz hH hS hL
  exact lv_ifnonnullN X.1 X.2.1 hdg h
theorem ac_tabIn {dflt lo hi : Int} {offs : Array Int} {len tgt : Nat} {x off : Int} (hdg : decode cc pc = .ok (.tableswitch dflt lo hi offs, len)) (hx : ac_in x) (h1 : lo ≤ x) (h2 : x ≤ hi) (ho : offs[(x - lo).toNat]? = some off) (ht : (pc : Int) + off = (tgt : Int)) (kk : ac_V G on cc nL ret d mc ms P ck cn Y mm tgt ls st) : ac_V G on cc nL ret d mc ms P ck cn Y mm pc ls ((0, x) :: st) := by
  intro p e s m args below meth c H locs la X hz hH hS hL
  have h := kk p e s m args below meth c H locs la X hz hH hS hL
  exact lv_tableIn X.1 X.2.1 hdg (by rw [ac_toInt hx]; omega) (by rw [ac_toInt hx]; omega) (by rw [ac_toInt hx]; exact ho) ht h
theorem ac_tabOut {dflt lo hi : Int} {offs : Array Int} {len tgt : Nat} {x : Int} (hdg : decode cc pc = .ok (.tableswitch dflt lo hi offs, len)) (hx : ac_in x) (h1 : x < lo ∨ hi < x) (ht : (pc : Int) + dflt = (tgt : Int)) (kk : ac_V G on cc nL ret d mc ms P ck cn Y mm tgt ls st) : ac_V G on cc nL ret d mc ms P ck cn Y mm pc ls ((0, x) :: st) := by
  intro p e s m args below meth c H locs la X hz hH hS hL
  have h := kk p e s m args below meth c H locs la X hz hH hS hL
  exact lv_tableOut X.1 X.2.1 hdg (by rw [ac_toInt hx]; exact h1) ht h
end AcOps
end
section
def ac_up (mm : ac_M) (k j : Nat) (v : Int) : ac_M := fun k' j' => if k' = k ∧ j' = j then v else mm k' j'
def ac_upR (rf : Nat → Nat → Nat) (k j v : Nat) : Nat → Nat → Nat := fun k' j' => if k' = k ∧ j' = j then v else rf k' j'
theorem ac_up_s {mm : ac_M} {k j : Nat} {v : Int} : ac_up mm k j v k j = v := if_pos ⟨rfl, rfl⟩
theorem ac_up_k {mm : ac_M} {k j k' j' : Nat} {v : Int} (h : k' ≠ k) : ac_up mm k j v k' j' = mm k' j' := if_neg (fun q => h q.1)
theorem ac_up_j {mm : ac_M} {k j k' j' : Nat} {v : Int} (h : j' ≠ j) : ac_up mm k j v k' j' = mm k' j' := if_neg (fun q => h q.2)
theorem ac_live {Y : ac_Y} {k : Nat} (hw : ac_wf Y) (h : (Y.2.1 k).1 ≠ 9) : 1 ≤ k ∧ k ≤ Y.1 := by
  by_cases h0 : k = 0
  · exact absurd (hw k (Or.inl h0)) h
  · by_cases h1 : Y.1 < k
    · exact absurd (hw k (Or.inr h1)) h
    · omega
theorem ac_rm {α : Type} {N i : Nat} (f : Nat → α) (h : i < N) : ((List.range N).map f)[i]? = some (f i) := by
  rw [List.getElem?_map, List.getElem?_range h]; rfl
theorem ac_rn {α : Type} {N i : Nat} (f : Nat → α) (h : ¬ i < N) : ((List.range N).map f)[i]? = none := List.getElem?_eq_none (by simpa using h)
theorem ac_ws_at {G : ac_G} {Y : ac_Y} {mm : ac_M} {k : Nat} (hw : ac_wf Y) (h : (Y.2.1 k).1 ≠ 9) : (ac_ws G Y mm)[k - 1]? = some (G.2.1 + (k - 1), ac_ent G Y mm k) := by
  obtain ⟨h1, h2⟩ := ac_live hw h
  refine (ac_rm _ (by omega)).trans ?_
  show some (G.2.1 + (k - 1), ac_ent G Y mm (k - 1 + 1)) = _
  rw [show k - 1 + 1 = k by omega]
theorem ac_ws_get {G : ac_G} {Y : ac_Y} {mm : ac_M} {i : Nat} {q : Nat × va_E} (h : (ac_ws G Y mm)[i]? = some q) : i < Y.1 ∧ q = (G.2.1 + i, ac_ent G Y mm (i + 1)) := by
  by_cases hi : i < Y.1
  · have h2 := (ac_rm (fun i => (G.2.1 + i, ac_ent G Y mm (i + 1))) hi).symm.trans h
    exact ⟨hi, (Option.some.inj h2).symm⟩
  · have h2 := (ac_rn (fun i => (G.2.1 + i, ac_ent G Y mm (i + 1))) hi).symm.trans h
    cases h2
theorem ac_ws_D {G : ac_G} {Y : ac_Y} {mm : ac_M} : va_D (ac_A G) (ac_ws G Y mm) := by
  refine ⟨fun i j p q hp hq he => ?_, fun k q hk => ?_⟩
  · obtain ⟨-, rfl⟩ := ac_ws_get hp
    obtain ⟨-, rfl⟩ := ac_ws_get hq
    simp only at he
    omega
  · obtain ⟨-, rfl⟩ := ac_ws_get hk
    exact Nat.le_add_right _ _
theorem ac_map_set {α : Type} {N j : Nat} {f f' : Nat → α} {v : α} (hj : f' j = v) (ho : ∀ i, i ≠ j → f' i = f i) : ((List.range N).map f).set j v = (List.range N).map f' := by
  refine List.ext_getElem? fun i => ?_
  rw [List.getElem?_set]
  by_cases hi : i < N
  · rw [ac_rm f hi, ac_rm f' hi]
    by_cases hk : j = i
    · subst hk
      rw [if_pos rfl, if_pos (by simpa using hi), hj]
    · rw [if_neg hk, ho i (fun h => hk h.symm)]
  · rw [ac_rn f hi, ac_rn f' hi]
    by_cases hk : j = i
    · subst hk
      rw [if_pos rfl, if_neg (by simpa using hi)]
    · rw [if_neg hk]
theorem ac_ws_set {G : ac_G} {Y Y' : ac_Y} {mm mm' : ac_M} {k : Nat} {e' : va_E} (h1 : 1 ≤ k) (hn : Y'.1 = Y.1) (he : ac_ent G Y' mm' k = e') (ho : ∀ k', k' ≠ k → ac_ent G Y' mm' k' = ac_ent G Y mm k') : (ac_ws G Y mm).set (k - 1) (G.2.1 + (k - 1), e') = ac_ws G Y' mm' := by
  unfold ac_ws
  rw [hn]
  refine ac_map_set ?_ fun i hi => ?_
  · show (G.2.1 + (k - 1), ac_ent G Y' mm' (k - 1 + 1)) = _
    rw [show k - 1 + 1 = k by omega, he]
  · show (G.2.1 + i, ac_ent G Y' mm' (i + 1)) = (G.2.1 + i, ac_ent G Y mm (i + 1))
    rw [ho (i + 1) (by omega)]
theorem ac_ent_o {G : ac_G} {Y : ac_Y} {mm : ac_M} {k ci : Nat} (hk : Y.2.1 k = (0, ci)) : ac_ent G Y mm k = .inr (ci, (List.range (ac_N ci)).map (fun j => ac_v G.2.1 (ac_w Y.2.2 mm ci k j))) := by
  simp only [ac_ent, hk]
theorem ac_ent_i {G : ac_G} {Y : ac_Y} {mm : ac_M} {k n : Nat} (hk : Y.2.1 k = (1, n)) : ac_ent G Y mm k = .inl (G.2.2.2.1.1, n, .inl (fun j => Int32.ofInt (mm k j))) := by
  simp only [ac_ent, hk]
theorem ac_ent_z {G : ac_G} {Y : ac_Y} {mm : ac_M} {k n : Nat} (hk : Y.2.1 k = (2, n)) : ac_ent G Y mm k = .inl (G.2.2.2.1.2.1, n, .inl (fun j => Int32.ofInt (mm k j))) := by
  simp only [ac_ent, hk]
theorem ac_ent_t {G : ac_G} {Y : ac_Y} {mm : ac_M} {k n : Nat} (hk : Y.2.1 k = (3, n)) : ac_ent G Y mm k = .inl (G.2.2.2.1.2.2, n, .inr (.inr (.inr (.inr (fun j => if Y.2.2 k j = 0 then none else some (G.2.1 + (Y.2.2 k j - 1))))))) := by
  simp only [ac_ent, hk]
def ac_tyok : Nat → FieldType → Bool
  | 0, .int => true
  | 1, .long => true
  | 4, .boolean => true
  | 2, .object _ => true
  | 2, .array _ => true
  | 3, .array _ => true
  | _, _ => false
def ac_CL (ci : Nat) (r : vw_C) (ty : Nat → FieldType) : Prop := vwCl[ci]? = some r ∧ r.2.2 = ac_N ci ∧ (∀ w ∈ u_ws r.1 r.2.1 r.2.2, w ∈ ac_T) ∧ (∀ k, k < r.2.2 → parseFieldDescriptor (r.2.1 k).2.2.1 = some (ty k)) ∧ (∀ a, a < r.2.2 → ∀ b, b < r.2.2 → a ≠ b → (r.2.1 a).2.1 ≠ (r.2.1 b).2.1)
/-- entry idx of a class's constant pool is field j of class ci -/
def ac_FL (b : Bool) (own : String) (idx ci j : Nat) : Prop := ∃ (r : vw_C) (ty : Nat → FieldType), ac_CL ci r ty ∧ j < r.2.2 ∧ ac_tyok (ac_ty ci j) (ty j) = true ∧ (r.2.1 j).2.2.2 = (ac_ty ci j == 2) ∧
  ((Cond.fieldLink own idx (r.2.1 j).1 (r.2.1 j).2.1 (r.2.1 j).2.2.1 ∈ ac_T ∧ (r.2.1 j).1 = own) ∨ b = false ∧ ∃ host, Cond.fieldLinkNest own idx (r.2.1 j).1 (r.2.1 j).2.1 (r.2.1 j).2.2.1 host ∈ lw_tbl)
section AcMem
variable {G : ac_G} {on : String × String} {cc : ByteArray} {nL : Nat} {ret : Option FieldType} {d mc ms : Nat} {P : ac_P} {ck cn : Nat} {Y : ac_Y} {mm : ac_M} {pc q : Nat} {ls st : List (Nat × Int)}
theorem ac_refv {base k : Nat} (h : 1 ≤ k) : ac_v base (2, (k : Int)) = .ref (base + (k - 1)) := by
  show (if (k : Int) = 0 then Value.null else Value.ref (base + ((k : Int).toNat - 1))) = _
  rw [if_neg (by omega), Int.toNat_natCast]
theorem ac_get {b : Bool} {idx ci j k : Nat} {w : Nat × Int} (hdg : decode cc pc = .ok (.getfield idx, 3)) (hf : ac_FL b on.1 idx ci j) (hk : Y.2.1 k = (0, ci)) (hq : pc + 3 = q) (hv : ac_w Y.2.2 mm ci k j = w) (kk : ac_V G on cc nL ret d mc ms P ck cn Y mm q ls (w :: st)) : ac_V G on cc nL ret d mc ms P ck cn Y mm pc ls ((2, (k : Int)) :: st) := by
  intro p e s m args below meth c H locs la X hz hH hS hL
  subst hq; subst hv
  have h := kk p e s m args below meth c H locs la X hz hH hS hL
  have h9 : (Y.2.1 k).1 ≠ 9 := by rw [hk]; exact (show (0 : Nat) ≠ 9 by decide)
  have h1 := (ac_live hH.1 h9).1
  have he := ac_ws_at (G := G) (mm := mm) hH.1 h9
  rw [show ac_ent G Y mm k = .inr (ci, (List.range (ac_N ci)).map (fun j => ac_v G.2.1 (ac_w Y.2.2 mm ci k j))) from ac_ent_o hk] at he
  obtain ⟨r, ty, ⟨c1, c2, c3, -, -⟩, hj, -, -, hl⟩ := hf
  simp only [List.map_cons, ac_refv h1]
  have hvv : ((List.range (ac_N ci)).map (fun j => ac_v G.2.1 (ac_w Y.2.2 mm ci k j)))[j]? = some (ac_v G.2.1 (ac_w Y.2.2 mm ci k j)) := by
    rw [List.getElem?_map, List.getElem?_range (by omega)]; rfl
  rcases hl with ⟨hl, -⟩ | ⟨-, host, hl⟩
  · exact va_get X.1 X.2.1 (C := r.1) (T := r.2.1) (N := r.2.2) X.2.2.2.2.2.2.1 c3 X.2.2.2.2.2.1 X.2.2.2.2.2.2.2.1.1 hH.2 (k - 1) he c1 j hj (X.2.2.2.2.2.2.1 _ hl) (fun _ h => h) hvv hdg h
  · exact va_getN X.1 X.2.1 (C := r.1) (T := r.2.1) (N := r.2.2) X.2.2.2.2.2.2.1 c3 X.2.2.2.2.2.1 X.2.2.2.2.2.2.2.1.1 hH.2 (k - 1) he c1 j hj (va_Nw.use rfl (X.2.2.2.2.2.2.2.1.2.1 _ hl rfl)) (fun _ h => h) hvv hdg h
/-- a store into a field, whatever its kind -/
theorem ac_put0 {b : Bool} {idx ci j k : Nat} {w : Nat × Int} {Y' : ac_Y} {mm' : ac_M} (hdg : decode cc pc = .ok (.putfield idx, 3)) (hf : ac_FL b on.1 idx ci j) (hk : Y.2.1 k = (0, ci)) (hq : pc + 3 = q)
    (hfin : ac_ty ci j ≠ 2 ∨ (on.2 = "<init>" ∧ b = true)) (hw : ∀ base : Nat, ∀ ty : FieldType, ac_tyok (ac_ty ci j) ty = true → narrow ty (ac_v base w) = ac_v base w ∧ fits ty (ac_v base w) = true)
    (hY : Y'.1 = Y.1 ∧ Y'.2.1 = Y.2.1) (hn : ac_w Y'.2.2 mm' ci k j = w) (ho : ∀ k' j', ¬ (k' = k ∧ j' = j) → Y'.2.2 k' j' = Y.2.2 k' j' ∧ mm' k' j' = mm k' j') (kk : ac_V G on cc nL ret d mc ms P ck cn Y' mm' q ls st) : ac_V G on cc nL ret d mc ms P ck cn Y mm pc ls (w :: (2, (k : Int)) :: st) := by
  intro p e s m args below meth c H locs la X hz hH hS hL
  subst hq
  have h9 : (Y.2.1 k).1 ≠ 9 := by rw [hk]; exact (show (0 : Nat) ≠ 9 by decide)
  have h1 := (ac_live hH.1 h9).1
  have he := ac_ws_at (G := G) (mm := mm) hH.1 h9
  have e0 : ac_ent G Y mm k = .inr (ci, (List.range (ac_N ci)).map (fun j => ac_v G.2.1 (ac_w Y.2.2 mm ci k j))) := ac_ent_o hk
  have hk' : Y'.2.1 k = (0, ci) := by rw [hY.2]; exact hk
  have e1 : ac_ent G Y' mm' k = .inr (ci, (List.range (ac_N ci)).map (fun j => ac_v G.2.1 (ac_w Y'.2.2 mm' ci k j))) := ac_ent_o hk'
  rw [e0] at he
  obtain ⟨r, ty, ⟨c1, c2, c3, c4, c5⟩, hj, hty, hff, hl⟩ := hf
  simp only [List.map_cons, ac_refv h1]
  obtain ⟨g1, g2⟩ := hw G.2.1 _ hty
  have hset : ((List.range (ac_N ci)).map (fun j => ac_v G.2.1 (ac_w Y.2.2 mm ci k j))).set j (ac_v G.2.1 w) = (List.range (ac_N ci)).map (fun j => ac_v G.2.1 (ac_w Y'.2.2 mm' ci k j)) := by
    refine ac_map_set (by rw [hn]) (fun i hi => ?_)
    unfold ac_w
    obtain ⟨o1, o2⟩ := ho k i (fun q => hi q.2)
    rw [o1, o2]
  have hoth : ∀ k', k' ≠ k → ac_ent G Y' mm' k' = ac_ent G Y mm k' := by
    intro k' hk2
    unfold ac_ent
    rw [hY.2]
    have o := fun j => ho k' j (fun q => hk2 q.1)
    have o1 : ∀ j, Y'.2.2 k' j = Y.2.2 k' j := fun j => (o j).1
    have o2 : ∀ j, mm' k' j = mm k' j := fun j => (o j).2
    simp only [ac_w, o1, o2]
  have hwf : ac_wf Y' := fun k' hk2 => by rw [hY.2]; exact hH.1 k' (by rw [← hY.1]; exact hk2)
  have fin : ∀ (H1 : Heap) (locs1 : List Loc), va_P G.2.2.1 vwCl ((ac_ws G Y mm).set (k - 1) (G.2.1 + (k - 1), .inr (ci, ((List.range (ac_N ci)).map (fun j => ac_v G.2.1 (ac_w Y.2.2 mm ci k j))).set j (ac_v G.2.1 w)))) H1 → va_S (ac_A G) s.heap H1 locs1 → W p G.1 e (ac_room d mc ms) s m args below meth c H1 locs1 ck cn (MQ below (ac_Qc G P) args s mc ms (ac_A G)) (F0 m (pc + 3) la (st.map (ac_v G.2.1))) := by
    intro H1 locs1 hP1 hS1
    refine kk p e s m args below meth c H1 locs1 la X (by rw [hY.1]; exact hz) ⟨hwf, ?_⟩ hS1 hL
    rw [hset, ac_ws_set (Y' := Y') (mm' := mm') h1 hY.1 e1 hoth] at hP1
    exact hP1
  have hlen : j < ((List.range (ac_N ci)).map (fun j => ac_v G.2.1 (ac_w Y.2.2 mm ci k j))).length := by rw [List.length_map, List.length_range]; omega
  rcases hl with ⟨hl, hown⟩ | ⟨hbf, host, hl⟩
  · by_cases hf2 : ac_ty ci j = 2
    · have hin : on.2 = "<init>" := (hfin.resolve_left (fun h => h hf2)).1
      exact va_putF X.1 X.2.1 (C := r.1) (T := r.2.1) (N := r.2.2) X.2.2.2.2.2.2.1 c3 ty c4 c5 X.2.2.2.2.2.1 X.2.2.2.2.2.2.2.1.1 hH.2 ac_ws_D hS (k - 1) he c1 j hj (X.2.2.2.2.2.2.1 _ hl) (fun _ h => h) (by rw [hff, hf2]; rfl) (X.2.2.2.2.2.2.2.2.trans hin) hown (c4 j hj) g1 g2 hlen hdg (fun H1 locs1 hP1 hD1 hS1 => fin H1 locs1 hP1 hS1)
    · exact va_put X.1 X.2.1 (C := r.1) (T := r.2.1) (N := r.2.2) X.2.2.2.2.2.2.1 c3 ty c4 c5 X.2.2.2.2.2.1 X.2.2.2.2.2.2.2.1.1 hH.2 ac_ws_D hS (k - 1) he c1 j hj (X.2.2.2.2.2.2.1 _ hl) (fun _ h => h) (by rw [hff]; simpa using hf2) (c4 j hj) g1 g2 hlen hdg (fun H1 locs1 hP1 hD1 hS1 => fin H1 locs1 hP1 hS1)
  · by_cases hf2 : ac_ty ci j = 2
    · have hbt := (hfin.resolve_left (fun h => h hf2)).2
      rw [hbf] at hbt; cases hbt
    · exact va_putN X.1 X.2.1 (C := r.1) (T := r.2.1) (N := r.2.2) X.2.2.2.2.2.2.1 c3 ty c4 c5 X.2.2.2.2.2.1 X.2.2.2.2.2.2.2.1.1 hH.2 ac_ws_D hS (k - 1) he c1 j hj (va_Nw.use rfl (X.2.2.2.2.2.2.2.1.2.1 _ hl rfl)) (fun _ h => h) (by rw [hff]; simpa using hf2) (c4 j hj) g1 g2 hlen hdg (fun H1 locs1 hP1 hD1 hS1 => fin H1 locs1 hP1 hS1)
theorem ac_put {b : Bool} {idx ci j k : Nat} {x : Int} (hdg : decode cc pc = .ok (.putfield idx, 3)) (hf : ac_FL b on.1 idx ci j) (hk : Y.2.1 k = (0, ci)) (ht : ac_ty ci j = 0) (hq : pc + 3 = q) (kk : ac_V G on cc nL ret d mc ms P ck cn Y (ac_up mm k j x) q ls st) : ac_V G on cc nL ret d mc ms P ck cn Y mm pc ls ((0, x) :: (2, (k : Int)) :: st) := by
  refine ac_put0 hdg hf hk hq (Or.inl (by rw [ht]; decide)) (fun base ty h => ?_) ⟨rfl, rfl⟩ ?_ (fun k' j' h => ⟨rfl, if_neg h⟩) kk
  · rw [ht] at h
    cases ty <;> first | exact absurd h Bool.false_ne_true | exact ⟨rfl, rfl⟩
  · unfold ac_w
    rw [ht]
    show (0, ac_up mm k j x k j) = _
    rw [ac_up_s]
theorem ac_putZ {b : Bool} {idx ci j k : Nat} {x : Int} (hdg : decode cc pc = .ok (.putfield idx, 3)) (hf : ac_FL b on.1 idx ci j) (hk : Y.2.1 k = (0, ci)) (ht : ac_ty ci j = 4) (hx : x = 0 ∨ x = 1) (hq : pc + 3 = q) (kk : ac_V G on cc nL ret d mc ms P ck cn Y (ac_up mm k j x) q ls st) : ac_V G on cc nL ret d mc ms P ck cn Y mm pc ls ((0, x) :: (2, (k : Int)) :: st) := by
  refine ac_put0 hdg hf hk hq (Or.inl (by rw [ht]; decide)) (fun base ty h => ?_) ⟨rfl, rfl⟩ ?_ (fun k' j' h => ⟨rfl, if_neg h⟩) kk
  · rw [ht] at h
    cases ty <;> first | exact absurd h Bool.false_ne_true | (rcases hx with rfl | rfl <;> exact ⟨rfl, rfl⟩)
  · unfold ac_w
    rw [ht]
    show (0, ac_up mm k j x k j) = _
    rw [ac_up_s]
theorem ac_putL {b : Bool} {idx ci j k : Nat} {x : Int} (hdg : decode cc pc = .ok (.putfield idx, 3)) (hf : ac_FL b on.1 idx ci j) (hk : Y.2.1 k = (0, ci)) (ht : ac_ty ci j = 1) (hq : pc + 3 = q) (kk : ac_V G on cc nL ret d mc ms P ck cn Y (ac_up mm k j x) q ls st) : ac_V G on cc nL ret d mc ms P ck cn Y mm pc ls ((1, x) :: (2, (k : Int)) :: st) := by
  refine ac_put0 hdg hf hk hq (Or.inl (by rw [ht]; decide)) (fun base ty h => ?_) ⟨rfl, rfl⟩ ?_ (fun k' j' h => ⟨rfl, if_neg h⟩) kk
  · rw [ht] at h
    cases ty <;> first | exact absurd h Bool.false_ne_true | exact ⟨rfl, rfl⟩
  · unfold ac_w
    rw [ht]
    show (1, ac_up mm k j x k j) = _
    rw [ac_up_s]
theorem ac_refs {base : Nat} {x : Int} {ty : FieldType} (h : ac_tyok 2 ty = true) : narrow ty (ac_v base (2, x)) = ac_v base (2, x) ∧ fits ty (ac_v base (2, x)) = true := by
  show narrow ty (if x = 0 then Value.null else Value.ref (base + (x.toNat - 1))) = (if x = 0 then Value.null else Value.ref (base + (x.toNat - 1))) ∧ fits ty (if x = 0 then Value.null else Value.ref (base + (x.toNat - 1))) = true
  cases ty <;> first | exact absurd h Bool.false_ne_true | (split <;> exact ⟨rfl, rfl⟩)
theorem ac_putR {b : Bool} {idx ci j k : Nat} {x : Int} (hdg : decode cc pc = .ok (.putfield idx, 3)) (hf : ac_FL b on.1 idx ci j) (hk : Y.2.1 k = (0, ci)) (ht : ac_ty ci j = 3) (hq : pc + 3 = q) (kk : ac_V G on cc nL ret d mc ms P ck cn Y (ac_up mm k j x) q ls st) : ac_V G on cc nL ret d mc ms P ck cn Y mm pc ls ((2, x) :: (2, (k : Int)) :: st) := by
  refine ac_put0 hdg hf hk hq (Or.inl (by rw [ht]; decide)) (fun base ty h => ?_) ⟨rfl, rfl⟩ ?_ (fun k' j' h => ⟨rfl, if_neg h⟩) kk
  · rw [ht] at h
    exact ac_refs (by cases ty <;> first | exact absurd h Bool.false_ne_true | rfl)
  · unfold ac_w
    rw [ht]
    show (2, ac_up mm k j x k j) = _
    rw [ac_up_s]
/-- a final field, in the constructor -/
theorem ac_putF {idx ci j k x : Nat} (hdg : decode cc pc = .ok (.putfield idx, 3)) (hf : ac_FL true on.1 idx ci j) (hi : on.2 = "<init>") (hk : Y.2.1 k = (0, ci)) (ht : ac_ty ci j = 2) (hq : pc + 3 = q) (kk : ac_V G on cc nL ret d mc ms P ck cn (Y.1, Y.2.1, ac_upR Y.2.2 k j x) mm q ls st) : ac_V G on cc nL ret d mc ms P ck cn Y mm pc ls ((2, (x : Int)) :: (2, (k : Int)) :: st) := by
  refine ac_put0 (Y' := (Y.1, Y.2.1, ac_upR Y.2.2 k j x)) hdg hf hk hq (Or.inr ⟨hi, rfl⟩) (fun base ty h => ac_refs (by rw [ht] at h; exact h)) ⟨rfl, rfl⟩ ?_ (fun k' j' h => ⟨if_neg h, rfl⟩) kk
  unfold ac_w
  rw [ht]
  show (2, ((ac_upR Y.2.2 k j x k j : Nat) : Int)) = _
  rw [ac_upR, if_pos ⟨rfl, rfl⟩]
theorem ac_vpin {i : Int} {n : Nat} (h0 : 0 ≤ i) (h1 : i < n) (hn : n < 2147483648) : vp_in (Int32.ofInt i) n ∧ (Int32.ofInt i).toNatClampNeg = i.toNat := by
  have hi : ac_in i := ⟨by omega, by omega⟩
  have e := ac_toInt hi
  refine ⟨vp_in_iff.mpr (by rw [e]; exact ⟨h0, h1⟩), ?_⟩
  show (Int32.ofInt i).toInt.toNat = _
  rw [e]
theorem ac_iaload {k n : Nat} {i v : Int} (hdg : decode cc pc = .ok (.iaload, 1)) (hk : Y.2.1 k = (1, n)) (hn : n < 2147483648) (hi : 0 ≤ i ∧ i < n) (hq : pc + 1 = q) (hv : mm k i.toNat = v) (kk : ac_V G on cc nL ret d mc ms P ck cn Y mm q ls ((0, v) :: st)) : ac_V G on cc nL ret d mc ms P ck cn Y mm pc ls ((0, i) :: (2, (k : Int)) :: st) := by
  intro p e s m args below meth c H locs la X hz hH hS hL
  subst hq; subst hv
  have h := kk p e s m args below meth c H locs la X hz hH hS hL
  have h9 : (Y.2.1 k).1 ≠ 9 := by rw [hk]; exact (show (1 : Nat) ≠ 9 by decide)
  have h1 := (ac_live hH.1 h9).1
  have he := ac_ws_at (G := G) (mm := mm) hH.1 h9
  rw [ac_ent_i hk] at he
  obtain ⟨g1, g2⟩ := ac_vpin hi.1 hi.2 hn
  simp only [List.map_cons, ac_refv h1]
  refine va_iald X.1 X.2.1 X.2.2.2.2.2.2.2.1.1 hH.2 (k - 1) 0 he rfl g1 hdg ?_
  rw [g2]
  exact h
theorem ac_baload {k n : Nat} {i v : Int} (hdg : decode cc pc = .ok (.baload, 1)) (hk : Y.2.1 k = (2, n)) (hn : n < 2147483648) (hi : 0 ≤ i ∧ i < n) (hq : pc + 1 = q) (hv : mm k i.toNat = v) (kk : ac_V G on cc nL ret d mc ms P ck cn Y mm q ls ((0, v) :: st)) : ac_V G on cc nL ret d mc ms P ck cn Y mm pc ls ((0, i) :: (2, (k : Int)) :: st) := by
  intro p e s m args below meth c H locs la X hz hH hS hL
  subst hq; subst hv
  have h := kk p e s m args below meth c H locs la X hz hH hS hL
  have h9 : (Y.2.1 k).1 ≠ 9 := by rw [hk]; exact (show (2 : Nat) ≠ 9 by decide)
  have h1 := (ac_live hH.1 h9).1
  have he := ac_ws_at (G := G) (mm := mm) hH.1 h9
  rw [ac_ent_z hk] at he
  obtain ⟨g1, g2⟩ := ac_vpin hi.1 hi.2 hn
  simp only [List.map_cons, ac_refv h1]
  refine va_zald X.1 X.2.1 X.2.2.2.2.2.2.2.1.1 hH.2 (k - 1) 1 he rfl g1 hdg ?_
  rw [g2]
  exact h
theorem ac_aaload {k n : Nat} {i : Int} {v : Nat} (hdg : decode cc pc = .ok (.aaload, 1)) (hk : Y.2.1 k = (3, n)) (hn : n < 2147483648) (hi : 0 ≤ i ∧ i < n) (hq : pc + 1 = q) (hv : Y.2.2 k i.toNat = v) (kk : ac_V G on cc nL ret d mc ms P ck cn Y mm q ls ((2, (v : Int)) :: st)) : ac_V G on cc nL ret d mc ms P ck cn Y mm pc ls ((0, i) :: (2, (k : Int)) :: st) := by
  intro p e s m args below meth c H locs la X hz hH hS hL
  subst hq; subst hv
  have h := kk p e s m args below meth c H locs la X hz hH hS hL
  have h9 : (Y.2.1 k).1 ≠ 9 := by rw [hk]; exact (show (3 : Nat) ≠ 9 by decide)
  have h1 := (ac_live hH.1 h9).1
  have he := ac_ws_at (G := G) (mm := mm) hH.1 h9
  rw [ac_ent_t hk] at he
  obtain ⟨g1, g2⟩ := ac_vpin hi.1 hi.2 hn
  simp only [List.map_cons, ac_refv h1]
  refine va_aldq X.1 X.2.1 X.2.2.2.2.2.2.2.1.1 hH.2 (k - 1) 2 he rfl g1 hdg ?_
  rw [g2]
  have e : va_rf (if Y.2.2 k i.toNat = 0 then none else some (G.2.1 + (Y.2.2 k i.toNat - 1))) = ac_v G.2.1 (2, ((Y.2.2 k i.toNat : Nat) : Int)) := by
    by_cases h0 : Y.2.2 k i.toNat = 0
    · rw [if_pos h0, h0]; rfl
    · rw [if_neg h0, ac_refv (by omega)]; rfl
  rw [e]
  exact h
theorem ac_alen {k t n : Nat} (hdg : decode cc pc = .ok (.arraylength, 1)) (hk : Y.2.1 k = (t, n)) (ht : t = 1 ∨ t = 2 ∨ t = 3) (hq : pc + 1 = q) (kk : ac_V G on cc nL ret d mc ms P ck cn Y mm q ls ((0, (n : Int)) :: st)) : ac_V G on cc nL ret d mc ms P ck cn Y mm pc ls ((2, (k : Int)) :: st) := by
  intro p e s m args below meth c H locs la X hz hH hS hL
  subst hq
  have h := kk p e s m args below meth c H locs la X hz hH hS hL
  have h9 : (Y.2.1 k).1 ≠ 9 := by rw [hk]; show t ≠ 9; omega
  have h1 := (ac_live hH.1 h9).1
  have he := ac_ws_at (G := G) (mm := mm) hH.1 h9
  simp only [List.map_cons, ac_refv h1]
  have hv : Int32.ofNat n = Int32.ofInt (n : Int) := rfl
  rcases ht with rfl | rfl | rfl
  · rw [ac_ent_i hk] at he
    exact va_alen X.1 X.2.1 X.2.2.2.2.2.2.2.1.1 hH.2 (k - 1) 0 he rfl hv hdg h
  · rw [ac_ent_z hk] at he
    exact va_alen X.1 X.2.1 X.2.2.2.2.2.2.2.1.1 hH.2 (k - 1) 1 he rfl hv hdg h
  · rw [ac_ent_t hk] at he
    exact va_alen X.1 X.2.1 X.2.2.2.2.2.2.2.1.1 hH.2 (k - 1) 2 he rfl hv hdg h
theorem ac_ent_oth {G : ac_G} {Y : ac_Y} {mm : ac_M} {k j : Nat} {x : Int} : ∀ k', k' ≠ k → ac_ent G Y (ac_up mm k j x) k' = ac_ent G Y mm k' := by
  intro k' hk
  have o : ∀ j', ac_up mm k j x k' j' = mm k' j' := fun j' => ac_up_k hk
  simp only [ac_ent, ac_w, o]
theorem ac_iastore {k n : Nat} {i x : Int} (hdg : decode cc pc = .ok (.iastore, 1)) (hk : Y.2.1 k = (1, n)) (hn : n < 2147483648) (hi : 0 ≤ i ∧ i < n) (hq : pc + 1 = q) (kk : ac_V G on cc nL ret d mc ms P ck cn Y (ac_up mm k i.toNat x) q ls st) : ac_V G on cc nL ret d mc ms P ck cn Y mm pc ls ((0, x) :: (0, i) :: (2, (k : Int)) :: st) := by
  intro p e s m args below meth c H locs la X hz hH hS hL
  subst hq
  have h9 : (Y.2.1 k).1 ≠ 9 := by rw [hk]; exact (show (1 : Nat) ≠ 9 by decide)
  have h1 := (ac_live hH.1 h9).1
  have he := ac_ws_at (G := G) (mm := mm) hH.1 h9
  rw [ac_ent_i hk] at he
  obtain ⟨g1, g2⟩ := ac_vpin hi.1 hi.2 hn
  simp only [List.map_cons, ac_refv h1]
  refine va_iast X.1 X.2.1 X.2.2.2.2.2.2.2.1.1 hH.2 ac_ws_D hS (k - 1) 0 he rfl g1 hdg (fun H1 locs1 hP1 hD1 hS1 => ?_)
  refine kk p e s m args below meth c H1 locs1 la X hz ⟨hH.1, ?_⟩ hS1 hL
  rw [g2, ac_ws_set (Y' := Y) (mm' := ac_up mm k i.toNat x) h1 rfl ?_ ac_ent_oth] at hP1
  · exact hP1
  · rw [ac_ent_i hk]
    congr 4
    funext j
    by_cases hj : j = i.toNat
    · subst hj
      rw [ac_up_s]; simp [upd]
    · rw [ac_up_j hj]; simp [upd, hj]
theorem ac_bastore {k n : Nat} {i x : Int} (hdg : decode cc pc = .ok (.bastore, 1)) (hk : Y.2.1 k = (2, n)) (hn : n < 2147483648) (hi : 0 ≤ i ∧ i < n) (hx : x = 0 ∨ x = 1) (hq : pc + 1 = q) (kk : ac_V G on cc nL ret d mc ms P ck cn Y (ac_up mm k i.toNat x) q ls st) : ac_V G on cc nL ret d mc ms P ck cn Y mm pc ls ((0, x) :: (0, i) :: (2, (k : Int)) :: st) := by
  intro p e s m args below meth c H locs la X hz hH hS hL
  subst hq
  have h9 : (Y.2.1 k).1 ≠ 9 := by rw [hk]; exact (show (2 : Nat) ≠ 9 by decide)
  have h1 := (ac_live hH.1 h9).1
  have he := ac_ws_at (G := G) (mm := mm) hH.1 h9
  rw [ac_ent_z hk] at he
  obtain ⟨g1, g2⟩ := ac_vpin hi.1 hi.2 hn
  simp only [List.map_cons, ac_refv h1]
  refine va_zast X.1 X.2.1 X.2.2.2.2.2.2.2.1.1 hH.2 ac_ws_D hS (k - 1) 1 he rfl g1 hdg (fun H1 locs1 hP1 hD1 hS1 => ?_)
  refine kk p e s m args below meth c H1 locs1 la X hz ⟨hH.1, ?_⟩ hS1 hL
  rw [g2, ac_ws_set (Y' := Y) (mm' := ac_up mm k i.toNat x) h1 rfl ?_ ac_ent_oth] at hP1
  · exact hP1
  · rw [ac_ent_z hk]
    have hb : vp_nar .boolean (Int32.ofInt x) = Int32.ofInt x := by rcases hx with rfl | rfl <;> decide
    congr 4
    funext j
    by_cases hj : j = i.toNat
    · subst hj
      rw [ac_up_s]; simp [upd, hb]
    · rw [ac_up_j hj]; simp [upd, hj]
end AcMem
end
section
/-- the slot before isn't the first half of a long -/
def ac_okl (ls : List (Nat × Int)) (i : Nat) : Bool := match i with
  | 0 => true
  | k + 1 => match ls[k]? with
    | some (1, _) => false
    | _ => true
theorem ac_okl_spec {ls : List (Nat × Int)} {i k : Nat} {w : Nat × Int} (h : ac_okl ls i = true) (hk : k + 1 = i) (hw : ls[k]? = some w) : w.1 ≠ 1 := by
  subst hk
  intro h1
  obtain ⟨a, x⟩ := w
  have h1 : a = 1 := h1
  subst h1
  simp [ac_okl, hw] at h
theorem ac_cat {base : Nat} {w : Nat × Int} (h : w.1 ≠ 1) : ((ac_v base w).category == 2) = false := by rw [ac_cat1 h]; rfl
theorem ac_set1 {base nL : Nat} {la : Array Slot} {ls : List (Nat × Int)} {i : Nat} {w : Nat × Int} (hok : ac_okl ls i = true) (h : lv_has la nL ((i, ac_v base w) :: (ac_enc base ls).filter (fun q => !(q.1 == i) && !(q.1 + 1 == i && q.2.category == 2)))) : lv_has la nL (ac_enc base (ls.set i w)) := by
  refine ac_lweak h fun q hq => ?_
  obtain ⟨u, h1, h2, h3⟩ := ac_enc_mem.mp hq
  obtain ⟨k, v⟩ := q
  simp only at h1 h3
  subst h3
  rw [List.getElem?_set] at h1
  by_cases hi : i = k
  · subst hi
    rw [if_pos rfl] at h1
    split at h1
    · cases h1; exact List.mem_cons_self
    · cases h1
  · rw [if_neg hi] at h1
    refine List.mem_cons_of_mem _ (List.mem_filter.mpr ⟨ac_enc_mem.mpr ⟨u, h1, h2, rfl⟩, ?_⟩)
    have hki : (k == i) = false := by simpa using fun q => hi q.symm
    simp only [hki, Bool.not_false, Bool.true_and, Bool.not_eq_true']
    by_cases hs : k + 1 = i
    · rw [ac_cat (ac_okl_spec hok hs h1), Bool.and_false]
    · simp [hs]
theorem ac_set2 {base nL : Nat} {la : Array Slot} {ls : List (Nat × Int)} {i : Nat} {w : Nat × Int} (hok : ac_okl ls i = true) (h : lv_has la nL ((i, ac_v base w) :: (ac_enc base ls).filter (fun q => !(q.1 == i) && (!(q.1 == i + 1) && !(q.1 + 1 == i && q.2.category == 2))))) : lv_has la nL (ac_enc base ((ls.set i w).set (i + 1) (3, 0))) := by
  refine ac_lweak h fun q hq => ?_
  obtain ⟨u, h1, h2, h3⟩ := ac_enc_mem.mp hq
  obtain ⟨k, v⟩ := q
  simp only at h1 h3
  subst h3
  rw [List.getElem?_set] at h1
  by_cases hj : i + 1 = k
  · subst hj
    rw [if_pos rfl] at h1
    split at h1
    · cases h1; exact absurd rfl h2
    · cases h1
  · rw [if_neg hj, List.getElem?_set] at h1
    by_cases hi : i = k
    · subst hi
      rw [if_pos rfl] at h1
      split at h1
      · cases h1; exact List.mem_cons_self
      · cases h1
    · rw [if_neg hi] at h1
      refine List.mem_cons_of_mem _ (List.mem_filter.mpr ⟨ac_enc_mem.mpr ⟨u, h1, h2, rfl⟩, ?_⟩)
      have hki : (k == i) = false := by simpa using fun q => hi q.symm
      have hkj : (k == i + 1) = false := by simpa using fun q => hj q.symm
      simp only [hki, hkj, Bool.not_false, Bool.true_and, Bool.not_eq_true']
      by_cases hs : k + 1 = i
      · rw [ac_cat (ac_okl_spec hok hs h1), Bool.and_false]
      · simp [hs]
theorem ac_sh5 {k : Nat} (h : k < 32) : (Int32.ofInt (k : Int) &&& 31).toBitVec.smod 32 = BitVec.ofNat 32 k := by
  have : ∀ k : Fin 32, (Int32.ofInt ((k : Nat) : Int) &&& 31).toBitVec.smod 32 = BitVec.ofNat 32 (k : Nat) := by decide
  exact this ⟨k, h⟩
theorem ac_shl {a : Int} {k : Nat} (h : k < 32) : Int32.ofInt a <<< (Int32.ofInt (k : Int) &&& 31) = Int32.ofInt (a * 2 ^ k) := by
  apply Int32.toBitVec.inj
  rw [Int32.toBitVec_shiftLeft, ac_sh5 h, Int32.toBitVec_ofInt, Int32.toBitVec_ofInt]
  show BitVec.ofInt 32 a <<< (BitVec.ofNat 32 k).toNat = _
  rw [BitVec.toNat_ofNat, Nat.mod_eq_of_lt (by omega)]
  rw [BitVec.shiftLeft_eq_mul_twoPow, BitVec.ofInt_mul]
  congr 1
  apply BitVec.eq_of_toNat_eq
  rw [BitVec.toNat_twoPow, BitVec.toNat_ofInt]
  have : ((2 : Int) ^ k % (2 ^ 32 : Nat)).toNat = 2 ^ k % 2 ^ 32 := by
    rw [show (2 : Int) ^ k = ((2 ^ k : Nat) : Int) by simp]
    rfl
  rw [this]
theorem ac_shr {a : Int} {k : Nat} (ha : ac_in a) (h : k < 32) : Int32.ofInt a >>> (Int32.ofInt (k : Int) &&& 31) = Int32.ofInt (a / 2 ^ k) := by
  have e := pk_shr (Int32.ofInt a) (Int32.ofInt (k : Int) &&& 31) k (by rw [ac_sh5 h]; simp; omega)
  rw [ac_toInt ha, Int.shiftRight_eq_div_pow] at e
  rw [← Int32.ofInt_toInt (Int32.ofInt a >>> (Int32.ofInt (k : Int) &&& 31)), e]
  rfl
theorem ac_ofN (a : Nat) : BitVec.ofInt 32 (a : Int) = BitVec.ofNat 32 a := rfl
theorem ac_ofNL (a : Nat) : BitVec.ofInt 64 (a : Int) = BitVec.ofNat 64 a := rfl
theorem ac_and (a b : Nat) : Int32.ofInt (a : Int) &&& Int32.ofInt (b : Int) = Int32.ofInt ((a &&& b : Nat) : Int) := by
  apply Int32.toBitVec.inj
  rw [Int32.toBitVec_and, Int32.toBitVec_ofInt, Int32.toBitVec_ofInt, Int32.toBitVec_ofInt, ac_ofN, ac_ofN, ac_ofN]
  apply BitVec.eq_of_toNat_eq
  rw [BitVec.toNat_and, BitVec.toNat_ofNat, BitVec.toNat_ofNat, BitVec.toNat_ofNat, Nat.and_mod_two_pow]
theorem ac_or (a b : Nat) : Int32.ofInt (a : Int) ||| Int32.ofInt (b : Int) = Int32.ofInt ((a ||| b : Nat) : Int) := by
  apply Int32.toBitVec.inj
  rw [Int32.toBitVec_or, Int32.toBitVec_ofInt, Int32.toBitVec_ofInt, Int32.toBitVec_ofInt, ac_ofN, ac_ofN, ac_ofN]
  apply BitVec.eq_of_toNat_eq
  rw [BitVec.toNat_or, BitVec.toNat_ofNat, BitVec.toNat_ofNat, BitVec.toNat_ofNat, Nat.or_mod_two_pow]
theorem ac_not (a : Int) : Int32.ofInt a ^^^ Int32.ofInt (-1) = Int32.ofInt (-1 - a) := by
  apply Int32.toBitVec.inj
  rw [Int32.toBitVec_xor, Int32.toBitVec_ofInt, Int32.toBitVec_ofInt, Int32.toBitVec_ofInt]
  rw [show BitVec.ofInt 32 (-1) = BitVec.allOnes 32 from rfl, BitVec.xor_allOnes, Int.sub_eq_add_neg, BitVec.ofInt_add, show BitVec.ofInt 32 (-1) = BitVec.allOnes 32 from rfl, BitVec.ofInt_neg, ← BitVec.sub_eq_add_neg, BitVec.allOnes_sub_eq_not]
def ac_andn (a b : Nat) : Nat := a &&& (a ^^^ b)
theorem ac_andn_bit (a b i : Nat) : (ac_andn a b).testBit i = (a.testBit i && !b.testBit i) := by
  unfold ac_andn
  rw [Nat.testBit_and, Nat.testBit_xor]
  cases a.testBit i <;> cases b.testBit i <;> rfl
theorem ac_andnI (a b : Nat) : Int32.ofInt (a : Int) &&& Int32.ofInt (-1 - (b : Int)) = Int32.ofInt ((ac_andn a b : Nat) : Int) := by
  rw [← ac_not]
  apply Int32.toBitVec.inj
  rw [Int32.toBitVec_and, Int32.toBitVec_xor, Int32.toBitVec_ofInt, Int32.toBitVec_ofInt, Int32.toBitVec_ofInt, Int32.toBitVec_ofInt, show BitVec.ofInt 32 (-1) = BitVec.allOnes 32 from rfl, BitVec.xor_allOnes, ac_ofN, ac_ofN, ac_ofN]
  apply BitVec.eq_of_getLsbD_eq
  intro i hi
  rw [BitVec.getLsbD_and, BitVec.getLsbD_not, BitVec.getLsbD_ofNat, BitVec.getLsbD_ofNat, BitVec.getLsbD_ofNat, ac_andn_bit]
  simp [hi]
theorem ac_tdiv {a b : Int} (ha : ac_in a) (hb : ac_in b) (h : b ≠ 0) (hm : ¬ (a = -2147483648 ∧ b = -1)) : Int32.ofInt a / Int32.ofInt b = Int32.ofInt (a.tdiv b) := by
  have h1 : Int32.minValue.toInt = -2147483648 := by decide
  have h2 : Int32.maxValue.toInt = 2147483647 := by decide
  exact (Int32.ofInt_tdiv (by rw [h1]; exact ha.1) (by rw [h2]; have := ha.2; omega) (by rw [h1]; exact hb.1) (by rw [h2]; have := hb.2; omega)).symm
theorem ac_tdivL {a b : Int} (ha : ac_il a) (hb : ac_il b) : Int64.ofInt a / Int64.ofInt b = Int64.ofInt (a.tdiv b) := by
  have h1 : Int64.minValue.toInt = -9223372036854775808 := by decide
  have h2 : Int64.maxValue.toInt = 9223372036854775807 := by decide
  exact (Int64.ofInt_tdiv (by rw [h1]; exact ha.1) (by rw [h2]; have := ha.2; omega) (by rw [h1]; exact hb.1) (by rw [h2]; have := hb.2; omega)).symm
theorem ac_tmod {a b : Int} : a - a.tdiv b * b = a.tmod b := by
  rw [Int.tmod_def, Int.mul_comm]
theorem ac_ushrN {a k : Nat} (ha : a < 2147483648) (hk : k < 32) : ((Int32.ofInt (a : Int)).toUInt32 >>> ((Int32.ofInt (k : Int)).toUInt32 &&& Int32.toUInt32 31)).toInt32 = Int32.ofInt ((a / 2 ^ k : Nat) : Int) := by
  have e : ∀ k : Fin 32, ((Int32.ofInt ((k : Nat) : Int)).toUInt32 &&& Int32.toUInt32 31).toBitVec % 32 = BitVec.ofNat 32 (k : Nat) := by decide
  have e1 := e ⟨k, hk⟩
  exact pk_ushrN (n := a) (by omega) (Int32.ofInt (k : Int)) k (by rw [e1]; simp; omega)
theorem ac_lsh (a : Int) : Int64.ofInt a <<< ((Int32.ofInt 32).toInt64 &&& 63) = Int64.ofInt (a * 4294967296) := by
  apply Int64.toBitVec.inj
  rw [Int64.toBitVec_shiftLeft, Int64.toBitVec_ofInt, Int64.toBitVec_ofInt]
  have e : ((Int32.ofInt 32).toInt64 &&& 63).toBitVec.smod 64 = 32 := by decide
  rw [e, BitVec.ofInt_mul]
  show BitVec.ofInt 64 a <<< (32 : BitVec 64).toNat = _
  rw [show (32 : BitVec 64).toNat = 32 from rfl, BitVec.shiftLeft_eq_mul_twoPow]
  rfl
theorem ac_lushr33v (a : Int) : ((Int64.ofInt a).toUInt64 >>> ((Int32.ofInt 33).toInt64.toUInt64 &&& Int64.toUInt64 63)).toInt64 = Int64.ofInt ((a % 18446744073709551616) / 8589934592) := by
  apply Int64.toBitVec.inj
  rw [Int64.toBitVec_ofInt]
  show ((Int64.ofInt a).toUInt64 >>> ((Int32.ofInt 33).toInt64.toUInt64 &&& Int64.toUInt64 63)).toBitVec = _
  rw [UInt64.toBitVec_shiftRight]
  have e : ((Int32.ofInt 33).toInt64.toUInt64 &&& Int64.toUInt64 63).toBitVec % 64 = 33 := by decide
  rw [e]
  apply BitVec.eq_of_toNat_eq
  show ((BitVec.ofInt 64 a) >>> (33 : BitVec 64).toNat).toNat = _
  rw [show (33 : BitVec 64).toNat = 33 from rfl, BitVec.toNat_ushiftRight, BitVec.toNat_ofInt, BitVec.toNat_ofInt, Nat.shiftRight_eq_div_pow]
  show (a % 18446744073709551616).toNat / 8589934592 = (a % 18446744073709551616 / 8589934592 % 18446744073709551616).toNat
  omega
section AcLoc
variable {G : ac_G} {on : String × String} {cc : ByteArray} {nL : Nat} {ret : Option FieldType} {d mc ms : Nat} {P : ac_P} {ck cn : Nat} {Y : ac_Y} {mm : ac_M} {pc q : Nat} {ls st : List (Nat × Int)}
theorem ac_istore_n {i : Fin 4} {x : Int} {ls' : List (Nat × Int)} (hdg : decode cc pc = .ok (.istore_n i, 1)) (hq : pc + 1 = q) (hn : (i : Nat) < nL) (hok : ac_okl ls (i : Nat) = true) (hl : ls.set (i : Nat) (0, x) = ls') (kk : ac_V G on cc nL ret d mc ms P ck cn Y mm q ls' st) : ac_V G on cc nL ret d mc ms P ck cn Y mm pc ls ((0, x) :: st) := by
  intro p e s m args below meth c H locs la X hz hH hS hL
  subst hq
  subst hl
  exact lv_istore_n X.1 X.2.1 hdg rfl hL hn rfl (fun la2 hL2 => kk p e s m args below meth c H locs la2 X hz hH hS (ac_set1 hok hL2))
theorem ac_istore {i : Nat} {x : Int} {ls' : List (Nat × Int)} (hdg : decode cc pc = .ok (.istore i, 2)) (hq : pc + 2 = q) (hn : (i : Nat) < nL) (hok : ac_okl ls (i : Nat) = true) (hl : ls.set (i : Nat) (0, x) = ls') (kk : ac_V G on cc nL ret d mc ms P ck cn Y mm q ls' st) : ac_V G on cc nL ret d mc ms P ck cn Y mm pc ls ((0, x) :: st) := by
  intro p e s m args below meth c H locs la X hz hH hS hL
  subst hq
  subst hl
  exact lv_istore X.1 X.2.1 hdg hL hn rfl (fun la2 hL2 => kk p e s m args below meth c H locs la2 X hz hH hS (ac_set1 hok hL2))
theorem ac_astore_n {i : Fin 4} {x : Int} {ls' : List (Nat × Int)} (hdg : decode cc pc = .ok (.astore_n i, 1)) (hq : pc + 1 = q) (hn : (i : Nat) < nL) (hok : ac_okl ls (i : Nat) = true) (hl : ls.set (i : Nat) (2, x) = ls') (kk : ac_V G on cc nL ret d mc ms P ck cn Y mm q ls' st) : ac_V G on cc nL ret d mc ms P ck cn Y mm pc ls ((2, x) :: st) := by
  intro p e s m args below meth c H locs la X hz hH hS hL
  subst hq
  subst hl
  have g : ∀ la2 : Array Slot, lv_has la2 nL ((i, ac_v G.2.1 (2, x)) :: (ac_enc G.2.1 ls).filter (fun q => !(q.1 == (i : Nat)) && !(q.1 + 1 == (i : Nat) && q.2.category == 2))) → W p G.1 e (ac_room d mc ms) s m args below meth c H locs ck cn (MQ below (ac_Qc G P) args s mc ms (ac_A G)) (F0 m (pc + 1) la2 (st.map (ac_v G.2.1))) := (fun la2 hL2 => kk p e s m args below meth c H locs la2 X hz hH hS (ac_set1 hok hL2))
  simp only [List.map_cons, ac_v] at g ⊢
  by_cases hx : x = 0
  · simp only [if_pos hx] at g ⊢
    exact lv_astore_nN X.1 X.2.1 hdg rfl hL hn rfl g
  · simp only [if_neg hx] at g ⊢
    exact lv_astore_n X.1 X.2.1 hdg rfl hL hn rfl g
theorem ac_astore {i : Nat} {x : Int} {ls' : List (Nat × Int)} (hdg : decode cc pc = .ok (.astore i, 2)) (hq : pc + 2 = q) (hn : (i : Nat) < nL) (hok : ac_okl ls (i : Nat) = true) (hl : ls.set (i : Nat) (2, x) = ls') (kk : ac_V G on cc nL ret d mc ms P ck cn Y mm q ls' st) : ac_V G on cc nL ret d mc ms P ck cn Y mm pc ls ((2, x) :: st) := by
  intro p e s m args below meth c H locs la X hz hH hS hL
  subst hq
  subst hl
  have g : ∀ la2 : Array Slot, lv_has la2 nL ((i, ac_v G.2.1 (2, x)) :: (ac_enc G.2.1 ls).filter (fun q => !(q.1 == (i : Nat)) && !(q.1 + 1 == (i : Nat) && q.2.category == 2))) → W p G.1 e (ac_room d mc ms) s m args below meth c H locs ck cn (MQ below (ac_Qc G P) args s mc ms (ac_A G)) (F0 m (pc + 2) la2 (st.map (ac_v G.2.1))) := (fun la2 hL2 => kk p e s m args below meth c H locs la2 X hz hH hS (ac_set1 hok hL2))
  simp only [List.map_cons, ac_v] at g ⊢
  by_cases hx : x = 0
  · simp only [if_pos hx] at g ⊢
    exact lv_astoreN X.1 X.2.1 hdg hL hn rfl g
  · simp only [if_neg hx] at g ⊢
    exact lv_astore X.1 X.2.1 hdg hL hn rfl g
theorem ac_lstore_n {i : Fin 4} {x : Int} {ls' : List (Nat × Int)} (hdg : decode cc pc = .ok (.lstore_n i, 1)) (hq : pc + 1 = q) (hn : (i : Nat) + 1 < nL) (hok : ac_okl ls (i : Nat) = true) (hl : (ls.set (i : Nat) (1, x)).set ((i : Nat) + 1) (3, 0) = ls') (kk : ac_V G on cc nL ret d mc ms P ck cn Y mm q ls' st) : ac_V G on cc nL ret d mc ms P ck cn Y mm pc ls ((1, x) :: st) := by
  intro p e s m args below meth c H locs la X hz hH hS hL
  subst hq
  subst hl
  exact lv_lstore_n X.1 X.2.1 hdg rfl hL hn rfl (fun la2 hL2 => kk p e s m args below meth c H locs la2 X hz hH hS (ac_set2 hok hL2))
theorem ac_lstore {i : Nat} {x : Int} {ls' : List (Nat × Int)} (hdg : decode cc pc = .ok (.lstore i, 2)) (hq : pc + 2 = q) (hn : (i : Nat) + 1 < nL) (hok : ac_okl ls (i : Nat) = true) (hl : (ls.set (i : Nat) (1, x)).set ((i : Nat) + 1) (3, 0) = ls') (kk : ac_V G on cc nL ret d mc ms P ck cn Y mm q ls' st) : ac_V G on cc nL ret d mc ms P ck cn Y mm pc ls ((1, x) :: st) := by
  intro p e s m args below meth c H locs la X hz hH hS hL
  subst hq
  subst hl
  exact lv_lstore X.1 X.2.1 hdg hL hn rfl (fun la2 hL2 => kk p e s m args below meth c H locs la2 X hz hH hS (ac_set2 hok hL2))
theorem ac_iinc {i : Nat} {n x v : Int} {ls' : List (Nat × Int)} (hdg : decode cc pc = .ok (.iinc i n, 3)) (hq : pc + 3 = q) (hn : i < nL) (hok : ac_okl ls i = true) (hx : ls[i]? = some (0, x)) (hv : x + n = v) (hl : ls.set i (0, v) = ls') (kk : ac_V G on cc nL ret d mc ms P ck cn Y mm q ls' st) : ac_V G on cc nL ret d mc ms P ck cn Y mm pc ls st := by
  intro p e s m args below meth c H locs la X hz hH hS hL
  subst hq
  subst hl; subst hv
  have hm : (i, ac_v G.2.1 (0, x)) ∈ ac_enc G.2.1 ls := ac_enc_mem.mpr ⟨(0, x), hx, (show (0 : Nat) ≠ 3 by decide), rfl⟩
  obtain ⟨k, hk⟩ := List.getElem?_of_mem hm
  exact lv_iinc X.1 X.2.1 hdg hL hk (v := Int32.ofInt (x + n)) (Int32.ofInt_add x n).symm hn rfl (fun la2 hL2 => kk p e s m args below meth c H locs la2 X hz hH hS (ac_set1 (w := (0, x + n)) hok hL2))
theorem ac_ishl {a : Int} {k : Nat} (hdg : decode cc pc = .ok (.ishl, 1)) (hq : pc + 1 = q) (hk : k < 32) (kk : ac_V G on cc nL ret d mc ms P ck cn Y mm q ls ((0, a * 2 ^ k) :: st)) : ac_V G on cc nL ret d mc ms P ck cn Y mm pc ls ((0, (k : Int)) :: (0, a) :: st) := by
  intro p e s m args below meth c H locs la X hz hH hS hL
  subst hq
  have h := kk p e s m args below meth c H locs la X hz hH hS hL
  refine lv_ishl X.1 X.2.1 hdg ?_
  rw [ac_shl hk]
  exact h
theorem ac_ishr {a : Int} {k : Nat} (hdg : decode cc pc = .ok (.ishr, 1)) (hq : pc + 1 = q) (ha : ac_in a) (hk : k < 32) (kk : ac_V G on cc nL ret d mc ms P ck cn Y mm q ls ((0, a / 2 ^ k) :: st)) : ac_V G on cc nL ret d mc ms P ck cn Y mm pc ls ((0, (k : Int)) :: (0, a) :: st) := by
  intro p e s m args below meth c H locs la X hz hH hS hL
  subst hq
  have h := kk p e s m args below meth c H locs la X hz hH hS hL
  refine lv_ishr X.1 X.2.1 hdg ?_
  rw [ac_shr ha hk]
  exact h
theorem ac_ishl1 {k : Nat} (hdg : decode cc pc = .ok (.ishl, 1)) (hq : pc + 1 = q) (hk : k < 32) (kk : ac_V G on cc nL ret d mc ms P ck cn Y mm q ls ((0, ((2 ^ k : Nat) : Int)) :: st)) : ac_V G on cc nL ret d mc ms P ck cn Y mm pc ls ((0, (k : Int)) :: (0, 1) :: st) := by
  intro p e s m args below meth c H locs la X hz hH hS hL
  subst hq
  have h := kk p e s m args below meth c H locs la X hz hH hS hL
  refine lv_ishl X.1 X.2.1 hdg ?_
  rw [ac_shl hk, show (1 : Int) * 2 ^ k = ((2 ^ k : Nat) : Int) by simp]
  exact h
theorem ac_ishrN {a k : Nat} (hdg : decode cc pc = .ok (.ishr, 1)) (hq : pc + 1 = q) (ha : a < 2147483648) (hk : k < 32) (kk : ac_V G on cc nL ret d mc ms P ck cn Y mm q ls ((0, ((a / 2 ^ k : Nat) : Int)) :: st)) : ac_V G on cc nL ret d mc ms P ck cn Y mm pc ls ((0, (k : Int)) :: (0, (a : Int)) :: st) := by
  intro p e s m args below meth c H locs la X hz hH hS hL
  subst hq
  have h := kk p e s m args below meth c H locs la X hz hH hS hL
  refine lv_ishr X.1 X.2.1 hdg ?_
  rw [ac_shr ⟨by omega, by omega⟩ hk, show ((a : Int) / 2 ^ k) = ((a / 2 ^ k : Nat) : Int) by simp]
  exact h
theorem ac_iushrN {a k : Nat} (hdg : decode cc pc = .ok (.iushr, 1)) (hq : pc + 1 = q) (ha : a < 2147483648) (hk : k < 32) (kk : ac_V G on cc nL ret d mc ms P ck cn Y mm q ls ((0, ((a / 2 ^ k : Nat) : Int)) :: st)) : ac_V G on cc nL ret d mc ms P ck cn Y mm pc ls ((0, (k : Int)) :: (0, (a : Int)) :: st) := by
  intro p e s m args below meth c H locs la X hz hH hS hL
  subst hq
  have h := kk p e s m args below meth c H locs la X hz hH hS hL
  refine lv_iushr X.1 X.2.1 hdg (v := Int32.ofInt ((a / 2 ^ k : Nat) : Int)) ?_ h
  exact ac_ushrN ha hk
theorem ac_iand {a b : Nat} (hdg : decode cc pc = .ok (.iand, 1)) (hq : pc + 1 = q) (kk : ac_V G on cc nL ret d mc ms P ck cn Y mm q ls ((0, ((a &&& b : Nat) : Int)) :: st)) : ac_V G on cc nL ret d mc ms P ck cn Y mm pc ls ((0, (b : Int)) :: (0, (a : Int)) :: st) := by
  intro p e s m args below meth c H locs la X hz hH hS hL
  subst hq
  have h := kk p e s m args below meth c H locs la X hz hH hS hL
  refine lv_iand X.1 X.2.1 hdg ?_
  rw [ac_and]
  exact h
theorem ac_ior {a b : Nat} (hdg : decode cc pc = .ok (.ior, 1)) (hq : pc + 1 = q) (kk : ac_V G on cc nL ret d mc ms P ck cn Y mm q ls ((0, ((a ||| b : Nat) : Int)) :: st)) : ac_V G on cc nL ret d mc ms P ck cn Y mm pc ls ((0, (b : Int)) :: (0, (a : Int)) :: st) := by
  intro p e s m args below meth c H locs la X hz hH hS hL
  subst hq
  have h := kk p e s m args below meth c H locs la X hz hH hS hL
  refine lv_ior X.1 X.2.1 hdg ?_
  rw [ac_or]
  exact h
theorem ac_ixor {a : Int} (hdg : decode cc pc = .ok (.ixor, 1)) (hq : pc + 1 = q) (kk : ac_V G on cc nL ret d mc ms P ck cn Y mm q ls ((0, -1 - a) :: st)) : ac_V G on cc nL ret d mc ms P ck cn Y mm pc ls ((0, -1) :: (0, a) :: st) := by
  intro p e s m args below meth c H locs la X hz hH hS hL
  subst hq
  have h := kk p e s m args below meth c H locs la X hz hH hS hL
  refine lv_ixor X.1 X.2.1 hdg ?_
  rw [ac_not]
  exact h
theorem ac_iandn {a b : Nat} (hdg : decode cc pc = .ok (.iand, 1)) (hq : pc + 1 = q) (kk : ac_V G on cc nL ret d mc ms P ck cn Y mm q ls ((0, ((ac_andn a b : Nat) : Int)) :: st)) : ac_V G on cc nL ret d mc ms P ck cn Y mm pc ls ((0, -1 - (b : Int)) :: (0, (a : Int)) :: st) := by
  intro p e s m args below meth c H locs la X hz hH hS hL
  subst hq
  have h := kk p e s m args below meth c H locs la X hz hH hS hL
  refine lv_iand X.1 X.2.1 hdg ?_
  rw [ac_andnI]
  exact h
theorem ac_idiv {a b : Int} (hdg : decode cc pc = .ok (.idiv, 1)) (hq : pc + 1 = q) (ha : ac_in a) (hb : ac_in b) (h0 : b ≠ 0) (hm : ¬ (a = -2147483648 ∧ b = -1)) (kk : ac_V G on cc nL ret d mc ms P ck cn Y mm q ls ((0, a.tdiv b) :: st)) : ac_V G on cc nL ret d mc ms P ck cn Y mm pc ls ((0, b) :: (0, a) :: st) := by
  intro p e s m args below meth c H locs la X hz hH hS hL
  subst hq
  have h := kk p e s m args below meth c H locs la X hz hH hS hL
  refine lv_idiv X.1 X.2.1 hdg (fun q => h0 ((ac_eq hb ac_in0).mp q)) ?_
  rw [ac_tdiv ha hb h0 hm]
  exact h
theorem ac_irem {a b : Int} (hdg : decode cc pc = .ok (.irem, 1)) (hq : pc + 1 = q) (ha : ac_in a) (hb : ac_in b) (h0 : b ≠ 0) (hm : ¬ (a = -2147483648 ∧ b = -1)) (kk : ac_V G on cc nL ret d mc ms P ck cn Y mm q ls ((0, a.tmod b) :: st)) : ac_V G on cc nL ret d mc ms P ck cn Y mm pc ls ((0, b) :: (0, a) :: st) := by
  intro p e s m args below meth c H locs la X hz hH hS hL
  subst hq
  have h := kk p e s m args below meth c H locs la X hz hH hS hL
  refine lv_irem X.1 X.2.1 hdg (fun q => h0 ((ac_eq hb ac_in0).mp q)) ?_
  rw [ac_tdiv ha hb h0 hm, ← Int32.ofInt_mul, ← Int32.ofInt_sub, ac_tmod]
  exact h
theorem ac_ldiv {a b : Int} (hdg : decode cc pc = .ok (.ldiv, 1)) (hq : pc + 1 = q) (ha : ac_il a) (hb : ac_il b) (h0 : b ≠ 0) (kk : ac_V G on cc nL ret d mc ms P ck cn Y mm q ls ((1, a.tdiv b) :: st)) : ac_V G on cc nL ret d mc ms P ck cn Y mm pc ls ((1, b) :: (1, a) :: st) := by
  intro p e s m args below meth c H locs la X hz hH hS hL
  subst hq
  have h := kk p e s m args below meth c H locs la X hz hH hS hL
  refine lv_ldiv X.1 X.2.1 hdg (fun q => h0 ((ac_ofIntL_inj hb ⟨by decide, by decide⟩).mp q)) ?_
  rw [ac_tdivL ha hb]
  exact h
theorem ac_lrem {a b : Int} (hdg : decode cc pc = .ok (.lrem, 1)) (hq : pc + 1 = q) (ha : ac_il a) (hb : ac_il b) (h0 : b ≠ 0) (kk : ac_V G on cc nL ret d mc ms P ck cn Y mm q ls ((1, a.tmod b) :: st)) : ac_V G on cc nL ret d mc ms P ck cn Y mm pc ls ((1, b) :: (1, a) :: st) := by
  intro p e s m args below meth c H locs la X hz hH hS hL
  subst hq
  have h := kk p e s m args below meth c H locs la X hz hH hS hL
  refine lv_lrem X.1 X.2.1 hdg (fun q => h0 ((ac_ofIntL_inj hb ⟨by decide, by decide⟩).mp q)) ?_
  rw [ac_tdivL ha hb, ← Int64.ofInt_mul, ← Int64.ofInt_sub, ac_tmod]
  exact h
theorem ac_lshl32 {a : Int} (hdg : decode cc pc = .ok (.lshl, 1)) (hq : pc + 1 = q) (kk : ac_V G on cc nL ret d mc ms P ck cn Y mm q ls ((1, a * 4294967296) :: st)) : ac_V G on cc nL ret d mc ms P ck cn Y mm pc ls ((0, 32) :: (1, a) :: st) := by
  intro p e s m args below meth c H locs la X hz hH hS hL
  subst hq
  have h := kk p e s m args below meth c H locs la X hz hH hS hL
  exact lv_lshl X.1 X.2.1 hdg (ac_lsh a) h
theorem ac_lushr33 {a : Int} (hdg : decode cc pc = .ok (.lushr, 1)) (hq : pc + 1 = q) (kk : ac_V G on cc nL ret d mc ms P ck cn Y mm q ls ((1, (a % 18446744073709551616) / 8589934592) :: st)) : ac_V G on cc nL ret d mc ms P ck cn Y mm pc ls ((0, 33) :: (1, a) :: st) := by
  intro p e s m args below meth c H locs la X hz hH hS hL
  subst hq
  have h := kk p e s m args below meth c H locs la X hz hH hS hL
  exact lv_lushr X.1 X.2.1 hdg (ac_lushr33v a) h
theorem ac_lcmp {a b : Int} (hdg : decode cc pc = .ok (.lcmp, 1)) (hq : pc + 1 = q) (ha : ac_il a) (hb : ac_il b) (kk : ∀ v : Int, (v = -1 ∧ a < b) ∨ (v = 0 ∧ a = b) ∨ (v = 1 ∧ b < a) → ac_V G on cc nL ret d mc ms P ck cn Y mm q ls ((0, v) :: st)) : ac_V G on cc nL ret d mc ms P ck cn Y mm pc ls ((1, b) :: (1, a) :: st) := by
  intro p e s m args below meth c H locs la X hz hH hS hL
  subst hq
  refine W.lcmp X.1 X.2.1 hdg ?_
  have e1 := ac_ltL ha hb
  have e2 := ac_ofIntL_inj ha hb
  have e3 := ac_ltL hb ha
  rcases Int.lt_trichotomy a b with h | h | h
  · rw [show lg_cmp (Int64.ofInt a) (Int64.ofInt b) = Int32.ofInt (-1) by unfold lg_cmp; rw [if_neg (fun q => absurd (e3.mp q) (by omega)), if_neg (fun q => absurd (e2.mp q) (by omega))]; rfl]
    exact kk (-1) (Or.inl ⟨rfl, h⟩) p e s m args below meth c H locs la X hz hH hS hL
  · rw [show lg_cmp (Int64.ofInt a) (Int64.ofInt b) = Int32.ofInt 0 by subst h; unfold lg_cmp; simp]
    exact kk 0 (Or.inr (Or.inl ⟨rfl, h⟩)) p e s m args below meth c H locs la X hz hH hS hL
  · rw [show lg_cmp (Int64.ofInt a) (Int64.ofInt b) = Int32.ofInt 1 by unfold lg_cmp; rw [if_pos (e3.mpr h)]; rfl]
    exact kk 1 (Or.inr (Or.inr ⟨rfl, h⟩)) p e s m args below meth c H locs la X hz hH hS hL
end AcLoc
end
section
theorem ac_W_size {p : Program} {l : Launch} {e : Env} {R : Room} {s : State} {m : MethodId} {args : Array Value} {below : List Frame} {meth : Method} {c : Code} {H : Heap} {locs : List Loc} {cells slots : Nat} {Q : State → Prop} {g : JFrame} (k : H.size ≤ s.heap.size + cells → W p l e R s m args below meth c H locs cells slots Q g) : W p l e R s m args below meth c H locs cells slots Q g :=
  fun T hT X => k (by rw [← hT]; exact X.heapSize) T hT X
theorem ac_size {G : ac_G} {Y : ac_Y} {mm : ac_M} {H H0 : Heap} {locs : List Loc} {ck : Nat} (hz : H0.size + ck = G.2.1 + Y.1) (hb : G.2.1 ≤ H0.size) (hH : ac_H G Y mm H) (hS : va_S (ac_A G) H0 H locs) (h : H.size ≤ H0.size + ck) : H.size = G.2.1 + Y.1 := by
  have h1 := hS.1
  by_cases hn : Y.1 = 0
  · omega
  · have hg : (ac_ws G Y mm)[Y.1 - 1]? = some (G.2.1 + (Y.1 - 1), ac_ent G Y mm (Y.1 - 1 + 1)) := ac_rm _ (by omega)
    have := (hH.2 _ _ hg).lt
    simp only at this
    omega
theorem ac_B.at {G : ac_G} {s U : State} {H : Heap} {locs : List Loc} (h : ac_B G s) (hS : va_S (ac_A G) s.heap H locs) (hU : U.heap = H) (hW : s.WarmedH U.vm) : ac_B G U := by
  obtain ⟨h1, h2, ⟨h3, h4, h5, h8, h9⟩, h6, h7⟩ := h
  have hA : ¬ ac_A G G.2.2.2.2.1 := Nat.not_le.mpr h5
  have hA2 : ¬ ac_A G G.2.2.2.2.2.1 := Nat.not_le.mpr h9
  have hk : ∀ a : Nat, a < s.heap.size → ¬ ac_A G a → U.heap[a]? = s.heap[a]? := fun a ha hn => by rw [hU]; exact hS.2.1 a ha hn
  refine ⟨va_K.moved hW.alike h1, fun w hw hn => ?_, ⟨(h3.moved hW.alike).kept hk, (h4.moved hW.alike).kept (hk _ (Nat.lt_of_lt_of_le h5 h6) hA), h5, (h8.moved hW.alike).kept (hk _ (Nat.lt_of_lt_of_le h9 h6) hA2), h9⟩, by rw [hU]; exact Nat.le_trans h6 hS.1, va_AO.moved hW.alike h7⟩
  have hz := h2 w hw hn
  unfold ac_isN at hn
  split at hn
  · exact va_Nw.warmF hW hz
  · exact va_Nw.warmM hW hz
  · cases hn
theorem ac_B.calling {G : ac_G} {U : State} {g : JFrame} {mk : MethodId} {a : Array Value} (h : ac_B G U) : ac_B G (U.calling g mk a) := by
  obtain ⟨h1, h2, ⟨h3, h4, h5, h8, h9⟩, h6, h7⟩ := h
  have hv : U.vm = (U.calling g mk a).vm := rfl
  refine ⟨va_K.moved (u := U) (U := U.calling g mk a) (Vm.Alike.refl U.vm) h1, fun w hw hn => ?_, ⟨va_Z.moved (u := U) (U := U.calling g mk a) (Vm.Alike.refl U.vm) h3, va_X.moved (u := U) (U := U.calling g mk a) (Vm.Alike.refl U.vm) h4, h5, va_X.moved (u := U) (U := U.calling g mk a) (Vm.Alike.refl U.vm) h8, h9⟩, h6, va_AO.moved (u := U) (U := U.calling g mk a) (Vm.Alike.refl U.vm) h7⟩
  refine va_Nw.same ?_ hv (h2 w hw hn)
  unfold ac_isN at hn
  split at hn
  · rfl
  · rfl
  · cases hn
theorem ac_T_mem {w : Cond} (h : w ∈ ac_T) : w ∈ lw_tbl := (List.mem_filter.mp h).1
theorem ac_T_of {w : Cond} (h : w ∈ lw_tbl) (hg : goodWord w = true) : w ∈ ac_T := List.mem_filter.mpr ⟨h, hg⟩
theorem ac_good {ws : List Cond} (h : ∀ w ∈ ws, w ∈ ac_T) : GoodIn ac_T (ws ++ ac_T) := fun w hw => by
  have hm : w ∈ ac_T := (List.mem_append.mp hw).elim (h w) id
  exact ⟨hm, good_of_word (List.mem_filter.mp hm).2⟩
def ac_sw (st : List (Nat × Int)) : Nat := (st.map fun w => if w.1 = 1 then 2 else 1).sum
theorem ac_sw_cat {base : Nat} {st : List (Nat × Int)} : ((st.map (ac_v base)).map fun v => v.category).sum = ac_sw st := by
  unfold ac_sw
  rw [List.map_map]
  congr 1
  refine List.map_congr_left fun w _ => ?_
  obtain ⟨a, x⟩ := w
  match a with
  | 0 => rfl
  | 1 => rfl
  | a + 2 => exact ac_cat1 (w := (a + 2, x)) (by show a + 2 ≠ 1; omega)
/-- the answer has as many words as the method's type says -/
def ac_ok (P : ac_P) (n : Nat) : Prop := ∀ r Y mm, P r Y mm → Y.1 = n
section AcRet
variable {G : ac_G} {on : String × String} {cc : ByteArray} {nL : Nat} {ret : Option FieldType} {d mc ms : Nat} {P : ac_P} {ck cn : Nat} {Y : ac_Y} {mm : ac_M} {pc q : Nat} {ls st : List (Nat × Int)}
theorem ac_fin {p : Program} {e : Env} {s : State} {m : MethodId} {args : Array Value} {below : List Frame} {meth : Method} {c : Code} {H : Heap} {locs : List Loc} {g : JFrame} {r : List (Nat × Int)} {o : Outcome} (X : ac_X G on cc nL ret p s m args meth c) (hz : s.heap.size + ck = G.2.1 + Y.1) (hH : ac_H G Y mm H) (hS : va_S (ac_A G) s.heap H locs) (hm : ck ≤ mc) (hs : cn ≤ ms) (ho : o = .returned (r.map (ac_v G.2.1)).head?) (hP : P r Y mm)
    (k : (∀ t : State, t.heap = H → s.WarmedH t.vm → ac_Qc G P args s o t) → (∀ q ∈ locs, ac_A G q.base) → W p G.1 e (ac_room d mc ms) s m args below meth c H locs mc ms (MQ below (ac_Qc G P) args s mc ms (ac_A G)) g) : W p G.1 e (ac_room d mc ms) s m args below meth c H locs ck cn (MQ below (ac_Qc G P) args s mc ms (ac_A G)) g := by
  refine ac_W_size fun hsz => W.widen hm hs (k (fun t ht hW => ?_) hS.2.2)
  exact ⟨⟨r, Y, mm, ho, hP, by rw [ht]; exact hH, by rw [ht]; exact ac_size hz X.2.2.2.2.2.2.2.1.2.2.2.1 hH hS hsz⟩, hS.F ht⟩
theorem ac_ireturn {x : Int} (hdg : decode cc pc = .ok (.ireturn, 1)) (hr : ret = some .int) (hm : ck ≤ mc) (hs : cn ≤ ms) (hP : P [(0, x)] Y mm) : ac_V G on cc nL ret d mc ms P ck cn Y mm pc ls [(0, x)] := by
  intro p e s m args below meth c H locs la X hz hH hS hL
  exact ac_fin (r := [(0, x)]) X hz hH hS hm hs rfl hP fun k1 k2 => W.iret (v := Int32.ofInt x) X.1 X.2.1 (by rw [X.2.2.2.1, hr]) k1 k2 hdg X.2.2.2.2.1
theorem ac_zreturn {x : Int} (hdg : decode cc pc = .ok (.ireturn, 1)) (hr : ret = some .boolean) (hx : x = 0 ∨ x = 1) (hm : ck ≤ mc) (hs : cn ≤ ms) (hP : P [(0, x)] Y mm) : ac_V G on cc nL ret d mc ms P ck cn Y mm pc ls [(0, x)] := by
  intro p e s m args below meth c H locs la X hz hH hS hL
  exact ac_fin (r := [(0, x)]) X hz hH hS hm hs rfl hP fun k1 k2 => W.zret (v := Int32.ofInt x) X.1 X.2.1 (by rw [X.2.2.2.1, hr]) (by rcases hx with rfl | rfl <;> rfl) k1 k2 hdg X.2.2.2.2.1
theorem ac_lreturn {x : Int} (hdg : decode cc pc = .ok (.lreturn, 1)) (hr : ret = some .long) (hm : ck ≤ mc) (hs : cn ≤ ms) (hP : P [(1, x)] Y mm) : ac_V G on cc nL ret d mc ms P ck cn Y mm pc ls [(1, x)] := by
  intro p e s m args below meth c H locs la X hz hH hS hL
  exact ac_fin (r := [(1, x)]) X hz hH hS hm hs rfl hP fun k1 k2 => W.lret (v := Int64.ofInt x) X.1 X.2.1 (by rw [X.2.2.2.1, hr]) k1 k2 hdg X.2.2.2.2.1
theorem ac_areturn {x : Int} {nm : String} (hdg : decode cc pc = .ok (.areturn, 1)) (hr : ret = some (.object nm)) (hm : ck ≤ mc) (hs : cn ≤ ms) (hP : P [(2, x)] Y mm) : ac_V G on cc nL ret d mc ms P ck cn Y mm pc ls [(2, x)] := by
  intro p e s m args below meth c H locs la X hz hH hS hL
  refine ac_fin (r := [(2, x)]) X hz hH hS hm hs rfl hP fun k1 k2 => W.aret (v := ac_v G.2.1 (2, x)) X.1 X.2.1 (by rw [X.2.2.2.1, hr]) (Or.inl ⟨_, rfl⟩) ?_ k1 k2 hdg X.2.2.2.2.1
  show (if x = 0 then Value.null else Value.ref (G.2.1 + (x.toNat - 1))) = .null ∨ ∃ a, (if x = 0 then Value.null else Value.ref (G.2.1 + (x.toNat - 1))) = .ref a
  by_cases h : x = 0
  · exact Or.inl (if_pos h)
  · exact Or.inr ⟨_, if_neg h⟩
theorem ac_return (hdg : decode cc pc = .ok (.return_, 1)) (hr : ret = none) (hm : ck ≤ mc) (hs : cn ≤ ms) (hP : P [] Y mm) : ac_V G on cc nL ret d mc ms P ck cn Y mm pc ls [] := by
  intro p e s m args below meth c H locs la X hz hH hS hL
  exact ac_fin (r := []) X hz hH hS hm hs rfl hP fun k1 k2 => W.vret X.1 X.2.1 (by rw [X.2.2.2.1, hr]) k1 k2 hdg X.2.2.2.2.1
/-- the words of the arguments, a long taking two places -/
def ac_exp : List (Nat × Int) → List (Nat × Int)
  | [] => []
  | w :: r => if w.1 = 1 then w :: (3, 0) :: ac_exp r else w :: ac_exp r
theorem ac_exp_mem {base : Nat} (as : List (Nat × Int)) : ∀ (k i : Nat) (w : Nat × Int), (ac_exp as)[i]? = some w → w.1 ≠ 3 → (k + i, ac_v base w) ∈ lv_args k (as.map (ac_v base)) := by
  induction as with
  | nil => intro k i w h; simp [ac_exp] at h
  | cons u r ih =>
    intro k i w h h3
    unfold ac_exp at h
    simp only [List.map_cons, lv_args]
    by_cases hu : u.1 = 1
    · rw [if_pos hu] at h
      have hc : (ac_v base u).category = 2 := by
        obtain ⟨a, x⟩ := u
        have hu : a = 1 := hu
        subst hu; rfl
      rw [if_pos hc]
      match i, h with
      | 0, h => cases h; exact List.mem_cons_self
      | 1, h => cases h; exact absurd rfl h3
      | i + 2, h =>
        have := ih (k + 2) i w h h3
        rw [show k + 2 + i = k + (i + 2) by omega] at this
        exact List.mem_cons_of_mem _ this
    · rw [if_neg hu] at h
      have hc : ¬ (ac_v base u).category = 2 := by rw [ac_cat1 hu]; decide
      rw [if_neg hc]
      match i, h with
      | 0, h => cases h; exact List.mem_cons_self
      | i + 1, h =>
        have := ih (k + 1) i w h h3
        rw [show k + 1 + i = k + (i + 1) by omega] at this
        exact List.mem_cons_of_mem _ this
theorem ac_lg_len {base : Nat} (as : List (Nat × Int)) : (lg_sl (as.map (ac_v base))).length = ac_sw as := by
  unfold lg_sl ac_sw
  induction as with
  | nil => rfl
  | cons u r ih =>
    simp only [List.map_cons, List.flatMap_cons, List.length_append, List.sum_cons, ih]
    congr 1
    by_cases hu : u.1 = 1
    · have hc : (ac_v base u).category = 2 := by
        obtain ⟨a, x⟩ := u
        have hu : a = 1 := hu
        subst hu; rfl
      rw [if_pos hc, if_pos hu]; rfl
    · have hc : ¬ (ac_v base u).category = 2 := by rw [ac_cat1 hu]; decide
      rw [if_neg hc, if_neg hu]; rfl
theorem ac_met {y : MethodName} {as : List (Nat × Int)} (hy : plainName y.cls = true) (hon : (y.cls, y.name) = on) (hlen : ac_sw as ≤ nL) (hls : ac_exp as ++ List.replicate (nL - (ac_exp as).length) (3, 0) = ls) (h : ac_V G on cc nL ret d mc ms P 0 0 Y mm 0 ls []) : ac_C G y cc nL ret d mc ms Y mm as P := by
  subst hon
  refine Met.ofW (cc := cc) (maxL := nL) (ret := ret) hy rfl ?_
  intro p e s m args below meth c s₁ B hml hv
  obtain ⟨rfl, hH, hB, hsz⟩ := hv
  have hts := atoms_spec B.pre
  rw [lg_entry_eq]
  have hl := lv_entry (as.map (ac_v G.2.1)) (n := nL) (by rw [ac_lg_len]; exact hlen)
  refine h p e s m _ below meth c s.heap [] _ ⟨B.exec, B.bytes, hml, B.returns, B.notSynchronized, findClass_of_methodNamed B.named, fun w hw => hts w (List.mem_cons_of_mem _ hw), hB, (name_of_methodNamed B.named B.method).1⟩ (by omega) hH va_S.rf (ac_lweak hl fun q hq => ?_)
  obtain ⟨w, h1, h2, h3⟩ := ac_enc_mem.mp hq
  obtain ⟨k, v⟩ := q
  simp only at h1 h3
  subst h3
  rw [← hls] at h1
  by_cases hk : k < (ac_exp as).length
  · rw [List.getElem?_append_left hk] at h1
    have := ac_exp_mem (base := G.2.1) as 0 k w h1 h2
    rwa [Nat.zero_add] at this
  · rw [List.getElem?_append_right (by omega)] at h1
    obtain ⟨-, h4⟩ := List.mem_replicate.mp (List.mem_of_getElem? h1)
    rw [h4] at h2
    exact absurd rfl h2
end AcRet
end
section
/-- entry idx of a class's constant pool is the method y: k = 0 static, 1 called on an object of class ci, 2 a constructor -/
def ac_ML (k : Nat) (own : String) (idx ci : Nat) (y : MethodName) (cc : ByteArray) (nL : Nat) (ret : Option FieldType) (n : Nat) : Prop :=
  (y.cls ≠ "java/lang/invoke/MethodHandle" ∧ y.cls ≠ "java/lang/invoke/VarHandle" ∧ (parseMethodDescriptor y.desc).map (fun d => d.parameters.length) = some n) ∧ nL ≤ 80 ∧ Cond.code y cc nL ret ∈ ac_T ∧ Cond.initialized y.cls ∈ ac_T ∧
  (Cond.methodLink own idx y ∈ ac_T ∨ ∃ host, Cond.methodLinkNest own idx y host ∈ lw_tbl) ∧
  (match k with
    | 0 => Cond.static y ∈ ac_T
    | 1 => Cond.instanceMethod y ∈ ac_T ∧ Cond.selects y.cls y y ∈ ac_T ∧ ∃ r : vw_C, vwCl[ci]? = some r ∧ r.1 = y.cls
    | _ => Cond.instanceMethod y ∈ ac_T ∧ y.name = "<init>" ∧ ret = none)
section AcCall
variable {G : ac_G} {on : String × String} {cc : ByteArray} {nL : Nat} {ret : Option FieldType} {d mc ms : Nat} {P : ac_P} {ck cn : Nat} {Y : ac_Y} {mm : ac_M} {pc q : Nat} {ls st : List (Nat × Int)}
variable {y : MethodName} {cc' : ByteArray} {nL' d' mc' ms' idx ci n : Nat} {ret' : Option FieldType} {P' : ac_P} {as rest : List (Nat × Int)}
def ac_Pc (G : ac_G) (Y : ac_Y) (mm : ac_M) (as : List (Nat × Int)) : Array Value → State → Prop := fun a U => a = (as.map (ac_v G.2.1)).toArray ∧ ac_H G Y mm U.heap ∧ ac_B G U ∧ U.heap.size = G.2.1 + Y.1
theorem ac_preS {s : State} {H : Heap} {locs : List Loc} (hB : ac_B G s) (hH : ac_H G Y mm H) (hS : va_S (ac_A G) s.heap H locs) (hsz : H.size = G.2.1 + Y.1) : PreS s H (ac_Pc G Y mm as) (as.map (ac_v G.2.1)) :=
  ⟨fun _ _ _ _ h => ⟨h.1, h.2.1, h.2.2.1.calling, h.2.2.2⟩, fun U hU hW => ⟨rfl, by rw [hU]; exact hH, hB.at hS hU hW, by rw [hU]; exact hsz⟩⟩
theorem ac_after {p : Program} {e : Env} {s : State} {m : MethodId} {args : Array Value} {below : List Frame} {meth : Method} {c : Code} {H : Heap} {locs : List Loc} {la : Array Slot} {stv : List Value} {a : Array Value}
    (hr : va_Run p G.1 e (ac_room d mc ms) s m args below meth c H locs ck cn mc' ms' (F0 m pc la stv) (rest.map (ac_v G.2.1)) (ac_Qc G P' a) (ac_A G)) (X : ac_X G on cc nL ret p s m args meth c) (hz : s.heap.size + ck = G.2.1 + Y.1) (hS : va_S (ac_A G) s.heap H locs) (hL : lv_has la nL (ac_enc G.2.1 ls))
    (hok : ∀ r Y' mm', P' r Y' mm' → Y'.1 = Y.1 + mc') (kk : ∀ r Y' mm', P' r Y' mm' → ac_V G on cc nL ret d mc ms P (ck + mc') (cn + ms') Y' mm' (pc + 3) ls (r.take 1 ++ rest)) : W p G.1 e (ac_room d mc ms) s m args below meth c H locs ck cn (MQ below (ac_Qc G P) args s mc ms (ac_A G)) (F0 m pc la stv) := by
  intro T hT XX
  obtain ⟨v, st₀, t, T', L, h0, X', hLL, e1, e2, ⟨⟨r, Y', mm', ho, hP', hH', hsz'⟩, hF⟩, st⟩ := hr T hT XX
  have hv : v = (r.map (ac_v G.2.1)).head? := by injection ho
  obtain ⟨hF1, hF2⟩ := hF
  rw [h0] at hF1 hF2
  have hS' : va_S (ac_A G) s.heap T'.heap (locs ++ L) := by
    refine ⟨by rw [e1]; exact Nat.le_trans hS.1 hF1, fun q h1 h2 => ?_, fun q hq => ?_⟩
    · rw [e1, hF2 q (Nat.lt_of_lt_of_le h1 hS.1) h2]
      exact hS.2.1 q h1 h2
    · rcases List.mem_append.mp hq with h | h
      · exact hS.2.2 q h
      · exact hLL q h
  obtain ⟨t2, a1, b1⟩ := kk r Y' mm' hP' p e s m args below meth c T'.heap (locs ++ L) la X (by rw [hok r Y' mm' hP']; omega) (by rw [e1]; exact hH') hS' hL T' rfl X'
  refine ⟨t2, st t2 ?_, b1⟩
  have hst : ((r.take 1 ++ rest).map (ac_v G.2.1)) = v.toList ++ rest.map (ac_v G.2.1) := by
    rw [hv]
    cases r with
    | nil => rfl
    | cons w r => rfl
  rw [hst] at a1
  exact a1
theorem ac_roomle (hd : d' + 1 ≤ d) (hn : nL' ≤ 80) : (ac_room d' mc' ms').frames + 1 ≤ (ac_room d mc ms).frames ∧ 8 + (nL' + 11) + (ac_room d' mc' ms').locals ≤ (ac_room d mc ms).locals := by
  refine ⟨by show 1208 + d' + 1 ≤ 1208 + d; omega, ?_⟩
  show 8 + (nL' + 11) + 100 * d' ≤ 100 * d
  omega
theorem ac_invokestatic (hC : ac_C G y cc' nL' ret' d' mc' ms' Y mm as P') (hM : ac_ML 0 on.1 idx ci y cc' nL' ret' n) (hdg : decode cc pc = .ok (.invokestatic idx, 3)) (hq : pc + 3 = q) (hst : st = as.reverse ++ rest) (hn : as.length = n) (hd : d' + 1 ≤ d) (hsw : ac_sw rest ≤ 8) (hmc : ck + mc' ≤ mc) (hms : cn + ms' ≤ ms)
    (hok : ∀ r Y' mm', P' r Y' mm' → Y'.1 = Y.1 + mc') (kk : ∀ r Y' mm', P' r Y' mm' → ac_V G on cc nL ret d mc ms P (ck + mc') (cn + ms') Y' mm' q ls (r.take 1 ++ rest)) : ac_V G on cc nL ret d mc ms P ck cn Y mm pc ls st := by
  intro p e s m args below meth c H locs la X hz hH hS hL
  subst hq; subst hst
  refine ac_W_size fun hsz => ?_
  have hsz := ac_size hz X.2.2.2.2.2.2.2.1.2.2.2.1 hH hS hsz
  obtain ⟨hm1, hm2, hm3, hm4, hm5, hm6⟩ := hM
  have hts := X.2.2.2.2.2.2.1
  have hstv : (as.reverse ++ rest).map (ac_v G.2.1) = (as.map (ac_v G.2.1)).reverse ++ rest.map (ac_v G.2.1) := by rw [List.map_append, List.map_reverse]
  rw [hstv]
  have hW : 2 * (F0 m pc la ((as.map (ac_v G.2.1)).reverse ++ rest.map (ac_v G.2.1))).monitorRoom + ((rest.map (ac_v G.2.1)).map fun v => v.category).sum ≤ 8 := lv_room (by rw [ac_sw_cat]; exact hsw)
  have hlen : (as.map (ac_v G.2.1)).length = n := by rw [List.length_map]; exact hn
  rcases hm5 with hm5 | ⟨host, hm5⟩
  · exact ac_after (va_runS (rm := ac_room d' mc' ms') (Pc := ac_Pc G Y mm as) ⟨X.1, X.2.1, X.2.2.1, X.2.2.2.2.2.1, hts⟩ hC (va_cwS n hts (ac_good (ws := [.methodLink on.1 idx y, .static y, .initialized y.cls, .code y cc' nL' ret']) (by intro w hw; simp only [List.mem_cons, List.not_mem_nil, or_false] at hw; rcases hw with rfl | rfl | rfl | rfl <;> assumption)) rfl rfl rfl hm1 (ac_roomle hd hm2)) (ac_preS X.2.2.2.2.2.2.2.1 hH hS hsz) rfl hlen hL.1 rfl hW hdg ⟨hmc, hms⟩) X hz hS hL hok kk
  · exact ac_after (va_runSN (rm := ac_room d' mc' ms') (Pc := ac_Pc G Y mm as) ⟨X.1, X.2.1, X.2.2.1, X.2.2.2.2.2.1, hts⟩ hC ⟨va_cnB n hts (ac_good (ws := [.code y cc' nL' ret']) (by intro w hw; simp only [List.mem_cons, List.not_mem_nil, or_false] at hw; subst hw; exact hm3)) rfl rfl rfl (X.2.2.2.2.2.2.2.1.2.1 _ hm5 rfl) (hts _ hm4) hm1 (ac_roomle hd hm2), hts _ hm6, trivial⟩ (ac_preS X.2.2.2.2.2.2.2.1 hH hS hsz) rfl hlen hL.1 rfl hW hdg ⟨hmc, hms⟩) X hz hS hL hok kk
theorem ac_invokevirtual {k : Nat} (hC : ac_C G y cc' nL' ret' d' mc' ms' Y mm ((2, (k : Int)) :: as) P') (hM : ac_ML 1 on.1 idx ci y cc' nL' ret' n) (hk : Y.2.1 k = (0, ci)) (hdg : decode cc pc = .ok (.invokevirtual idx, 3)) (hq : pc + 3 = q) (hst : st = as.reverse ++ (2, (k : Int)) :: rest) (hn : as.length = n) (hd : d' + 1 ≤ d) (hsw : ac_sw rest ≤ 8) (hmc : ck + mc' ≤ mc) (hms : cn + ms' ≤ ms)
    (hok : ∀ r Y' mm', P' r Y' mm' → Y'.1 = Y.1 + mc') (kk : ∀ r Y' mm', P' r Y' mm' → ac_V G on cc nL ret d mc ms P (ck + mc') (cn + ms') Y' mm' q ls (r.take 1 ++ rest)) : ac_V G on cc nL ret d mc ms P ck cn Y mm pc ls st := by
  intro p e s m args below meth c H locs la X hz hH hS hL
  subst hq; subst hst
  refine ac_W_size fun hsz => ?_
  have hsz := ac_size hz X.2.2.2.2.2.2.2.1.2.2.2.1 hH hS hsz
  obtain ⟨hm1, hm2, hm3, hm4, hm5, hm6, hm7, r, hr1, hr2⟩ := hM
  have hts := X.2.2.2.2.2.2.1
  have h9 : (Y.2.1 k).1 ≠ 9 := by rw [hk]; exact (show (0 : Nat) ≠ 9 by decide)
  have h1 := (ac_live hH.1 h9).1
  have he := ac_ws_at (G := G) (mm := mm) hH.1 h9
  rw [ac_ent_o hk] at he
  have hrecv := va_recv X.2.2.2.2.2.2.2.1.1 hH.2 hr1 he
  rw [hr2] at hrecv
  have hstv : (as.reverse ++ (2, (k : Int)) :: rest).map (ac_v G.2.1) = (as.map (ac_v G.2.1)).reverse ++ Value.ref (G.2.1 + (k - 1)) :: rest.map (ac_v G.2.1) := by rw [List.map_append, List.map_reverse, List.map_cons, ac_refv h1]
  rw [hstv]
  have hW : 2 * (F0 m pc la ((as.map (ac_v G.2.1)).reverse ++ Value.ref (G.2.1 + (k - 1)) :: rest.map (ac_v G.2.1))).monitorRoom + ((rest.map (ac_v G.2.1)).map fun v => v.category).sum ≤ 8 := lv_room (by rw [ac_sw_cat]; exact hsw)
  have hlen : (as.map (ac_v G.2.1)).length = n := by rw [List.length_map]; exact hn
  have hpre := ac_preS (as := (2, (k : Int)) :: as) X.2.2.2.2.2.2.2.1 hH hS hsz
  rw [List.map_cons, ac_refv h1] at hpre
  rcases hm5 with hm5 | ⟨host, hm5⟩
  · exact ac_after (va_runV (C := y.cls) (rm := ac_room d' mc' ms') (Pc := ac_Pc G Y mm ((2, (k : Int)) :: as)) ⟨X.1, X.2.1, X.2.2.1, X.2.2.2.2.2.1, hts⟩ hC (cwV n hts (ac_good (ws := [.methodLink on.1 idx y, .instanceMethod y, .selects y.cls y y, .initialized y.cls, .code y cc' nL' ret']) (by intro w hw; simp only [List.mem_cons, List.not_mem_nil, or_false] at hw; rcases hw with rfl | rfl | rfl | rfl | rfl <;> assumption)) rfl rfl rfl ⟨rfl, hm1⟩ (ac_roomle hd hm2)) ⟨hpre.1, hrecv, hpre.2⟩ rfl hlen hL.1 rfl hW hdg ⟨hmc, hms⟩) X hz hS hL hok kk
  · exact ac_after (va_runVN (C := y.cls) (rm := ac_room d' mc' ms') (Pc := ac_Pc G Y mm ((2, (k : Int)) :: as)) ⟨X.1, X.2.1, X.2.2.1, X.2.2.2.2.2.1, hts⟩ hC ⟨va_cnB n hts (ac_good (ws := [.code y cc' nL' ret']) (by intro w hw; simp only [List.mem_cons, List.not_mem_nil, or_false] at hw; subst hw; exact hm3)) rfl rfl rfl (X.2.2.2.2.2.2.2.1.2.1 _ hm5 rfl) (hts _ hm4) hm1 (ac_roomle hd hm2), hts _ hm6, hts _ hm7⟩ ⟨hpre.1, hrecv, hpre.2⟩ rfl hlen hL.1 rfl hW hdg ⟨hmc, hms⟩) X hz hS hL hok kk
theorem ac_invokespecial {k : Nat} (hC : ac_C G y cc' nL' none d' mc' ms' Y mm ((2, (k : Int)) :: as) P') (hM : ac_ML 2 on.1 idx ci y cc' nL' none n) (h1 : 1 ≤ k) (hdg : decode cc pc = .ok (.invokespecial idx, 3)) (hq : pc + 3 = q) (hst : st = as.reverse ++ (2, (k : Int)) :: rest) (hn : as.length = n) (hd : d' + 1 ≤ d) (hsw : ac_sw rest ≤ 8) (hmc : ck + mc' ≤ mc) (hms : cn + ms' ≤ ms)
    (hok : ∀ r Y' mm', P' r Y' mm' → Y'.1 = Y.1 + mc') (kk : ∀ r Y' mm', P' r Y' mm' → ac_V G on cc nL ret d mc ms P (ck + mc') (cn + ms') Y' mm' q ls (r.take 1 ++ rest)) : ac_V G on cc nL ret d mc ms P ck cn Y mm pc ls st := by
  intro p e s m args below meth c H locs la X hz hH hS hL
  subst hq; subst hst
  refine ac_W_size fun hsz => ?_
  have hsz := ac_size hz X.2.2.2.2.2.2.2.1.2.2.2.1 hH hS hsz
  obtain ⟨hm1, hm2, hm3, hm4, hm5, hm6, hm7, -⟩ := hM
  have hts := X.2.2.2.2.2.2.1
  have hstv : (as.reverse ++ (2, (k : Int)) :: rest).map (ac_v G.2.1) = (as.map (ac_v G.2.1)).reverse ++ Value.ref (G.2.1 + (k - 1)) :: rest.map (ac_v G.2.1) := by rw [List.map_append, List.map_reverse, List.map_cons, ac_refv h1]
  rw [hstv]
  have hW : 2 * (F0 m pc la ((as.map (ac_v G.2.1)).reverse ++ Value.ref (G.2.1 + (k - 1)) :: rest.map (ac_v G.2.1))).monitorRoom + ((rest.map (ac_v G.2.1)).map fun v => v.category).sum ≤ 8 := lv_room (by rw [ac_sw_cat]; exact hsw)
  have hlen : (as.map (ac_v G.2.1)).length = n := by rw [List.length_map]; exact hn
  have hpre := ac_preS (as := (2, (k : Int)) :: as) X.2.2.2.2.2.2.2.1 hH hS hsz
  rw [List.map_cons, ac_refv h1] at hpre
  rcases hm5 with hm5 | ⟨host, hm5⟩
  · exact ac_after (va_runI (rm := ac_room d' mc' ms') (Pc := ac_Pc G Y mm ((2, (k : Int)) :: as)) ⟨X.1, X.2.1, X.2.2.1, X.2.2.2.2.2.1, hts⟩ hC (cwI n hts (ac_good (ws := [.code y cc' nL' none]) (by intro w hw; simp only [List.mem_cons, List.not_mem_nil, or_false] at hw; subst hw; exact hm3)) rfl rfl rfl (hts _ hm4) (hts _ hm5) (hts _ hm6) hm7 hm1 (ac_roomle hd hm2)) hpre rfl hlen hL.1 rfl hW hdg ⟨hmc, hms⟩) X hz hS hL hok kk
  · exact ac_after (va_runIN (rm := ac_room d' mc' ms') (Pc := ac_Pc G Y mm ((2, (k : Int)) :: as)) ⟨X.1, X.2.1, X.2.2.1, X.2.2.2.2.2.1, hts⟩ hC ⟨va_cnB n hts (ac_good (ws := [.code y cc' nL' none]) (by intro w hw; simp only [List.mem_cons, List.not_mem_nil, or_false] at hw; subst hw; exact hm3)) rfl rfl rfl (X.2.2.2.2.2.2.2.1.2.1 _ hm5 rfl) (hts _ hm4) hm1 (ac_roomle hd hm2), hm7, hts _ hm6⟩ hpre rfl hlen hL.1 rfl hW hdg ⟨hmc, hms⟩) X hz hS hL hok kk
end AcCall
end
section
def ac_nY (Y : ac_Y) (w : Nat × Nat) : ac_Y := (Y.1 + 1, fun k => if k = Y.1 + 1 then w else Y.2.1 k, fun k j => if k = Y.1 + 1 then 0 else Y.2.2 k j)
def ac_nM (Y : ac_Y) (mm : ac_M) : ac_M := fun k j => if k = Y.1 + 1 then 0 else mm k j
theorem ac_nws {G : ac_G} {Y : ac_Y} {mm : ac_M} {w : Nat × Nat} : ac_ws G (ac_nY Y w) (ac_nM Y mm) = ac_ws G Y mm ++ [(G.2.1 + Y.1, ac_ent G (ac_nY Y w) (ac_nM Y mm) (Y.1 + 1))] := by
  unfold ac_ws
  rw [show (ac_nY Y w).1 = Y.1 + 1 from rfl, List.range_succ, List.map_append]
  congr 1
  refine List.map_congr_left fun i hi => ?_
  have hne : ¬ (i + 1 = Y.1 + 1) := by have := List.mem_range.mp hi; omega
  have e1 : (ac_nY Y w).2.1 (i + 1) = Y.2.1 (i + 1) := if_neg hne
  have e2 : ∀ j, (ac_nY Y w).2.2 (i + 1) j = Y.2.2 (i + 1) j := fun j => if_neg hne
  have e3 : ∀ j, ac_nM Y mm (i + 1) j = mm (i + 1) j := fun j => if_neg hne
  simp only [ac_ent, ac_w, e1, e2, e3]
theorem ac_nwf {Y : ac_Y} {w : Nat × Nat} (h : ac_wf Y) : ac_wf (ac_nY Y w) := by
  intro k hk
  have hk : k = 0 ∨ Y.1 + 1 < k := hk
  show (if k = Y.1 + 1 then w else Y.2.1 k).1 = 9
  rw [if_neg (by omega)]
  exact h k (by omega)
/-- the address of a new cell -/
theorem ac_naddr {G : ac_G} {Y : ac_Y} {mm : ac_M} {H1 : Heap} {q : Nat} {e : va_E} (hP : va_P G.2.2.1 vwCl (ac_ws G Y mm ++ [(q, e)]) H1) (hD : va_D (ac_A G) (ac_ws G Y mm ++ [(q, e)])) (h : H1.size ≤ G.2.1 + Y.1 + 1) : q = G.2.1 + Y.1 := by
  have hl : (ac_ws G Y mm).length = Y.1 := by unfold ac_ws; rw [List.length_map, List.length_range]
  have hlast : (ac_ws G Y mm ++ [(q, e)])[Y.1]? = some (q, e) := by
    rw [List.getElem?_append_right (by omega), hl, Nat.sub_self]; rfl
  have h1 := (hP _ _ hlast).lt
  have h2 := hD.2 _ _ hlast
  simp only [ac_A] at h1 h2
  by_cases hq : q = G.2.1 + Y.1
  · exact hq
  · have hi : q - G.2.1 < Y.1 := by omega
    have h3 : (ac_ws G Y mm ++ [(q, e)])[q - G.2.1]? = some (G.2.1 + (q - G.2.1), ac_ent G Y mm (q - G.2.1 + 1)) := by
      rw [List.getElem?_append_left (by omega)]
      exact ac_rm _ hi
    have := hD.1 _ _ _ _ h3 hlast (by show G.2.1 + (q - G.2.1) = q; omega)
    omega
def ac_NL (own : String) (idx ci : Nat) : Prop := ∃ (r : vw_C) (ty : Nat → FieldType), ac_CL ci r ty ∧ (∀ j, j < r.2.2 → ac_tyok (ac_ty ci j) (ty j) = true) ∧ Cond.classLink own idx r.1 ∈ ac_T ∧ Cond.instantiable r.1 r.2.2 ∈ ac_T ∧ Cond.initialized r.1 ∈ ac_T
section AcNew
variable {G : ac_G} {on : String × String} {cc : ByteArray} {nL : Nat} {ret : Option FieldType} {d mc ms : Nat} {P : ac_P} {ck cn : Nat} {Y : ac_Y} {mm : ac_M} {pc q : Nat} {ls st : List (Nat × Int)}
theorem ac_new {idx ci : Nat} (hdg : decode cc pc = .ok (.new idx, 3)) (hN : ac_NL on.1 idx ci) (hq : pc + 3 = q) (hmc : ck + 1 ≤ mc) (hms : cn + ac_N ci ≤ ms) (kk : ac_V G on cc nL ret d mc ms P (ck + 1) (cn + ac_N ci) (ac_nY Y (0, ci)) (ac_nM Y mm) q ls ((2, ((Y.1 + 1 : Nat) : Int)) :: st)) : ac_V G on cc nL ret d mc ms P ck cn Y mm pc ls st := by
  intro p e s m args below meth c H locs la X hz hH hS hL
  subst hq
  obtain ⟨r, ty, ⟨c1, c2, c3, c4, c5⟩, n1, n2, n3, n4⟩ := hN
  have hts := X.2.2.2.2.2.2.1
  have hB := X.2.2.2.2.2.2.2.1
  have e0 : ac_ent G (ac_nY Y (0, ci)) (ac_nM Y mm) (Y.1 + 1) = .inr (ci, (List.range (ac_N ci)).map (fun j => ac_v G.2.1 (ac_w (ac_nY Y (0, ci)).2.2 (ac_nM Y mm) ci (Y.1 + 1) j))) := ac_ent_o (if_pos rfl)
  refine va_new X.1 X.2.1 (C := r.1) (T := r.2.1) (N := r.2.2) hts c3 ty c4 X.2.2.2.2.2.1 (hts _ n2) (hts _ n3) (hts _ n4) hB.1 hH.2 ac_ws_D hS (fun q h => Nat.le_trans hB.2.2.2.1 h) c1 (fs := (List.range (ac_N ci)).map (fun j => ac_v G.2.1 (ac_w (ac_nY Y (0, ci)).2.2 (ac_nM Y mm) ci (Y.1 + 1) j))) (fun j hj => ?_) hmc (by rw [c2]; exact hms) hdg (fun q H1 hP1 hD1 hS1 => ?_)
  · have hv : vp_V ((List.range (ac_N ci)).map (fun j => ac_v G.2.1 (ac_w (ac_nY Y (0, ci)).2.2 (ac_nM Y mm) ci (Y.1 + 1) j))) j = ac_v G.2.1 (ac_w (ac_nY Y (0, ci)).2.2 (ac_nM Y mm) ci (Y.1 + 1) j) := by
      unfold vp_V
      rw [List.getD_eq_getElem?_getD, ac_rm _ (by omega)]; rfl
    rw [hv]
    have z1 : (ac_nY Y (0, ci)).2.2 (Y.1 + 1) j = 0 := if_pos rfl
    have z2 : ac_nM Y mm (Y.1 + 1) j = 0 := if_pos rfl
    have ht := n1 j hj
    unfold ac_w
    rw [z1, z2]
    revert ht
    generalize ac_ty ci j = t
    intro ht
    cases hty : ty j <;> rw [hty] at ht <;> (unfold ac_tyok at ht; split at ht) <;> first | cases ht; done | simp_all [defaultValue, ac_v]
  · refine ac_W_size fun hsz => ?_
    have hqa : q = G.2.1 + Y.1 := ac_naddr hP1 hD1 (by omega)
    subst hqa
    rw [c2]
    have h := kk p e s m args below meth c H1 locs la X (by show s.heap.size + (ck + 1) = G.2.1 + (Y.1 + 1); omega) ⟨ac_nwf hH.1, by rw [ac_nws, e0]; exact hP1⟩ hS1 hL
    have ev : ac_v G.2.1 (2, ((Y.1 + 1 : Nat) : Int)) = .ref (G.2.1 + Y.1) := ac_refv (by omega)
    rw [List.map_cons, ev] at h
    exact h
end AcNew
end
section
section AcArr
variable {G : ac_G} {on : String × String} {cc : ByteArray} {nL : Nat} {ret : Option FieldType} {d mc ms : Nat} {P : ac_P} {ck cn : Nat} {Y : ac_Y} {mm : ac_M} {pc q : Nat} {ls st : List (Nat × Int)}
theorem ac_nfn {Y : ac_Y} {mm : ac_M} : (fun j => Int32.ofInt (ac_nM Y mm (Y.1 + 1) j)) = (fun _ => 0) := by
  funext j
  rw [show ac_nM Y mm (Y.1 + 1) j = 0 from if_pos rfl]; rfl
theorem ac_newI {n : Nat} (hdg : decode cc pc = .ok (.newarray .int, 2)) (hA : Cond.arrayClass .int ∈ ac_T) (hn : n < 100000000) (hq : pc + 2 = q) (hmc : ck + 1 ≤ mc) (hms : cn + n ≤ ms) (kk : ac_V G on cc nL ret d mc ms P (ck + 1) (cn + n) (ac_nY Y (1, n)) (ac_nM Y mm) q ls ((2, ((Y.1 + 1 : Nat) : Int)) :: st)) : ac_V G on cc nL ret d mc ms P ck cn Y mm pc ls ((0, (n : Int)) :: st) := by
  intro p e s m args below meth c H locs la X hz hH hS hL
  subst hq
  have hts := X.2.2.2.2.2.2.1
  have hB := X.2.2.2.2.2.2.2.1
  have hi : ac_in (n : Int) := ⟨by omega, by omega⟩
  have e1 := ac_toInt hi
  refine va_newa (atype := .int) (ty := .int) X.1 X.2.1 (hts _ hA) rfl hB.1 hH.2 ac_ws_D hS (fun q h => Nat.le_trans hB.2.2.2.1 h) (N' := n) (a0 := (n, .inl (fun _ => 0))) (fun _ => rfl) (by rw [Int32.lt_iff_toInt_lt, e1]; show ¬ (n : Int) < 0; omega) (by show (Int32.ofInt (n : Int)).toInt.toNat = n; rw [e1]; omega) (by show n * 4 ≤ 536870912; omega) hmc hms hdg (fun q cA H1 hK1 hP1 hD1 hS1 => ?_)
  refine ac_W_size fun hsz => ?_
  have hqa : q = G.2.1 + Y.1 := ac_naddr hP1 hD1 (by omega)
  subst hqa
  have hcA : cA = G.2.2.2.1.1 := Option.some.inj ((show s.vm.findClass ("[" ++ (FieldType.int).toString) = some cA from (hK1.2 3 (cA, .int) rfl).2).symm.trans (show s.vm.findClass ("[" ++ (FieldType.int).toString) = some G.2.2.2.1.1 from (hB.1.2 0 (G.2.2.2.1.1, .int) rfl).2))
  subst hcA
  have e0 : ac_ent G (ac_nY Y (1, n)) (ac_nM Y mm) (Y.1 + 1) = .inl (G.2.2.2.1.1, n, .inl (fun j => Int32.ofInt (ac_nM Y mm (Y.1 + 1) j))) := ac_ent_i (if_pos rfl)
  have h := kk p e s m args below meth c H1 locs la X (by show s.heap.size + (ck + 1) = G.2.1 + (Y.1 + 1); omega) ⟨ac_nwf hH.1, by rw [ac_nws, e0, ac_nfn]; exact hP1⟩ hS1 hL
  have ev : ac_v G.2.1 (2, ((Y.1 + 1 : Nat) : Int)) = .ref (G.2.1 + Y.1) := ac_refv (by omega)
  rw [List.map_cons, ev] at h
  exact h
theorem ac_newZ {n : Nat} (hdg : decode cc pc = .ok (.newarray .boolean, 2)) (hA : Cond.arrayClass .boolean ∈ ac_T) (hn : n < 100000000) (hq : pc + 2 = q) (hmc : ck + 1 ≤ mc) (hms : cn + n ≤ ms) (kk : ac_V G on cc nL ret d mc ms P (ck + 1) (cn + n) (ac_nY Y (2, n)) (ac_nM Y mm) q ls ((2, ((Y.1 + 1 : Nat) : Int)) :: st)) : ac_V G on cc nL ret d mc ms P ck cn Y mm pc ls ((0, (n : Int)) :: st) := by
  intro p e s m args below meth c H locs la X hz hH hS hL
  subst hq
  have hts := X.2.2.2.2.2.2.1
  have hB := X.2.2.2.2.2.2.2.1
  have hi : ac_in (n : Int) := ⟨by omega, by omega⟩
  have e1 := ac_toInt hi
  refine va_newa (atype := .boolean) (ty := .boolean) X.1 X.2.1 (hts _ hA) rfl hB.1 hH.2 ac_ws_D hS (fun q h => Nat.le_trans hB.2.2.2.1 h) (N' := n) (a0 := (n, .inl (fun _ => 0))) (fun _ => rfl) (by rw [Int32.lt_iff_toInt_lt, e1]; show ¬ (n : Int) < 0; omega) (by show (Int32.ofInt (n : Int)).toInt.toNat = n; rw [e1]; omega) (by show n * 1 ≤ 536870912; omega) hmc hms hdg (fun q cA H1 hK1 hP1 hD1 hS1 => ?_)
  refine ac_W_size fun hsz => ?_
  have hqa : q = G.2.1 + Y.1 := ac_naddr hP1 hD1 (by omega)
  subst hqa
  have hcA : cA = G.2.2.2.1.2.1 := Option.some.inj ((show s.vm.findClass ("[" ++ (FieldType.boolean).toString) = some cA from (hK1.2 3 (cA, .boolean) rfl).2).symm.trans (show s.vm.findClass ("[" ++ (FieldType.boolean).toString) = some G.2.2.2.1.2.1 from (hB.1.2 1 (G.2.2.2.1.2.1, .boolean) rfl).2))
  subst hcA
  have e0 : ac_ent G (ac_nY Y (2, n)) (ac_nM Y mm) (Y.1 + 1) = .inl (G.2.2.2.1.2.1, n, .inl (fun j => Int32.ofInt (ac_nM Y mm (Y.1 + 1) j))) := ac_ent_z (if_pos rfl)
  have h := kk p e s m args below meth c H1 locs la X (by show s.heap.size + (ck + 1) = G.2.1 + (Y.1 + 1); omega) ⟨ac_nwf hH.1, by rw [ac_nws, e0, ac_nfn]; exact hP1⟩ hS1 hL
  have ev : ac_v G.2.1 (2, ((Y.1 + 1 : Nat) : Int)) = .ref (G.2.1 + Y.1) := ac_refv (by omega)
  rw [List.map_cons, ev] at h
  exact h
theorem ac_newT {n idx : Nat} (hdg : decode cc pc = .ok (.anewarray idx, 3)) (hA : Cond.classLink on.1 idx RX3 ∈ ac_T) (hn : n < 100000000) (hq : pc + 3 = q) (hmc : ck + 1 ≤ mc) (hms : cn + n ≤ ms) (kk : ac_V G on cc nL ret d mc ms P (ck + 1) (cn + n) (ac_nY Y (3, n)) (ac_nM Y mm) q ls ((2, ((Y.1 + 1 : Nat) : Int)) :: st)) : ac_V G on cc nL ret d mc ms P ck cn Y mm pc ls ((0, (n : Int)) :: st) := by
  intro p e s m args below meth c H locs la X hz hH hS hL
  subst hq
  have hts := X.2.2.2.2.2.2.1
  have hB := X.2.2.2.2.2.2.2.1
  have hi : ac_in (n : Int) := ⟨by omega, by omega⟩
  have e1 := ac_toInt hi
  refine va_newq X.1 X.2.1 X.2.2.2.2.2.1 (hts _ hA) hB.2.2.2.2 hB.1 hH.2 ac_ws_D hS (fun q h => Nat.le_trans hB.2.2.2.1 h) (N' := n) (by rw [Int32.lt_iff_toInt_lt, e1]; show ¬ (n : Int) < 0; omega) (by show (Int32.ofInt (n : Int)).toInt.toNat = n; rw [e1]; omega) (by omega) hmc hms hdg (fun q cA H1 hK1 hP1 hD1 hS1 => ?_)
  refine ac_W_size fun hsz => ?_
  have hqa : q = G.2.1 + Y.1 := ac_naddr hP1 hD1 (by omega)
  subst hqa
  obtain ⟨_, _, -, -, -, q4⟩ := (hK1.2 3 (cA, .object RX3) rfl).2
  obtain ⟨_, _, -, -, -, q5⟩ := (hB.1.2 2 (G.2.2.2.1.2.2, .object RX3) rfl).2
  have hcA : cA = G.2.2.2.1.2.2 := Option.some.inj (q4.symm.trans q5)
  subst hcA
  have e0 : ac_ent G (ac_nY Y (3, n)) (ac_nM Y mm) (Y.1 + 1) = .inl (G.2.2.2.1.2.2, n, .inr (.inr (.inr (.inr (fun _ => none))))) := by
    rw [ac_ent_t (n := n) (if_pos rfl)]
    congr 7
    funext j
    exact if_pos (if_pos rfl)
  have h := kk p e s m args below meth c H1 locs la X (by show s.heap.size + (ck + 1) = G.2.1 + (Y.1 + 1); omega) ⟨ac_nwf hH.1, by rw [ac_nws, e0]; exact hP1⟩ hS1 hL
  have ev : ac_v G.2.1 (2, ((Y.1 + 1 : Nat) : Int)) = .ref (G.2.1 + Y.1) := ac_refv (by omega)
  rw [List.map_cons, ev] at h
  exact h
theorem ac_aastore {k n v : Nat} {i : Int} (hdg : decode cc pc = .ok (.aastore, 1)) (hk : Y.2.1 k = (3, n)) (hn : n < 2147483648) (hi : 0 ≤ i ∧ i < n) (hv : Y.2.1 v = (0, 3)) (hq : pc + 1 = q) (kk : ac_V G on cc nL ret d mc ms P ck cn (Y.1, Y.2.1, ac_upR Y.2.2 k i.toNat v) mm q ls st) : ac_V G on cc nL ret d mc ms P ck cn Y mm pc ls ((2, (v : Int)) :: (0, i) :: (2, (k : Int)) :: st) := by
  intro p e s m args below meth c H locs la X hz hH hS hL
  subst hq
  have h9 : (Y.2.1 k).1 ≠ 9 := by rw [hk]; exact (show (3 : Nat) ≠ 9 by decide)
  have h9v : (Y.2.1 v).1 ≠ 9 := by rw [hv]; exact (show (0 : Nat) ≠ 9 by decide)
  have h1 := (ac_live hH.1 h9).1
  have h1v := (ac_live hH.1 h9v).1
  have he := ac_ws_at (G := G) (mm := mm) hH.1 h9
  have hev := ac_ws_at (G := G) (mm := mm) hH.1 h9v
  rw [ac_ent_t hk] at he
  rw [ac_ent_o hv] at hev
  obtain ⟨g1, g2⟩ := ac_vpin hi.1 hi.2 hn
  simp only [List.map_cons, ac_refv h1, ac_refv h1v]
  refine va_astq X.1 X.2.1 X.2.2.2.2.2.2.2.1.1 hH.2 ac_ws_D hS (k - 1) 2 (v - 1) 3 (r := (RX3, TX3, 7)) he rfl hev rfl g1 hdg (fun H1 locs1 hP1 hD1 hS1 => ?_)
  refine kk p e s m args below meth c H1 locs1 la X hz ⟨hH.1, ?_⟩ hS1 hL
  rw [g2, ac_ws_set (Y := Y) (mm := mm) (Y' := (Y.1, Y.2.1, ac_upR Y.2.2 k i.toNat v)) (mm' := mm) h1 rfl ?_ ?_] at hP1
  · exact hP1
  · rw [ac_ent_t (Y := (Y.1, Y.2.1, ac_upR Y.2.2 k i.toNat v)) hk]
    congr 7
    funext j
    by_cases hj : j = i.toNat
    · subst hj
      have e : ac_upR Y.2.2 k i.toNat v k i.toNat = v := if_pos ⟨rfl, rfl⟩
      simp only [e, va_up, if_neg (show ¬ v = 0 by omega)]
      simp
    · have e : ac_upR Y.2.2 k i.toNat v k j = Y.2.2 k j := if_neg (fun q => hj q.2)
      simp only [e, va_up, if_neg hj]
  · intro k' hk'
    have o : ∀ j, ac_upR Y.2.2 k i.toNat v k' j = Y.2.2 k' j := fun j => if_neg (fun q => hk' q.1)
    simp only [ac_ent, ac_w, o]
theorem ac_objInit {idx k : Nat} (hdg : decode cc pc = .ok (.invokespecial idx, 3)) (hA : Cond.methodLink on.1 idx Lib.objectInit ∈ ac_T) (hB : Cond.instanceMethod Lib.objectInit ∈ ac_T) (hC : Cond.code Lib.objectInit ⟨#[0xb1]⟩ 1 none ∈ ac_T) (hk : 1 ≤ k) (hq : pc + 3 = q) (hd : 1 ≤ d) (hsw : ac_sw st ≤ 8) (kk : ac_V G on cc nL ret d mc ms P ck cn Y mm q ls st) : ac_V G on cc nL ret d mc ms P ck cn Y mm pc ls ((2, (k : Int)) :: st) := by
  intro p e s m args below meth c H locs la X hz hH hS hL
  subst hq
  have hts := X.2.2.2.2.2.2.1
  have h := kk p e s m args below meth c H locs la X hz hH hS hL
  simp only [List.map_cons, ac_refv hk]
  refine W.objInit X.1 X.2.1 X.2.2.2.2.2.1 (hts _ hA) (hts _ hB) (hts _ hC) rfl (by rw [hL.1, X.2.2.1]) rfl hdg (by show 1 ≤ 1208 + d; omega) ?_ ?_
  · have := lv_room (m := m) (pc := 0) (ls := la) (rest := []) (st := st.map (ac_v G.2.1)) (by rw [ac_sw_cat]; exact hsw)
    refine Nat.le_trans (Nat.add_le_add_right this 12) ?_
    show 8 + 12 ≤ 100 * d
    omega
  · exact W.eq (g2 := F0 m (pc + 3) la (st.map (ac_v G.2.1))) rfl h
theorem ac_max {x y v : Int} {idx : Nat} (hdg : decode cc pc = .ok (.invokestatic idx, 3)) (h1 : Cond.methodLink on.1 idx Lib.Math.max.name ∈ ac_T) (h2 : Cond.static Lib.Math.max.name ∈ ac_T) (h3 : Cond.initialized "java/lang/Math" ∈ ac_T) (h4 : Cond.code Lib.Math.max.name Lib.Math.max.code 2 (some .int) ∈ ac_T) (hx : ac_in x) (hy : ac_in y) (hv : max x y = v) (hq : pc + 3 = q) (hd : 1 ≤ d) (hsw : ac_sw st ≤ 8) (hmc : ck ≤ mc) (hms : cn ≤ ms) (kk : ac_V G on cc nL ret d mc ms P ck cn Y mm q ls ((0, v) :: st)) : ac_V G on cc nL ret d mc ms P ck cn Y mm pc ls ((0, y) :: (0, x) :: st) := by
  intro p e s m args below meth c H locs la X hz hH hS hL
  subst hq; subst hv
  have hts := X.2.2.2.2.2.2.1
  have h := kk p e s m args below meth c H locs la X hz hH hS hL
  refine va_mmax X.1 X.2.1 (by rw [hL.1, X.2.2.1]) X.2.2.2.2.2.1 (hts _ h1) (hts _ h2) (hts _ h3) (hts _ h4) (by show 1 ≤ 1208 + d; omega) (by rw [ac_sw_cat]; show ac_sw st + 13 ≤ 100 * d; omega) hmc hms hdg ?_
  have e : (if Int32.ofInt x < Int32.ofInt y then Int32.ofInt y else Int32.ofInt x) = Int32.ofInt (max x y) := by
    by_cases hlt : x < y
    · rw [if_pos ((ac_lt hx hy).mpr hlt), Int.max_eq_right (by omega)]
    · rw [if_neg (fun q => hlt ((ac_lt hx hy).mp q)), Int.max_eq_left (by omega)]
  rw [e]
  exact h
theorem ac_min {x y v : Int} {idx : Nat} (hdg : decode cc pc = .ok (.invokestatic idx, 3)) (h1 : Cond.methodLink on.1 idx Lib.Math.min.name ∈ ac_T) (h2 : Cond.static Lib.Math.min.name ∈ ac_T) (h3 : Cond.initialized "java/lang/Math" ∈ ac_T) (h4 : Cond.code Lib.Math.min.name Lib.Math.min.code 2 (some .int) ∈ ac_T) (hx : ac_in x) (hy : ac_in y) (hv : min x y = v) (hq : pc + 3 = q) (hd : 1 ≤ d) (hsw : ac_sw st ≤ 8) (hmc : ck ≤ mc) (hms : cn ≤ ms) (kk : ac_V G on cc nL ret d mc ms P ck cn Y mm q ls ((0, v) :: st)) : ac_V G on cc nL ret d mc ms P ck cn Y mm pc ls ((0, y) :: (0, x) :: st) := by
  intro p e s m args below meth c H locs la X hz hH hS hL
  subst hq; subst hv
  have hts := X.2.2.2.2.2.2.1
  have h := kk p e s m args below meth c H locs la X hz hH hS hL
  refine va_mmin X.1 X.2.1 (by rw [hL.1, X.2.2.1]) X.2.2.2.2.2.1 (hts _ h1) (hts _ h2) (hts _ h3) (hts _ h4) (by show 1 ≤ 1208 + d; omega) (by rw [ac_sw_cat]; show ac_sw st + 13 ≤ 100 * d; omega) hmc hms hdg ?_
  have e : (if Int32.ofInt y < Int32.ofInt x then Int32.ofInt y else Int32.ofInt x) = Int32.ofInt (min x y) := by
    by_cases hlt : y < x
    · rw [if_pos ((ac_lt hy hx).mpr hlt), Int.min_eq_right (by omega)]
    · rw [if_neg (fun q => hlt ((ac_lt hy hx).mp q)), Int.min_eq_left (by omega)]
  rw [e]
  exact h
/-- the first n numbers of row k0 into row k1 -/
def ac_cp (mm : ac_M) (k0 k1 n : Nat) : ac_M := fun k j => if k = k1 ∧ j < n then mm k0 j else mm k j
theorem ac_copy {idx k0 k1 n0 n1 n : Nat} (hdg : decode cc pc = .ok (.invokestatic idx, 3)) (h1 : Cond.methodLink on.1 idx arraycopyName ∈ ac_T) (h2 : Cond.native arraycopyName ∈ ac_T) (h3 : Cond.static arraycopyName ∈ ac_T) (h4 : Cond.initialized "java/lang/System" ∈ ac_T) (hk0 : Y.2.1 k0 = (1, n0)) (hk1 : Y.2.1 k1 = (1, n1)) (hn0 : n ≤ n0) (hn1 : n ≤ n1) (hn : n < 100000000) (hq : pc + 3 = q) (hd : 1 ≤ d) (hsw : ac_sw st ≤ 8) (kk : ac_V G on cc nL ret d mc ms P ck cn Y (ac_cp mm k0 k1 n) q ls st) : ac_V G on cc nL ret d mc ms P ck cn Y mm pc ls ((0, (n : Int)) :: (0, 0) :: (2, (k1 : Int)) :: (0, 0) :: (2, (k0 : Int)) :: st) := by
  intro p e s m args below meth c H locs la X hz hH hS hL
  subst hq
  have hts := X.2.2.2.2.2.2.1
  have h9 : (Y.2.1 k0).1 ≠ 9 := by rw [hk0]; exact (show (1 : Nat) ≠ 9 by decide)
  have h9v : (Y.2.1 k1).1 ≠ 9 := by rw [hk1]; exact (show (1 : Nat) ≠ 9 by decide)
  have g0 := (ac_live hH.1 h9).1
  have g1 := (ac_live hH.1 h9v).1
  have he := ac_ws_at (G := G) (mm := mm) hH.1 h9
  have hev := ac_ws_at (G := G) (mm := mm) hH.1 h9v
  rw [ac_ent_i hk0] at he
  rw [ac_ent_i hk1] at hev
  have hi : ac_in (n : Int) := ⟨by omega, by omega⟩
  have e1 := ac_toInt hi
  have en : (Int32.ofInt (n : Int)).toNatClampNeg = n := by show (Int32.ofInt (n : Int)).toInt.toNat = n; rw [e1]; omega
  have ez : (Int32.ofInt 0).toNatClampNeg = 0 := rfl
  simp only [List.map_cons, ac_refv g0, ac_refv g1]
  refine va_copyi X.1 X.2.1 (by rw [hL.1, X.2.2.1]) X.2.2.2.2.2.1 (hts _ h1) (hts _ h2) (hts _ h3) (hts _ h4) X.2.2.2.2.2.2.2.1.1 hH.2 ac_ws_D hS (k0 - 1) (k1 - 1) 0 0 he hev rfl rfl rfl (sp := Int32.ofInt 0) (dp := Int32.ofInt 0) (n := Int32.ofInt (n : Int)) (by decide) (by decide) (by rw [Int32.lt_iff_toInt_lt, e1]; show ¬ (n : Int) < 0; omega) (by rw [en, ez]; omega) (by rw [en, ez]; omega) (fun i _ => rfl) (by show 1 ≤ 1208 + d; omega) ?_ hdg (fun H1 locs1 hP1 hD1 hS1 => ?_)
  · rw [ac_sw_cat]
    have : nativeFrameWords "java/lang/System" "arraycopy" 5 + 11 ≤ 90 := by decide
    show ac_sw st + (nativeFrameWords "java/lang/System" "arraycopy" 5 + 11) ≤ 100 * d
    omega
  · refine kk p e s m args below meth c H1 locs1 la X hz ⟨hH.1, ?_⟩ hS1 hL
    rw [ac_ws_set (Y' := Y) (mm' := ac_cp mm k0 k1 n) g1 rfl ?_ ?_] at hP1
    · exact hP1
    · rw [ac_ent_i hk1, en, ez]
      congr 4
      funext j
      by_cases hj : j < n
      · rw [show ac_cp mm k0 k1 n k1 j = mm k0 j from if_pos ⟨rfl, hj⟩]
        simp [va_cpy, hj]
      · rw [show ac_cp mm k0 k1 n k1 j = mm k1 j from if_neg (fun q => hj q.2)]
        simp [va_cpy, hj]
    · intro k' hk'
      have o : ∀ j, ac_cp mm k0 k1 n k' j = mm k' j := fun j => if_neg (fun q => hk' q.1)
      simp only [ac_ent, ac_w, o]
theorem ac_names_get {idx : Nat} (hdg : decode cc pc = .ok (.getstatic idx, 3)) (hA : Cond.fieldLink on.1 idx RX5 "NAMES" "[I" ∈ ac_T) (hq : pc + 3 = q) (kk : ac_V G on cc nL ret d mc ms P ck cn Y mm q ls ((4, (G.2.2.2.2.1 : Int)) :: st)) : ac_V G on cc nL ret d mc ms P ck cn Y mm pc ls st := by
  intro p e s m args below meth c H locs la X hz hH hS hL
  subst hq
  have hts := X.2.2.2.2.2.2.1
  have h := kk p e s m args below meth c H locs la X hz hH hS hL
  refine va_gets X.1 X.2.1 X.2.2.2.2.2.2.2.1.2.2.1.1 hS X.2.2.2.2.2.1 (hts _ hA) (fun _ h => h) hdg ?_
  exact h
theorem ac_names_ld {i v : Int} (hdg : decode cc pc = .ok (.iaload, 1)) (hi : 0 ≤ i ∧ i < 18) (hq : pc + 1 = q) (hv : ac_names i.toNat = v) (kk : ac_V G on cc nL ret d mc ms P ck cn Y mm q ls ((0, v) :: st)) : ac_V G on cc nL ret d mc ms P ck cn Y mm pc ls ((0, i) :: (4, (G.2.2.2.2.1 : Int)) :: st) := by
  intro p e s m args below meth c H locs la X hz hH hS hL
  subst hq; subst hv
  have h := kk p e s m args below meth c H locs la X hz hH hS hL
  obtain ⟨g1, g2⟩ := ac_vpin (n := 18) hi.1 hi.2 (by decide)
  have hB := X.2.2.2.2.2.2.2.1
  refine va_sld X.1 X.2.1 (b := G.2.2.2.2.1) hB.2.2.1.2.1 (Nat.lt_of_lt_of_le hB.2.2.1.2.2.1 hB.2.2.2.1) (Nat.not_le.mpr hB.2.2.1.2.2.1) hS g1 hdg ?_
  rw [g2]
  exact h
theorem ac_script_ld {i : Int} (hdg : decode cc pc = .ok (.iaload, 1)) (hL2 : G.2.2.2.2.2.2.1 < 2147483648) (hi : 0 ≤ i ∧ i < G.2.2.2.2.2.2.1) (hq : pc + 1 = q) (kk : ac_V G on cc nL ret d mc ms P ck cn Y mm q ls ((0, G.2.2.2.2.2.2.2 i.toNat) :: st)) : ac_V G on cc nL ret d mc ms P ck cn Y mm pc ls ((0, i) :: (4, (G.2.2.2.2.2.1 : Int)) :: st) := by
  intro p e s m args below meth c H locs la X hz hH hS hL
  subst hq
  have h := kk p e s m args below meth c H locs la X hz hH hS hL
  obtain ⟨g1, g2⟩ := ac_vpin (n := G.2.2.2.2.2.2.1) hi.1 hi.2 hL2
  have hB := X.2.2.2.2.2.2.2.1
  refine va_sld X.1 X.2.1 (b := G.2.2.2.2.2.1) hB.2.2.1.2.2.2.1 (Nat.lt_of_lt_of_le hB.2.2.1.2.2.2.2 hB.2.2.2.1) (Nat.not_le.mpr hB.2.2.1.2.2.2.2) hS g1 hdg ?_
  rw [g2]
  exact h
theorem ac_script_len (hdg : decode cc pc = .ok (.arraylength, 1)) (hq : pc + 1 = q) (kk : ac_V G on cc nL ret d mc ms P ck cn Y mm q ls ((0, (G.2.2.2.2.2.2.1 : Int)) :: st)) : ac_V G on cc nL ret d mc ms P ck cn Y mm pc ls ((4, (G.2.2.2.2.2.1 : Int)) :: st) := by
  intro p e s m args below meth c H locs la X hz hH hS hL
  subst hq
  have h := kk p e s m args below meth c H locs la X hz hH hS hL
  have hB := X.2.2.2.2.2.2.2.1
  refine va_slen X.1 X.2.1 (b := G.2.2.2.2.2.1) hB.2.2.1.2.2.2.1 (Nat.lt_of_lt_of_le hB.2.2.1.2.2.2.2 hB.2.2.2.1) (Nat.not_le.mpr hB.2.2.1.2.2.2.2) hS hdg ?_
  exact h
end AcArr
end
section
theorem cl_in0 : ∀ w ∈ u_ws RX0 TX0 2, w ∈ ac_T := by
  intro w hw
  have h1 : u_ws RX0 TX0 2 = ([236, 238] : List Nat).filterMap (fun i => lw_tbl[i]?) := by decide +kernel
  have h2 : (u_ws RX0 TX0 2).all goodWord = true := by decide +kernel
  have h3 := List.all_eq_true.mp h2 w hw
  rw [h1] at hw
  obtain ⟨i, -, hi⟩ := List.mem_filterMap.mp hw
  exact ac_T_of (List.mem_of_getElem? hi) h3
theorem cl_0 : ac_CL 0 (RX0, TX0, 2) tyX0 := ⟨rfl, rfl, cl_in0, tyX0_ok, nmX0⟩
theorem cl_in1 : ∀ w ∈ u_ws RX1 TX1 3, w ∈ ac_T := by
  intro w hw
  have h1 : u_ws RX1 TX1 3 = ([195, 197, 199] : List Nat).filterMap (fun i => lw_tbl[i]?) := by decide +kernel
  have h2 : (u_ws RX1 TX1 3).all goodWord = true := by decide +kernel
  have h3 := List.all_eq_true.mp h2 w hw
  rw [h1] at hw
  obtain ⟨i, -, hi⟩ := List.mem_filterMap.mp hw
  exact ac_T_of (List.mem_of_getElem? hi) h3
theorem cl_1 : ac_CL 1 (RX1, TX1, 3) tyX1 := ⟨rfl, rfl, cl_in1, tyX1_ok, nmX1⟩
theorem cl_in2 : ∀ w ∈ u_ws RX2 TX2 3, w ∈ ac_T := by
  intro w hw
  have h1 : u_ws RX2 TX2 3 = ([218, 220, 222] : List Nat).filterMap (fun i => lw_tbl[i]?) := by decide +kernel
  have h2 : (u_ws RX2 TX2 3).all goodWord = true := by decide +kernel
  have h3 := List.all_eq_true.mp h2 w hw
  rw [h1] at hw
  obtain ⟨i, -, hi⟩ := List.mem_filterMap.mp hw
  exact ac_T_of (List.mem_of_getElem? hi) h3
theorem cl_2 : ac_CL 2 (RX2, TX2, 3) tyX2 := ⟨rfl, rfl, cl_in2, tyX2_ok, nmX2⟩
theorem cl_in3 : ∀ w ∈ u_ws RX3 TX3 7, w ∈ ac_T := by
  intro w hw
  have h1 : u_ws RX3 TX3 7 = ([167, 169, 171, 173, 175, 177, 179] : List Nat).filterMap (fun i => lw_tbl[i]?) := by decide +kernel
  have h2 : (u_ws RX3 TX3 7).all goodWord = true := by decide +kernel
  have h3 := List.all_eq_true.mp h2 w hw
  rw [h1] at hw
  obtain ⟨i, -, hi⟩ := List.mem_filterMap.mp hw
  exact ac_T_of (List.mem_of_getElem? hi) h3
theorem cl_3 : ac_CL 3 (RX3, TX3, 7) tyX3 := ⟨rfl, rfl, cl_in3, tyX3_ok, nmX3⟩
theorem cl_in4 : ∀ w ∈ u_ws RX4 TX4 3, w ∈ ac_T := by
  intro w hw
  have h1 : u_ws RX4 TX4 3 = ([134, 136, 138] : List Nat).filterMap (fun i => lw_tbl[i]?) := by decide +kernel
  have h2 : (u_ws RX4 TX4 3).all goodWord = true := by decide +kernel
  have h3 := List.all_eq_true.mp h2 w hw
  rw [h1] at hw
  obtain ⟨i, -, hi⟩ := List.mem_filterMap.mp hw
  exact ac_T_of (List.mem_of_getElem? hi) h3
theorem cl_4 : ac_CL 4 (RX4, TX4, 3) tyX4 := ⟨rfl, rfl, cl_in4, tyX4_ok, nmX4⟩
theorem cl_in5 : ∀ w ∈ u_ws RX5 TX5 15, w ∈ ac_T := by
  intro w hw
  have h1 : u_ws RX5 TX5 15 = ([267, 269, 271, 273, 275, 277, 279, 281, 283, 285, 287, 289, 291, 293, 295] : List Nat).filterMap (fun i => lw_tbl[i]?) := by decide +kernel
  have h2 : (u_ws RX5 TX5 15).all goodWord = true := by decide +kernel
  have h3 := List.all_eq_true.mp h2 w hw
  rw [h1] at hw
  obtain ⟨i, -, hi⟩ := List.mem_filterMap.mp hw
  exact ac_T_of (List.mem_of_getElem? hi) h3
theorem cl_5 : ac_CL 5 (RX5, TX5, 15) tyX5 := ⟨rfl, rfl, cl_in5, tyX5_ok, nmX5⟩
theorem cl_in6 : ∀ w ∈ u_ws RX6 TX6 9, w ∈ ac_T := by
  intro w hw
  have h1 : u_ws RX6 TX6 9 = ([403, 405, 407, 409, 411, 413, 415, 417, 419] : List Nat).filterMap (fun i => lw_tbl[i]?) := by decide +kernel
  have h2 : (u_ws RX6 TX6 9).all goodWord = true := by decide +kernel
  have h3 := List.all_eq_true.mp h2 w hw
  rw [h1] at hw
  obtain ⟨i, -, hi⟩ := List.mem_filterMap.mp hw
  exact ac_T_of (List.mem_of_getElem? hi) h3
theorem cl_6 : ac_CL 6 (RX6, TX6, 9) tyX6 := ⟨rfl, rfl, cl_in6, tyX6_ok, nmX6⟩
theorem cl_in7 : ∀ w ∈ u_ws RX7 TX7 28, w ∈ ac_T := by
  intro w hw
  have h1 : u_ws RX7 TX7 28 = ([828, 830, 832, 834, 836, 838, 840, 842, 844, 846, 848, 850, 852, 854, 856, 858, 860, 862, 864, 866, 868, 870, 872, 874, 876, 878, 880, 882] : List Nat).filterMap (fun i => lw_tbl[i]?) := by decide +kernel
  have h2 : (u_ws RX7 TX7 28).all goodWord = true := by decide +kernel
  have h3 := List.all_eq_true.mp h2 w hw
  rw [h1] at hw
  obtain ⟨i, -, hi⟩ := List.mem_filterMap.mp hw
  exact ac_T_of (List.mem_of_getElem? hi) h3
theorem cl_7 : ac_CL 7 (RX7, TX7, 28) tyX7 := ⟨rfl, rfl, cl_in7, tyX7_ok, nmX7⟩
theorem nlr_L_7 : Cond.classLink RL 7 RX6 ∈ ac_T := (ac_T_of (List.mem_of_getElem? (i := 116) (by decide +kernel)) rfl)
theorem nl_L_7 : ac_NL RL 7 6 := ⟨(RX6, TX6, 9), tyX6, cl_6, by decide +kernel, nlr_L_7, (ac_T_of (List.mem_of_getElem? (i := 117) (by decide +kernel)) rfl), (ac_T_of (List.mem_of_getElem? (i := 104) (by decide +kernel)) rfl)⟩
theorem ml_L_9 : ac_ML 2 RL 9 6 yX6_init cX6_init 1 none 0 := ⟨⟨by decide +kernel, by decide +kernel, by decide +kernel⟩, by decide, (ac_T_of (List.mem_of_getElem? (i := 120) (by decide +kernel)) rfl), (ac_T_of (List.mem_of_getElem? (i := 104) (by decide +kernel)) rfl), Or.inl (ac_T_of (List.mem_of_getElem? (i := 118) (by decide +kernel)) rfl), ⟨(ac_T_of (List.mem_of_getElem? (i := 119) (by decide +kernel)) rfl), rfl, rfl⟩⟩
theorem ml_X6_1 : Cond.methodLink RX6 1 Lib.objectInit ∈ ac_T := (ac_T_of (List.mem_of_getElem? (i := 121) (by decide +kernel)) rfl)
theorem nlr_X6_7 : Cond.classLink RX6 7 RX4 ∈ ac_T := (ac_T_of (List.mem_of_getElem? (i := 124) (by decide +kernel)) rfl)
theorem nl_X6_7 : ac_NL RX6 7 4 := ⟨(RX4, TX4, 3), tyX4, cl_4, by decide +kernel, nlr_X6_7, (ac_T_of (List.mem_of_getElem? (i := 125) (by decide +kernel)) rfl), (ac_T_of (List.mem_of_getElem? (i := 105) (by decide +kernel)) rfl)⟩
theorem ml_X6_9 : ac_ML 2 RX6 9 4 yX4_init cX4_init 1 none 0 := ⟨⟨by decide +kernel, by decide +kernel, by decide +kernel⟩, by decide, (ac_T_of (List.mem_of_getElem? (i := 128) (by decide +kernel)) rfl), (ac_T_of (List.mem_of_getElem? (i := 105) (by decide +kernel)) rfl), Or.inr ⟨"AvoidColours", (List.mem_of_getElem? (i := 126) (by decide +kernel))⟩, ⟨(ac_T_of (List.mem_of_getElem? (i := 127) (by decide +kernel)) rfl), rfl, rfl⟩⟩
theorem ml_X4_3 : Cond.methodLink RX4 3 Lib.objectInit ∈ ac_T := (ac_T_of (List.mem_of_getElem? (i := 129) (by decide +kernel)) rfl)
theorem fl_X4_11 : ac_FL true RX4 11 4 0 := ⟨(RX4, TX4, 3), tyX4, cl_4, (show 0 < 3 by decide), rfl, rfl, Or.inl ⟨(ac_T_of (List.mem_of_getElem? (i := 130) (by decide +kernel)) rfl), rfl⟩⟩
theorem fl_X4_15 : ac_FL true RX4 15 4 1 := ⟨(RX4, TX4, 3), tyX4, cl_4, (show 1 < 3 by decide), rfl, rfl, Or.inl ⟨(ac_T_of (List.mem_of_getElem? (i := 131) (by decide +kernel)) rfl), rfl⟩⟩
theorem fl_X6_62 : ac_FL false RX6 62 4 1 := ⟨(RX4, TX4, 3), tyX4, cl_4, (show 1 < 3 by decide), rfl, rfl, Or.inr ⟨rfl, "AvoidColours", (List.mem_of_getElem? (i := 132) (by decide +kernel))⟩⟩
theorem fl_X4_19 : ac_FL true RX4 19 4 2 := ⟨(RX4, TX4, 3), tyX4, cl_4, (show 2 < 3 by decide), rfl, rfl, Or.inl ⟨(ac_T_of (List.mem_of_getElem? (i := 133) (by decide +kernel)) rfl), rfl⟩⟩
theorem nlr_X6_16 : Cond.classLink RX6 16 RX3 ∈ ac_T := (ac_T_of (List.mem_of_getElem? (i := 142) (by decide +kernel)) rfl)
theorem nl_X6_16 : ac_NL RX6 16 3 := ⟨(RX3, TX3, 7), tyX3, cl_3, by decide +kernel, nlr_X6_16, (ac_T_of (List.mem_of_getElem? (i := 143) (by decide +kernel)) rfl), (ac_T_of (List.mem_of_getElem? (i := 106) (by decide +kernel)) rfl)⟩
theorem ml_X6_18 : ac_ML 2 RX6 18 3 yX3_init cX3_init 1 none 0 := ⟨⟨by decide +kernel, by decide +kernel, by decide +kernel⟩, by decide, (ac_T_of (List.mem_of_getElem? (i := 146) (by decide +kernel)) rfl), (ac_T_of (List.mem_of_getElem? (i := 106) (by decide +kernel)) rfl), Or.inr ⟨"AvoidColours", (List.mem_of_getElem? (i := 144) (by decide +kernel))⟩, ⟨(ac_T_of (List.mem_of_getElem? (i := 145) (by decide +kernel)) rfl), rfl, rfl⟩⟩
theorem ml_X3_3 : Cond.methodLink RX3 3 Lib.objectInit ∈ ac_T := (ac_T_of (List.mem_of_getElem? (i := 147) (by decide +kernel)) rfl)
theorem fl_X3_11 : ac_FL true RX3 11 3 0 := ⟨(RX3, TX3, 7), tyX3, cl_3, (show 0 < 7 by decide), rfl, rfl, Or.inl ⟨(ac_T_of (List.mem_of_getElem? (i := 148) (by decide +kernel)) rfl), rfl⟩⟩
theorem fl_X0_47 : ac_FL false RX0 47 3 0 := ⟨(RX3, TX3, 7), tyX3, cl_3, (show 0 < 7 by decide), rfl, rfl, Or.inr ⟨rfl, "AvoidColours", (List.mem_of_getElem? (i := 149) (by decide +kernel))⟩⟩
theorem fl_X3_15 : ac_FL true RX3 15 3 1 := ⟨(RX3, TX3, 7), tyX3, cl_3, (show 1 < 7 by decide), rfl, rfl, Or.inl ⟨(ac_T_of (List.mem_of_getElem? (i := 150) (by decide +kernel)) rfl), rfl⟩⟩
theorem fl_X3_18 : ac_FL true RX3 18 3 2 := ⟨(RX3, TX3, 7), tyX3, cl_3, (show 2 < 7 by decide), rfl, rfl, Or.inl ⟨(ac_T_of (List.mem_of_getElem? (i := 151) (by decide +kernel)) rfl), rfl⟩⟩
theorem fl_X3_21 : ac_FL true RX3 21 3 3 := ⟨(RX3, TX3, 7), tyX3, cl_3, (show 3 < 7 by decide), rfl, rfl, Or.inl ⟨(ac_T_of (List.mem_of_getElem? (i := 152) (by decide +kernel)) rfl), rfl⟩⟩
theorem fl_X4_45 : ac_FL false RX4 45 3 3 := ⟨(RX3, TX3, 7), tyX3, cl_3, (show 3 < 7 by decide), rfl, rfl, Or.inr ⟨rfl, "AvoidColours", (List.mem_of_getElem? (i := 153) (by decide +kernel))⟩⟩
theorem fl_X5_126 : ac_FL false RX5 126 3 3 := ⟨(RX3, TX3, 7), tyX3, cl_3, (show 3 < 7 by decide), rfl, rfl, Or.inr ⟨rfl, "AvoidColours", (List.mem_of_getElem? (i := 154) (by decide +kernel))⟩⟩
theorem fl_X6_141 : ac_FL false RX6 141 3 3 := ⟨(RX3, TX3, 7), tyX3, cl_3, (show 3 < 7 by decide), rfl, rfl, Or.inr ⟨rfl, "AvoidColours", (List.mem_of_getElem? (i := 155) (by decide +kernel))⟩⟩
theorem fl_X3_25 : ac_FL true RX3 25 3 4 := ⟨(RX3, TX3, 7), tyX3, cl_3, (show 4 < 7 by decide), rfl, rfl, Or.inl ⟨(ac_T_of (List.mem_of_getElem? (i := 156) (by decide +kernel)) rfl), rfl⟩⟩
theorem fl_X4_66 : ac_FL false RX4 66 3 4 := ⟨(RX3, TX3, 7), tyX3, cl_3, (show 4 < 7 by decide), rfl, rfl, Or.inr ⟨rfl, "AvoidColours", (List.mem_of_getElem? (i := 157) (by decide +kernel))⟩⟩
theorem fl_X5_151 : ac_FL false RX5 151 3 4 := ⟨(RX3, TX3, 7), tyX3, cl_3, (show 4 < 7 by decide), rfl, rfl, Or.inr ⟨rfl, "AvoidColours", (List.mem_of_getElem? (i := 158) (by decide +kernel))⟩⟩
theorem fl_X6_202 : ac_FL false RX6 202 3 4 := ⟨(RX3, TX3, 7), tyX3, cl_3, (show 4 < 7 by decide), rfl, rfl, Or.inr ⟨rfl, "AvoidColours", (List.mem_of_getElem? (i := 159) (by decide +kernel))⟩⟩
theorem fl_X3_28 : ac_FL true RX3 28 3 5 := ⟨(RX3, TX3, 7), tyX3, cl_3, (show 5 < 7 by decide), rfl, rfl, Or.inl ⟨(ac_T_of (List.mem_of_getElem? (i := 160) (by decide +kernel)) rfl), rfl⟩⟩
theorem fl_X0_36 : ac_FL false RX0 36 3 5 := ⟨(RX3, TX3, 7), tyX3, cl_3, (show 5 < 7 by decide), rfl, rfl, Or.inr ⟨rfl, "AvoidColours", (List.mem_of_getElem? (i := 161) (by decide +kernel))⟩⟩
theorem fl_X4_29 : ac_FL false RX4 29 3 5 := ⟨(RX3, TX3, 7), tyX3, cl_3, (show 5 < 7 by decide), rfl, rfl, Or.inr ⟨rfl, "AvoidColours", (List.mem_of_getElem? (i := 162) (by decide +kernel))⟩⟩
theorem fl_X6_164 : ac_FL false RX6 164 3 5 := ⟨(RX3, TX3, 7), tyX3, cl_3, (show 5 < 7 by decide), rfl, rfl, Or.inr ⟨rfl, "AvoidColours", (List.mem_of_getElem? (i := 163) (by decide +kernel))⟩⟩
theorem fl_X3_31 : ac_FL true RX3 31 3 6 := ⟨(RX3, TX3, 7), tyX3, cl_3, (show 6 < 7 by decide), rfl, rfl, Or.inl ⟨(ac_T_of (List.mem_of_getElem? (i := 164) (by decide +kernel)) rfl), rfl⟩⟩
theorem fl_X5_118 : ac_FL false RX5 118 3 6 := ⟨(RX3, TX3, 7), tyX3, cl_3, (show 6 < 7 by decide), rfl, rfl, Or.inr ⟨rfl, "AvoidColours", (List.mem_of_getElem? (i := 165) (by decide +kernel))⟩⟩
theorem fl_X6_103 : ac_FL false RX6 103 3 6 := ⟨(RX3, TX3, 7), tyX3, cl_3, (show 6 < 7 by decide), rfl, rfl, Or.inr ⟨rfl, "AvoidColours", (List.mem_of_getElem? (i := 166) (by decide +kernel))⟩⟩
theorem nlr_X6_36 : Cond.classLink RX6 36 RX1 ∈ ac_T := (ac_T_of (List.mem_of_getElem? (i := 183) (by decide +kernel)) rfl)
theorem nl_X6_36 : ac_NL RX6 36 1 := ⟨(RX1, TX1, 3), tyX1, cl_1, by decide +kernel, nlr_X6_36, (ac_T_of (List.mem_of_getElem? (i := 184) (by decide +kernel)) rfl), (ac_T_of (List.mem_of_getElem? (i := 107) (by decide +kernel)) rfl)⟩
theorem ml_X6_38 : ac_ML 2 RX6 38 1 yX1_init cX1_init 2 none 0 := ⟨⟨by decide +kernel, by decide +kernel, by decide +kernel⟩, by decide, (ac_T_of (List.mem_of_getElem? (i := 187) (by decide +kernel)) rfl), (ac_T_of (List.mem_of_getElem? (i := 107) (by decide +kernel)) rfl), Or.inr ⟨"AvoidColours", (List.mem_of_getElem? (i := 185) (by decide +kernel))⟩, ⟨(ac_T_of (List.mem_of_getElem? (i := 186) (by decide +kernel)) rfl), rfl, rfl⟩⟩
theorem ml_X1_1 : Cond.methodLink RX1 1 Lib.objectInit ∈ ac_T := (ac_T_of (List.mem_of_getElem? (i := 188) (by decide +kernel)) rfl)
theorem nlr_X1_9 : Cond.classLink RX1 9 RX3 ∈ ac_T := (ac_T_of (List.mem_of_getElem? (i := 189) (by decide +kernel)) rfl)
theorem nl_X1_9 : ac_NL RX1 9 3 := ⟨(RX3, TX3, 7), tyX3, cl_3, by decide +kernel, nlr_X1_9, (ac_T_of (List.mem_of_getElem? (i := 143) (by decide +kernel)) rfl), (ac_T_of (List.mem_of_getElem? (i := 106) (by decide +kernel)) rfl)⟩
theorem ml_X1_15 : ac_ML 2 RX1 15 3 yX3_init cX3_init 1 none 0 := ⟨⟨by decide +kernel, by decide +kernel, by decide +kernel⟩, by decide, (ac_T_of (List.mem_of_getElem? (i := 146) (by decide +kernel)) rfl), (ac_T_of (List.mem_of_getElem? (i := 106) (by decide +kernel)) rfl), Or.inr ⟨"AvoidColours", (List.mem_of_getElem? (i := 190) (by decide +kernel))⟩, ⟨(ac_T_of (List.mem_of_getElem? (i := 145) (by decide +kernel)) rfl), rfl, rfl⟩⟩
theorem fl_X1_11 : ac_FL true RX1 11 1 0 := ⟨(RX1, TX1, 3), tyX1, cl_1, (show 0 < 3 by decide), rfl, rfl, Or.inl ⟨(ac_T_of (List.mem_of_getElem? (i := 191) (by decide +kernel)) rfl), rfl⟩⟩
theorem fl_X1_16 : ac_FL true RX1 16 1 1 := ⟨(RX1, TX1, 3), tyX1, cl_1, (show 1 < 3 by decide), rfl, rfl, Or.inl ⟨(ac_T_of (List.mem_of_getElem? (i := 192) (by decide +kernel)) rfl), rfl⟩⟩
theorem fl_X1_28 : ac_FL true RX1 28 1 2 := ⟨(RX1, TX1, 3), tyX1, cl_1, (show 2 < 3 by decide), rfl, rfl, Or.inl ⟨(ac_T_of (List.mem_of_getElem? (i := 193) (by decide +kernel)) rfl), rfl⟩⟩
theorem fl_X6_180 : ac_FL false RX6 180 1 2 := ⟨(RX1, TX1, 3), tyX1, cl_1, (show 2 < 3 by decide), rfl, rfl, Or.inr ⟨rfl, "AvoidColours", (List.mem_of_getElem? (i := 194) (by decide +kernel))⟩⟩
theorem nlr_X6_43 : Cond.classLink RX6 43 RX5 ∈ ac_T := (ac_T_of (List.mem_of_getElem? (i := 202) (by decide +kernel)) rfl)
theorem nl_X6_43 : ac_NL RX6 43 5 := ⟨(RX5, TX5, 15), tyX5, cl_5, by decide +kernel, nlr_X6_43, (ac_T_of (List.mem_of_getElem? (i := 203) (by decide +kernel)) rfl), (ac_T_of (List.mem_of_getElem? (i := 108) (by decide +kernel)) rfl)⟩
theorem ml_X6_45 : ac_ML 2 RX6 45 5 yX5_init cX5_init 1 none 0 := ⟨⟨by decide +kernel, by decide +kernel, by decide +kernel⟩, by decide, (ac_T_of (List.mem_of_getElem? (i := 206) (by decide +kernel)) rfl), (ac_T_of (List.mem_of_getElem? (i := 108) (by decide +kernel)) rfl), Or.inr ⟨"AvoidColours", (List.mem_of_getElem? (i := 204) (by decide +kernel))⟩, ⟨(ac_T_of (List.mem_of_getElem? (i := 205) (by decide +kernel)) rfl), rfl, rfl⟩⟩
theorem ml_X5_3 : Cond.methodLink RX5 3 Lib.objectInit ∈ ac_T := (ac_T_of (List.mem_of_getElem? (i := 207) (by decide +kernel)) rfl)
theorem nlr_X5_9 : Cond.classLink RX5 9 RX2 ∈ ac_T := (ac_T_of (List.mem_of_getElem? (i := 208) (by decide +kernel)) rfl)
theorem nl_X5_9 : ac_NL RX5 9 2 := ⟨(RX2, TX2, 3), tyX2, cl_2, by decide +kernel, nlr_X5_9, (ac_T_of (List.mem_of_getElem? (i := 209) (by decide +kernel)) rfl), (ac_T_of (List.mem_of_getElem? (i := 109) (by decide +kernel)) rfl)⟩
theorem ml_X5_11 : ac_ML 2 RX5 11 2 yX2_init cX2_init 1 none 0 := ⟨⟨by decide +kernel, by decide +kernel, by decide +kernel⟩, by decide, (ac_T_of (List.mem_of_getElem? (i := 212) (by decide +kernel)) rfl), (ac_T_of (List.mem_of_getElem? (i := 109) (by decide +kernel)) rfl), Or.inr ⟨"AvoidColours", (List.mem_of_getElem? (i := 210) (by decide +kernel))⟩, ⟨(ac_T_of (List.mem_of_getElem? (i := 211) (by decide +kernel)) rfl), rfl, rfl⟩⟩
theorem ml_X2_1 : Cond.methodLink RX2 1 Lib.objectInit ∈ ac_T := (ac_T_of (List.mem_of_getElem? (i := 213) (by decide +kernel)) rfl)
theorem fl_X2_9 : ac_FL true RX2 9 2 0 := ⟨(RX2, TX2, 3), tyX2, cl_2, (show 0 < 3 by decide), rfl, rfl, Or.inl ⟨(ac_T_of (List.mem_of_getElem? (i := 214) (by decide +kernel)) rfl), rfl⟩⟩
theorem fl_X2_13 : ac_FL true RX2 13 2 1 := ⟨(RX2, TX2, 3), tyX2, cl_2, (show 1 < 3 by decide), rfl, rfl, Or.inl ⟨(ac_T_of (List.mem_of_getElem? (i := 215) (by decide +kernel)) rfl), rfl⟩⟩
theorem fl_X2_17 : ac_FL true RX2 17 2 2 := ⟨(RX2, TX2, 3), tyX2, cl_2, (show 2 < 3 by decide), rfl, rfl, Or.inl ⟨(ac_T_of (List.mem_of_getElem? (i := 216) (by decide +kernel)) rfl), rfl⟩⟩
theorem fl_X6_236 : ac_FL false RX6 236 2 2 := ⟨(RX2, TX2, 3), tyX2, cl_2, (show 2 < 3 by decide), rfl, rfl, Or.inr ⟨rfl, "AvoidColours", (List.mem_of_getElem? (i := 217) (by decide +kernel))⟩⟩
theorem nlr_X5_18 : Cond.classLink RX5 18 RX0 ∈ ac_T := (ac_T_of (List.mem_of_getElem? (i := 226) (by decide +kernel)) rfl)
theorem nl_X5_18 : ac_NL RX5 18 0 := ⟨(RX0, TX0, 2), tyX0, cl_0, by decide +kernel, nlr_X5_18, (ac_T_of (List.mem_of_getElem? (i := 227) (by decide +kernel)) rfl), (ac_T_of (List.mem_of_getElem? (i := 110) (by decide +kernel)) rfl)⟩
theorem ml_X5_20 : ac_ML 2 RX5 20 0 yX0_init cX0_init 1 none 0 := ⟨⟨by decide +kernel, by decide +kernel, by decide +kernel⟩, by decide, (ac_T_of (List.mem_of_getElem? (i := 230) (by decide +kernel)) rfl), (ac_T_of (List.mem_of_getElem? (i := 110) (by decide +kernel)) rfl), Or.inr ⟨"AvoidColours", (List.mem_of_getElem? (i := 228) (by decide +kernel))⟩, ⟨(ac_T_of (List.mem_of_getElem? (i := 229) (by decide +kernel)) rfl), rfl, rfl⟩⟩
theorem ml_X0_3 : Cond.methodLink RX0 3 Lib.objectInit ∈ ac_T := (ac_T_of (List.mem_of_getElem? (i := 231) (by decide +kernel)) rfl)
theorem nlr_X0_15 : Cond.classLink RX0 15 RX3 ∈ ac_T := (ac_T_of (List.mem_of_getElem? (i := 232) (by decide +kernel)) rfl)
theorem nl_X0_15 : ac_NL RX0 15 3 := ⟨(RX3, TX3, 7), tyX3, cl_3, by decide +kernel, nlr_X0_15, (ac_T_of (List.mem_of_getElem? (i := 143) (by decide +kernel)) rfl), (ac_T_of (List.mem_of_getElem? (i := 106) (by decide +kernel)) rfl)⟩
theorem ml_X0_17 : ac_ML 2 RX0 17 3 yX3_init cX3_init 1 none 0 := ⟨⟨by decide +kernel, by decide +kernel, by decide +kernel⟩, by decide, (ac_T_of (List.mem_of_getElem? (i := 146) (by decide +kernel)) rfl), (ac_T_of (List.mem_of_getElem? (i := 106) (by decide +kernel)) rfl), Or.inr ⟨"AvoidColours", (List.mem_of_getElem? (i := 233) (by decide +kernel))⟩, ⟨(ac_T_of (List.mem_of_getElem? (i := 145) (by decide +kernel)) rfl), rfl, rfl⟩⟩
theorem fl_X0_11 : ac_FL true RX0 11 0 0 := ⟨(RX0, TX0, 2), tyX0, cl_0, (show 0 < 2 by decide), rfl, rfl, Or.inl ⟨(ac_T_of (List.mem_of_getElem? (i := 234) (by decide +kernel)) rfl), rfl⟩⟩
theorem fl_X0_18 : ac_FL true RX0 18 0 1 := ⟨(RX0, TX0, 2), tyX0, cl_0, (show 1 < 2 by decide), rfl, rfl, Or.inl ⟨(ac_T_of (List.mem_of_getElem? (i := 235) (by decide +kernel)) rfl), rfl⟩⟩
theorem nlr_X5_25 : Cond.classLink RX5 25 RX3 ∈ ac_T := (ac_T_of (List.mem_of_getElem? (i := 241) (by decide +kernel)) rfl)
theorem nl_X5_25 : ac_NL RX5 25 3 := ⟨(RX3, TX3, 7), tyX3, cl_3, by decide +kernel, nlr_X5_25, (ac_T_of (List.mem_of_getElem? (i := 143) (by decide +kernel)) rfl), (ac_T_of (List.mem_of_getElem? (i := 106) (by decide +kernel)) rfl)⟩
theorem ml_X5_27 : ac_ML 2 RX5 27 3 yX3_init cX3_init 1 none 0 := ⟨⟨by decide +kernel, by decide +kernel, by decide +kernel⟩, by decide, (ac_T_of (List.mem_of_getElem? (i := 146) (by decide +kernel)) rfl), (ac_T_of (List.mem_of_getElem? (i := 106) (by decide +kernel)) rfl), Or.inr ⟨"AvoidColours", (List.mem_of_getElem? (i := 242) (by decide +kernel))⟩, ⟨(ac_T_of (List.mem_of_getElem? (i := 145) (by decide +kernel)) rfl), rfl, rfl⟩⟩
theorem fl_X5_12 : ac_FL true RX5 12 5 0 := ⟨(RX5, TX5, 15), tyX5, cl_5, (show 0 < 15 by decide), rfl, rfl, Or.inl ⟨(ac_T_of (List.mem_of_getElem? (i := 243) (by decide +kernel)) rfl), rfl⟩⟩
theorem fl_X6_226 : ac_FL false RX6 226 5 0 := ⟨(RX5, TX5, 15), tyX5, cl_5, (show 0 < 15 by decide), rfl, rfl, Or.inr ⟨rfl, "AvoidColours", (List.mem_of_getElem? (i := 244) (by decide +kernel))⟩⟩
theorem fl_X5_21 : ac_FL true RX5 21 5 1 := ⟨(RX5, TX5, 15), tyX5, cl_5, (show 1 < 15 by decide), rfl, rfl, Or.inl ⟨(ac_T_of (List.mem_of_getElem? (i := 245) (by decide +kernel)) rfl), rfl⟩⟩
theorem fl_X6_205 : ac_FL false RX6 205 5 1 := ⟨(RX5, TX5, 15), tyX5, cl_5, (show 1 < 15 by decide), rfl, rfl, Or.inr ⟨rfl, "AvoidColours", (List.mem_of_getElem? (i := 246) (by decide +kernel))⟩⟩
theorem fl_X5_28 : ac_FL true RX5 28 5 2 := ⟨(RX5, TX5, 15), tyX5, cl_5, (show 2 < 15 by decide), rfl, rfl, Or.inl ⟨(ac_T_of (List.mem_of_getElem? (i := 247) (by decide +kernel)) rfl), rfl⟩⟩
theorem fl_X5_32 : ac_FL true RX5 32 5 3 := ⟨(RX5, TX5, 15), tyX5, cl_5, (show 3 < 15 by decide), rfl, rfl, Or.inl ⟨(ac_T_of (List.mem_of_getElem? (i := 248) (by decide +kernel)) rfl), rfl⟩⟩
theorem fl_X5_36 : ac_FL true RX5 36 5 4 := ⟨(RX5, TX5, 15), tyX5, cl_5, (show 4 < 15 by decide), rfl, rfl, Or.inl ⟨(ac_T_of (List.mem_of_getElem? (i := 249) (by decide +kernel)) rfl), rfl⟩⟩
theorem fl_X6_129 : ac_FL false RX6 129 5 4 := ⟨(RX5, TX5, 15), tyX5, cl_5, (show 4 < 15 by decide), rfl, rfl, Or.inr ⟨rfl, "AvoidColours", (List.mem_of_getElem? (i := 250) (by decide +kernel))⟩⟩
theorem fl_X5_39 : ac_FL true RX5 39 5 5 := ⟨(RX5, TX5, 15), tyX5, cl_5, (show 5 < 15 by decide), rfl, rfl, Or.inl ⟨(ac_T_of (List.mem_of_getElem? (i := 251) (by decide +kernel)) rfl), rfl⟩⟩
theorem fl_X5_42 : ac_FL true RX5 42 5 6 := ⟨(RX5, TX5, 15), tyX5, cl_5, (show 6 < 15 by decide), rfl, rfl, Or.inl ⟨(ac_T_of (List.mem_of_getElem? (i := 252) (by decide +kernel)) rfl), rfl⟩⟩
theorem fl_X5_61 : ac_FL true RX5 61 5 7 := ⟨(RX5, TX5, 15), tyX5, cl_5, (show 7 < 15 by decide), rfl, rfl, Or.inl ⟨(ac_T_of (List.mem_of_getElem? (i := 253) (by decide +kernel)) rfl), rfl⟩⟩
theorem fl_X5_65 : ac_FL true RX5 65 5 8 := ⟨(RX5, TX5, 15), tyX5, cl_5, (show 8 < 15 by decide), rfl, rfl, Or.inl ⟨(ac_T_of (List.mem_of_getElem? (i := 254) (by decide +kernel)) rfl), rfl⟩⟩
theorem fl_X6_123 : ac_FL false RX6 123 5 8 := ⟨(RX5, TX5, 15), tyX5, cl_5, (show 8 < 15 by decide), rfl, rfl, Or.inr ⟨rfl, "AvoidColours", (List.mem_of_getElem? (i := 255) (by decide +kernel))⟩⟩
theorem fl_X5_68 : ac_FL true RX5 68 5 9 := ⟨(RX5, TX5, 15), tyX5, cl_5, (show 9 < 15 by decide), rfl, rfl, Or.inl ⟨(ac_T_of (List.mem_of_getElem? (i := 256) (by decide +kernel)) rfl), rfl⟩⟩
theorem fl_X6_151 : ac_FL false RX6 151 5 9 := ⟨(RX5, TX5, 15), tyX5, cl_5, (show 9 < 15 by decide), rfl, rfl, Or.inr ⟨rfl, "AvoidColours", (List.mem_of_getElem? (i := 257) (by decide +kernel))⟩⟩
theorem fl_X5_71 : ac_FL true RX5 71 5 10 := ⟨(RX5, TX5, 15), tyX5, cl_5, (show 10 < 15 by decide), rfl, rfl, Or.inl ⟨(ac_T_of (List.mem_of_getElem? (i := 258) (by decide +kernel)) rfl), rfl⟩⟩
theorem fl_X6_196 : ac_FL false RX6 196 5 10 := ⟨(RX5, TX5, 15), tyX5, cl_5, (show 10 < 15 by decide), rfl, rfl, Or.inr ⟨rfl, "AvoidColours", (List.mem_of_getElem? (i := 259) (by decide +kernel))⟩⟩
theorem fl_X5_74 : ac_FL true RX5 74 5 11 := ⟨(RX5, TX5, 15), tyX5, cl_5, (show 11 < 15 by decide), rfl, rfl, Or.inl ⟨(ac_T_of (List.mem_of_getElem? (i := 260) (by decide +kernel)) rfl), rfl⟩⟩
theorem fl_X6_286 : ac_FL false RX6 286 5 11 := ⟨(RX5, TX5, 15), tyX5, cl_5, (show 11 < 15 by decide), rfl, rfl, Or.inr ⟨rfl, "AvoidColours", (List.mem_of_getElem? (i := 261) (by decide +kernel))⟩⟩
theorem fl_X5_77 : ac_FL true RX5 77 5 12 := ⟨(RX5, TX5, 15), tyX5, cl_5, (show 12 < 15 by decide), rfl, rfl, Or.inl ⟨(ac_T_of (List.mem_of_getElem? (i := 262) (by decide +kernel)) rfl), rfl⟩⟩
theorem fl_X6_237 : ac_FL false RX6 237 5 12 := ⟨(RX5, TX5, 15), tyX5, cl_5, (show 12 < 15 by decide), rfl, rfl, Or.inr ⟨rfl, "AvoidColours", (List.mem_of_getElem? (i := 263) (by decide +kernel))⟩⟩
theorem fl_X5_80 : ac_FL true RX5 80 5 13 := ⟨(RX5, TX5, 15), tyX5, cl_5, (show 13 < 15 by decide), rfl, rfl, Or.inl ⟨(ac_T_of (List.mem_of_getElem? (i := 264) (by decide +kernel)) rfl), rfl⟩⟩
theorem fl_X6_240 : ac_FL false RX6 240 5 13 := ⟨(RX5, TX5, 15), tyX5, cl_5, (show 13 < 15 by decide), rfl, rfl, Or.inr ⟨rfl, "AvoidColours", (List.mem_of_getElem? (i := 265) (by decide +kernel))⟩⟩
theorem fl_X5_148 : ac_FL true RX5 148 5 14 := ⟨(RX5, TX5, 15), tyX5, cl_5, (show 14 < 15 by decide), rfl, rfl, Or.inl ⟨(ac_T_of (List.mem_of_getElem? (i := 266) (by decide +kernel)) rfl), rfl⟩⟩
theorem ml_X6_50 : ac_ML 1 RX6 50 3 yX3_start cX3_start 3 none 2 := ⟨⟨by decide +kernel, by decide +kernel, by decide +kernel⟩, by decide, (ac_T_of (List.mem_of_getElem? (i := 301) (by decide +kernel)) rfl), (ac_T_of (List.mem_of_getElem? (i := 106) (by decide +kernel)) rfl), Or.inr ⟨"AvoidColours", (List.mem_of_getElem? (i := 298) (by decide +kernel))⟩, ⟨(ac_T_of (List.mem_of_getElem? (i := 300) (by decide +kernel)) rfl), (ac_T_of (List.mem_of_getElem? (i := 0) (by decide +kernel)) rfl), (RX3, TX3, 7), rfl, rfl⟩⟩
theorem ml_X3_35 : ac_ML 1 RX3 35 3 yX3_unpin cX3_unpin 1 none 0 := ⟨⟨by decide +kernel, by decide +kernel, by decide +kernel⟩, by decide, (ac_T_of (List.mem_of_getElem? (i := 305) (by decide +kernel)) rfl), (ac_T_of (List.mem_of_getElem? (i := 106) (by decide +kernel)) rfl), Or.inl (ac_T_of (List.mem_of_getElem? (i := 302) (by decide +kernel)) rfl), ⟨(ac_T_of (List.mem_of_getElem? (i := 304) (by decide +kernel)) rfl), (ac_T_of (List.mem_of_getElem? (i := 1) (by decide +kernel)) rfl), (RX3, TX3, 7), rfl, rfl⟩⟩
theorem ml_X3_38 : ac_ML 0 RX3 38 0 yJ7_fill_53178 cJ7_fill_53178 4 none 2 := ⟨⟨by decide +kernel, by decide +kernel, by decide +kernel⟩, by decide, (ac_T_of (List.mem_of_getElem? (i := 308) (by decide +kernel)) rfl), (ac_T_of (List.mem_of_getElem? (i := 111) (by decide +kernel)) rfl), Or.inl (ac_T_of (List.mem_of_getElem? (i := 306) (by decide +kernel)) rfl), (ac_T_of (List.mem_of_getElem? (i := 307) (by decide +kernel)) rfl)⟩
theorem ml_X6_54 : ac_ML 1 RX6 54 6 yX6_settle cX6_settle 2 (some .int) 1 := ⟨⟨by decide +kernel, by decide +kernel, by decide +kernel⟩, by decide, (ac_T_of (List.mem_of_getElem? (i := 312) (by decide +kernel)) rfl), (ac_T_of (List.mem_of_getElem? (i := 104) (by decide +kernel)) rfl), Or.inl (ac_T_of (List.mem_of_getElem? (i := 309) (by decide +kernel)) rfl), ⟨(ac_T_of (List.mem_of_getElem? (i := 311) (by decide +kernel)) rfl), (ac_T_of (List.mem_of_getElem? (i := 2) (by decide +kernel)) rfl), (RX6, TX6, 9), rfl, rfl⟩⟩
theorem ml_X6_113 : ac_ML 1 RX6 113 5 yX5_survey cX5_survey 3 none 2 := ⟨⟨by decide +kernel, by decide +kernel, by decide +kernel⟩, by decide, (ac_T_of (List.mem_of_getElem? (i := 316) (by decide +kernel)) rfl), (ac_T_of (List.mem_of_getElem? (i := 108) (by decide +kernel)) rfl), Or.inr ⟨"AvoidColours", (List.mem_of_getElem? (i := 313) (by decide +kernel))⟩, ⟨(ac_T_of (List.mem_of_getElem? (i := 315) (by decide +kernel)) rfl), (ac_T_of (List.mem_of_getElem? (i := 3) (by decide +kernel)) rfl), (RX5, TX5, 15), rfl, rfl⟩⟩
theorem ml_X5_58 : ac_ML 1 RX5 58 5 yX5_begin cX5_begin 2 none 1 := ⟨⟨by decide +kernel, by decide +kernel, by decide +kernel⟩, by decide, (ac_T_of (List.mem_of_getElem? (i := 320) (by decide +kernel)) rfl), (ac_T_of (List.mem_of_getElem? (i := 108) (by decide +kernel)) rfl), Or.inl (ac_T_of (List.mem_of_getElem? (i := 317) (by decide +kernel)) rfl), ⟨(ac_T_of (List.mem_of_getElem? (i := 319) (by decide +kernel)) rfl), (ac_T_of (List.mem_of_getElem? (i := 4) (by decide +kernel)) rfl), (RX5, TX5, 15), rfl, rfl⟩⟩
theorem ml_X5_45 : ac_ML 1 RX5 45 3 yX3_copy cX3_copy 2 none 1 := ⟨⟨by decide +kernel, by decide +kernel, by decide +kernel⟩, by decide, (ac_T_of (List.mem_of_getElem? (i := 324) (by decide +kernel)) rfl), (ac_T_of (List.mem_of_getElem? (i := 106) (by decide +kernel)) rfl), Or.inr ⟨"AvoidColours", (List.mem_of_getElem? (i := 321) (by decide +kernel))⟩, ⟨(ac_T_of (List.mem_of_getElem? (i := 323) (by decide +kernel)) rfl), (ac_T_of (List.mem_of_getElem? (i := 5) (by decide +kernel)) rfl), (RX3, TX3, 7), rfl, rfl⟩⟩
theorem ml_X3_44 : Cond.methodLink RX3 44 arraycopyName ∈ ac_T := (ac_T_of (List.mem_of_getElem? (i := 325) (by decide +kernel)) rfl)
theorem ml_X5_49 : ac_ML 1 RX5 49 0 yX0_fit cX0_fit 6 none 1 := ⟨⟨by decide +kernel, by decide +kernel, by decide +kernel⟩, by decide, (ac_T_of (List.mem_of_getElem? (i := 331) (by decide +kernel)) rfl), (ac_T_of (List.mem_of_getElem? (i := 110) (by decide +kernel)) rfl), Or.inr ⟨"AvoidColours", (List.mem_of_getElem? (i := 328) (by decide +kernel))⟩, ⟨(ac_T_of (List.mem_of_getElem? (i := 330) (by decide +kernel)) rfl), (ac_T_of (List.mem_of_getElem? (i := 6) (by decide +kernel)) rfl), (RX0, TX0, 2), rfl, rfl⟩⟩
theorem ml_X0_22 : ac_ML 1 RX0 22 0 yX0_sameEquations cX0_sameEquations 4 (some .boolean) 1 := ⟨⟨by decide +kernel, by decide +kernel, by decide +kernel⟩, by decide, (ac_T_of (List.mem_of_getElem? (i := 335) (by decide +kernel)) rfl), (ac_T_of (List.mem_of_getElem? (i := 110) (by decide +kernel)) rfl), Or.inl (ac_T_of (List.mem_of_getElem? (i := 332) (by decide +kernel)) rfl), ⟨(ac_T_of (List.mem_of_getElem? (i := 334) (by decide +kernel)) rfl), (ac_T_of (List.mem_of_getElem? (i := 7) (by decide +kernel)) rfl), (RX0, TX0, 2), rfl, rfl⟩⟩
theorem ml_X0_26 : ac_ML 1 RX0 26 3 yX3_copy cX3_copy 2 none 1 := ⟨⟨by decide +kernel, by decide +kernel, by decide +kernel⟩, by decide, (ac_T_of (List.mem_of_getElem? (i := 324) (by decide +kernel)) rfl), (ac_T_of (List.mem_of_getElem? (i := 106) (by decide +kernel)) rfl), Or.inr ⟨"AvoidColours", (List.mem_of_getElem? (i := 336) (by decide +kernel))⟩, ⟨(ac_T_of (List.mem_of_getElem? (i := 323) (by decide +kernel)) rfl), (ac_T_of (List.mem_of_getElem? (i := 5) (by decide +kernel)) rfl), (RX3, TX3, 7), rfl, rfl⟩⟩
theorem ml_X0_30 : ac_ML 0 RX0 30 0 yJ7_fill_53178 cJ7_fill_53178 4 none 2 := ⟨⟨by decide +kernel, by decide +kernel, by decide +kernel⟩, by decide, (ac_T_of (List.mem_of_getElem? (i := 308) (by decide +kernel)) rfl), (ac_T_of (List.mem_of_getElem? (i := 111) (by decide +kernel)) rfl), Or.inl (ac_T_of (List.mem_of_getElem? (i := 337) (by decide +kernel)) rfl), (ac_T_of (List.mem_of_getElem? (i := 307) (by decide +kernel)) rfl)⟩
theorem ml_X0_40 : ac_ML 1 RX0 40 3 yX3_third cX3_third 10 (some .int) 4 := ⟨⟨by decide +kernel, by decide +kernel, by decide +kernel⟩, by decide, (ac_T_of (List.mem_of_getElem? (i := 341) (by decide +kernel)) rfl), (ac_T_of (List.mem_of_getElem? (i := 106) (by decide +kernel)) rfl), Or.inr ⟨"AvoidColours", (List.mem_of_getElem? (i := 338) (by decide +kernel))⟩, ⟨(ac_T_of (List.mem_of_getElem? (i := 340) (by decide +kernel)) rfl), (ac_T_of (List.mem_of_getElem? (i := 8) (by decide +kernel)) rfl), (RX3, TX3, 7), rfl, rfl⟩⟩
theorem ml_X0_44 : ac_ML 1 RX0 44 0 yX0_spread cX0_spread 3 none 0 := ⟨⟨by decide +kernel, by decide +kernel, by decide +kernel⟩, by decide, (ac_T_of (List.mem_of_getElem? (i := 345) (by decide +kernel)) rfl), (ac_T_of (List.mem_of_getElem? (i := 110) (by decide +kernel)) rfl), Or.inl (ac_T_of (List.mem_of_getElem? (i := 342) (by decide +kernel)) rfl), ⟨(ac_T_of (List.mem_of_getElem? (i := 344) (by decide +kernel)) rfl), (ac_T_of (List.mem_of_getElem? (i := 9) (by decide +kernel)) rfl), (RX0, TX0, 2), rfl, rfl⟩⟩
theorem ml_X5_52 : ac_ML 0 RX5 52 0 yJ7_fill_53178 cJ7_fill_53178 4 none 2 := ⟨⟨by decide +kernel, by decide +kernel, by decide +kernel⟩, by decide, (ac_T_of (List.mem_of_getElem? (i := 308) (by decide +kernel)) rfl), (ac_T_of (List.mem_of_getElem? (i := 111) (by decide +kernel)) rfl), Or.inl (ac_T_of (List.mem_of_getElem? (i := 346) (by decide +kernel)) rfl), (ac_T_of (List.mem_of_getElem? (i := 307) (by decide +kernel)) rfl)⟩
theorem ml_X5_83 : ac_ML 0 RX5 83 5 yX5_extend cX5_extend 5 none 2 := ⟨⟨by decide +kernel, by decide +kernel, by decide +kernel⟩, by decide, (ac_T_of (List.mem_of_getElem? (i := 349) (by decide +kernel)) rfl), (ac_T_of (List.mem_of_getElem? (i := 108) (by decide +kernel)) rfl), Or.inl (ac_T_of (List.mem_of_getElem? (i := 347) (by decide +kernel)) rfl), (ac_T_of (List.mem_of_getElem? (i := 348) (by decide +kernel)) rfl)⟩
theorem ml_X5_87 : Cond.methodLink RX5 87 Lib.Math.max.name ∈ ac_T := (ac_T_of (List.mem_of_getElem? (i := 350) (by decide +kernel)) rfl)
theorem ml_X5_93 : ac_ML 1 RX5 93 3 yX3_has cX3_has 2 (some .boolean) 1 := ⟨⟨by decide +kernel, by decide +kernel, by decide +kernel⟩, by decide, (ac_T_of (List.mem_of_getElem? (i := 356) (by decide +kernel)) rfl), (ac_T_of (List.mem_of_getElem? (i := 106) (by decide +kernel)) rfl), Or.inr ⟨"AvoidColours", (List.mem_of_getElem? (i := 353) (by decide +kernel))⟩, ⟨(ac_T_of (List.mem_of_getElem? (i := 355) (by decide +kernel)) rfl), (ac_T_of (List.mem_of_getElem? (i := 10) (by decide +kernel)) rfl), (RX3, TX3, 7), rfl, rfl⟩⟩
theorem ml_X5_97 : ac_ML 1 RX5 97 5 yX5_arrive cX5_arrive 1 none 0 := ⟨⟨by decide +kernel, by decide +kernel, by decide +kernel⟩, by decide, (ac_T_of (List.mem_of_getElem? (i := 360) (by decide +kernel)) rfl), (ac_T_of (List.mem_of_getElem? (i := 108) (by decide +kernel)) rfl), Or.inl (ac_T_of (List.mem_of_getElem? (i := 357) (by decide +kernel)) rfl), ⟨(ac_T_of (List.mem_of_getElem? (i := 359) (by decide +kernel)) rfl), (ac_T_of (List.mem_of_getElem? (i := 11) (by decide +kernel)) rfl), (RX5, TX5, 15), rfl, rfl⟩⟩
theorem ml_X5_112 : Cond.methodLink RX5 112 arraycopyName ∈ ac_T := (ac_T_of (List.mem_of_getElem? (i := 361) (by decide +kernel)) rfl)
theorem ml_X5_122 : ac_ML 1 RX5 122 3 yX3_hasClasses cX3_hasClasses 3 (some .boolean) 1 := ⟨⟨by decide +kernel, by decide +kernel, by decide +kernel⟩, by decide, (ac_T_of (List.mem_of_getElem? (i := 365) (by decide +kernel)) rfl), (ac_T_of (List.mem_of_getElem? (i := 106) (by decide +kernel)) rfl), Or.inr ⟨"AvoidColours", (List.mem_of_getElem? (i := 362) (by decide +kernel))⟩, ⟨(ac_T_of (List.mem_of_getElem? (i := 364) (by decide +kernel)) rfl), (ac_T_of (List.mem_of_getElem? (i := 12) (by decide +kernel)) rfl), (RX3, TX3, 7), rfl, rfl⟩⟩
theorem ml_X5_129 : ac_ML 1 RX5 129 2 yX2_agree cX2_agree 10 (some .boolean) 2 := ⟨⟨by decide +kernel, by decide +kernel, by decide +kernel⟩, by decide, (ac_T_of (List.mem_of_getElem? (i := 369) (by decide +kernel)) rfl), (ac_T_of (List.mem_of_getElem? (i := 109) (by decide +kernel)) rfl), Or.inr ⟨"AvoidColours", (List.mem_of_getElem? (i := 366) (by decide +kernel))⟩, ⟨(ac_T_of (List.mem_of_getElem? (i := 368) (by decide +kernel)) rfl), (ac_T_of (List.mem_of_getElem? (i := 13) (by decide +kernel)) rfl), (RX2, TX2, 3), rfl, rfl⟩⟩
theorem ml_X5_100 : ac_ML 1 RX5 100 5 yX5_put cX5_put 4 (some .boolean) 2 := ⟨⟨by decide +kernel, by decide +kernel, by decide +kernel⟩, by decide, (ac_T_of (List.mem_of_getElem? (i := 373) (by decide +kernel)) rfl), (ac_T_of (List.mem_of_getElem? (i := 108) (by decide +kernel)) rfl), Or.inl (ac_T_of (List.mem_of_getElem? (i := 370) (by decide +kernel)) rfl), ⟨(ac_T_of (List.mem_of_getElem? (i := 372) (by decide +kernel)) rfl), (ac_T_of (List.mem_of_getElem? (i := 14) (by decide +kernel)) rfl), (RX5, TX5, 15), rfl, rfl⟩⟩
theorem ml_X5_133 : ac_ML 1 RX5 133 3 yX3_allows cX3_allows 4 (some .boolean) 2 := ⟨⟨by decide +kernel, by decide +kernel, by decide +kernel⟩, by decide, (ac_T_of (List.mem_of_getElem? (i := 377) (by decide +kernel)) rfl), (ac_T_of (List.mem_of_getElem? (i := 106) (by decide +kernel)) rfl), Or.inr ⟨"AvoidColours", (List.mem_of_getElem? (i := 374) (by decide +kernel))⟩, ⟨(ac_T_of (List.mem_of_getElem? (i := 376) (by decide +kernel)) rfl), (ac_T_of (List.mem_of_getElem? (i := 15) (by decide +kernel)) rfl), (RX3, TX3, 7), rfl, rfl⟩⟩
theorem ml_X5_136 : ac_ML 1 RX5 136 0 yX0_in cX0_in 2 (some .int) 1 := ⟨⟨by decide +kernel, by decide +kernel, by decide +kernel⟩, by decide, (ac_T_of (List.mem_of_getElem? (i := 381) (by decide +kernel)) rfl), (ac_T_of (List.mem_of_getElem? (i := 110) (by decide +kernel)) rfl), Or.inr ⟨"AvoidColours", (List.mem_of_getElem? (i := 378) (by decide +kernel))⟩, ⟨(ac_T_of (List.mem_of_getElem? (i := 380) (by decide +kernel)) rfl), (ac_T_of (List.mem_of_getElem? (i := 16) (by decide +kernel)) rfl), (RX0, TX0, 2), rfl, rfl⟩⟩
theorem ml_X5_104 : ac_ML 1 RX5 104 5 yX5_lift cX5_lift 3 none 2 := ⟨⟨by decide +kernel, by decide +kernel, by decide +kernel⟩, by decide, (ac_T_of (List.mem_of_getElem? (i := 385) (by decide +kernel)) rfl), (ac_T_of (List.mem_of_getElem? (i := 108) (by decide +kernel)) rfl), Or.inl (ac_T_of (List.mem_of_getElem? (i := 382) (by decide +kernel)) rfl), ⟨(ac_T_of (List.mem_of_getElem? (i := 384) (by decide +kernel)) rfl), (ac_T_of (List.mem_of_getElem? (i := 17) (by decide +kernel)) rfl), (RX5, TX5, 15), rfl, rfl⟩⟩
theorem ml_X5_108 : ac_ML 1 RX5 108 5 yX5_allow cX5_allow 4 none 3 := ⟨⟨by decide +kernel, by decide +kernel, by decide +kernel⟩, by decide, (ac_T_of (List.mem_of_getElem? (i := 389) (by decide +kernel)) rfl), (ac_T_of (List.mem_of_getElem? (i := 108) (by decide +kernel)) rfl), Or.inl (ac_T_of (List.mem_of_getElem? (i := 386) (by decide +kernel)) rfl), ⟨(ac_T_of (List.mem_of_getElem? (i := 388) (by decide +kernel)) rfl), (ac_T_of (List.mem_of_getElem? (i := 18) (by decide +kernel)) rfl), (RX5, TX5, 15), rfl, rfl⟩⟩
theorem ml_X6_137 : ac_ML 1 RX6 137 3 yX3_recolour cX3_recolour 4 none 2 := ⟨⟨by decide +kernel, by decide +kernel, by decide +kernel⟩, by decide, (ac_T_of (List.mem_of_getElem? (i := 393) (by decide +kernel)) rfl), (ac_T_of (List.mem_of_getElem? (i := 106) (by decide +kernel)) rfl), Or.inr ⟨"AvoidColours", (List.mem_of_getElem? (i := 390) (by decide +kernel))⟩, ⟨(ac_T_of (List.mem_of_getElem? (i := 392) (by decide +kernel)) rfl), (ac_T_of (List.mem_of_getElem? (i := 19) (by decide +kernel)) rfl), (RX3, TX3, 7), rfl, rfl⟩⟩
theorem fl_X6_10 : ac_FL true RX6 10 6 0 := ⟨(RX6, TX6, 9), tyX6, cl_6, (show 0 < 9 by decide), rfl, rfl, Or.inl ⟨(ac_T_of (List.mem_of_getElem? (i := 394) (by decide +kernel)) rfl), rfl⟩⟩
theorem fl_X6_19 : ac_FL true RX6 19 6 1 := ⟨(RX6, TX6, 9), tyX6, cl_6, (show 1 < 9 by decide), rfl, rfl, Or.inl ⟨(ac_T_of (List.mem_of_getElem? (i := 395) (by decide +kernel)) rfl), rfl⟩⟩
theorem fl_X6_23 : ac_FL true RX6 23 6 2 := ⟨(RX6, TX6, 9), tyX6, cl_6, (show 2 < 9 by decide), rfl, rfl, Or.inl ⟨(ac_T_of (List.mem_of_getElem? (i := 396) (by decide +kernel)) rfl), rfl⟩⟩
theorem fl_X6_26 : ac_FL true RX6 26 6 3 := ⟨(RX6, TX6, 9), tyX6, cl_6, (show 3 < 9 by decide), rfl, rfl, Or.inl ⟨(ac_T_of (List.mem_of_getElem? (i := 397) (by decide +kernel)) rfl), rfl⟩⟩
theorem fl_X6_29 : ac_FL true RX6 29 6 4 := ⟨(RX6, TX6, 9), tyX6, cl_6, (show 4 < 9 by decide), rfl, rfl, Or.inl ⟨(ac_T_of (List.mem_of_getElem? (i := 398) (by decide +kernel)) rfl), rfl⟩⟩
theorem fl_X6_32 : ac_FL true RX6 32 6 5 := ⟨(RX6, TX6, 9), tyX6, cl_6, (show 5 < 9 by decide), rfl, rfl, Or.inl ⟨(ac_T_of (List.mem_of_getElem? (i := 399) (by decide +kernel)) rfl), rfl⟩⟩
theorem fl_X6_39 : ac_FL true RX6 39 6 6 := ⟨(RX6, TX6, 9), tyX6, cl_6, (show 6 < 9 by decide), rfl, rfl, Or.inl ⟨(ac_T_of (List.mem_of_getElem? (i := 400) (by decide +kernel)) rfl), rfl⟩⟩
theorem fl_X6_46 : ac_FL true RX6 46 6 7 := ⟨(RX6, TX6, 9), tyX6, cl_6, (show 7 < 9 by decide), rfl, rfl, Or.inl ⟨(ac_T_of (List.mem_of_getElem? (i := 401) (by decide +kernel)) rfl), rfl⟩⟩
theorem fl_X6_266 : ac_FL true RX6 266 6 8 := ⟨(RX6, TX6, 9), tyX6, cl_6, (show 8 < 9 by decide), rfl, rfl, Or.inl ⟨(ac_T_of (List.mem_of_getElem? (i := 402) (by decide +kernel)) rfl), rfl⟩⟩
theorem ml_L_13 : ac_ML 1 RL 13 6 yX6_write cX6_write 2 (some .int) 1 := ⟨⟨by decide +kernel, by decide +kernel, by decide +kernel⟩, by decide, (ac_T_of (List.mem_of_getElem? (i := 425) (by decide +kernel)) rfl), (ac_T_of (List.mem_of_getElem? (i := 104) (by decide +kernel)) rfl), Or.inl (ac_T_of (List.mem_of_getElem? (i := 422) (by decide +kernel)) rfl), ⟨(ac_T_of (List.mem_of_getElem? (i := 423) (by decide +kernel)) rfl), (ac_T_of (List.mem_of_getElem? (i := 424) (by decide +kernel)) rfl), (RX6, TX6, 9), rfl, rfl⟩⟩
theorem ml_X6_58 : ac_ML 1 RX6 58 4 yX4_append cX4_append 2 (some .boolean) 1 := ⟨⟨by decide +kernel, by decide +kernel, by decide +kernel⟩, by decide, (ac_T_of (List.mem_of_getElem? (i := 429) (by decide +kernel)) rfl), (ac_T_of (List.mem_of_getElem? (i := 105) (by decide +kernel)) rfl), Or.inr ⟨"AvoidColours", (List.mem_of_getElem? (i := 426) (by decide +kernel))⟩, ⟨(ac_T_of (List.mem_of_getElem? (i := 428) (by decide +kernel)) rfl), (ac_T_of (List.mem_of_getElem? (i := 20) (by decide +kernel)) rfl), (RX4, TX4, 3), rfl, rfl⟩⟩
theorem ml_L_18 : ac_ML 1 RL 18 6 yX6_wipe cX6_wipe 2 (some .int) 0 := ⟨⟨by decide +kernel, by decide +kernel, by decide +kernel⟩, by decide, (ac_T_of (List.mem_of_getElem? (i := 433) (by decide +kernel)) rfl), (ac_T_of (List.mem_of_getElem? (i := 104) (by decide +kernel)) rfl), Or.inl (ac_T_of (List.mem_of_getElem? (i := 430) (by decide +kernel)) rfl), ⟨(ac_T_of (List.mem_of_getElem? (i := 431) (by decide +kernel)) rfl), (ac_T_of (List.mem_of_getElem? (i := 432) (by decide +kernel)) rfl), (RX6, TX6, 9), rfl, rfl⟩⟩
theorem ml_L_23 : ac_ML 1 RL 23 6 yX6_fault cX6_fault 1 (some .int) 0 := ⟨⟨by decide +kernel, by decide +kernel, by decide +kernel⟩, by decide, (ac_T_of (List.mem_of_getElem? (i := 437) (by decide +kernel)) rfl), (ac_T_of (List.mem_of_getElem? (i := 104) (by decide +kernel)) rfl), Or.inl (ac_T_of (List.mem_of_getElem? (i := 434) (by decide +kernel)) rfl), ⟨(ac_T_of (List.mem_of_getElem? (i := 435) (by decide +kernel)) rfl), (ac_T_of (List.mem_of_getElem? (i := 436) (by decide +kernel)) rfl), (RX6, TX6, 9), rfl, rfl⟩⟩
theorem ml_X6_66 : ac_ML 1 RX6 66 4 yX4_read cX4_read 3 (some .int) 1 := ⟨⟨by decide +kernel, by decide +kernel, by decide +kernel⟩, by decide, (ac_T_of (List.mem_of_getElem? (i := 441) (by decide +kernel)) rfl), (ac_T_of (List.mem_of_getElem? (i := 105) (by decide +kernel)) rfl), Or.inr ⟨"AvoidColours", (List.mem_of_getElem? (i := 438) (by decide +kernel))⟩, ⟨(ac_T_of (List.mem_of_getElem? (i := 440) (by decide +kernel)) rfl), (ac_T_of (List.mem_of_getElem? (i := 21) (by decide +kernel)) rfl), (RX4, TX4, 3), rfl, rfl⟩⟩
theorem ml_X4_22 : ac_ML 1 RX4 22 4 yX4_readHead cX4_readHead 5 (some .boolean) 1 := ⟨⟨by decide +kernel, by decide +kernel, by decide +kernel⟩, by decide, (ac_T_of (List.mem_of_getElem? (i := 445) (by decide +kernel)) rfl), (ac_T_of (List.mem_of_getElem? (i := 105) (by decide +kernel)) rfl), Or.inl (ac_T_of (List.mem_of_getElem? (i := 442) (by decide +kernel)) rfl), ⟨(ac_T_of (List.mem_of_getElem? (i := 444) (by decide +kernel)) rfl), (ac_T_of (List.mem_of_getElem? (i := 22) (by decide +kernel)) rfl), (RX4, TX4, 3), rfl, rfl⟩⟩
theorem ml_X4_34 : ac_ML 1 RX4 34 4 yX4_accept cX4_accept 4 (some .int) 2 := ⟨⟨by decide +kernel, by decide +kernel, by decide +kernel⟩, by decide, (ac_T_of (List.mem_of_getElem? (i := 449) (by decide +kernel)) rfl), (ac_T_of (List.mem_of_getElem? (i := 105) (by decide +kernel)) rfl), Or.inl (ac_T_of (List.mem_of_getElem? (i := 446) (by decide +kernel)) rfl), ⟨(ac_T_of (List.mem_of_getElem? (i := 448) (by decide +kernel)) rfl), (ac_T_of (List.mem_of_getElem? (i := 23) (by decide +kernel)) rfl), (RX4, TX4, 3), rfl, rfl⟩⟩
theorem ml_X4_51 : ac_ML 1 RX4 51 3 yX3_start cX3_start 3 none 2 := ⟨⟨by decide +kernel, by decide +kernel, by decide +kernel⟩, by decide, (ac_T_of (List.mem_of_getElem? (i := 301) (by decide +kernel)) rfl), (ac_T_of (List.mem_of_getElem? (i := 106) (by decide +kernel)) rfl), Or.inr ⟨"AvoidColours", (List.mem_of_getElem? (i := 450) (by decide +kernel))⟩, ⟨(ac_T_of (List.mem_of_getElem? (i := 300) (by decide +kernel)) rfl), (ac_T_of (List.mem_of_getElem? (i := 0) (by decide +kernel)) rfl), (RX3, TX3, 7), rfl, rfl⟩⟩
theorem ml_X4_26 : ac_ML 1 RX4 26 4 yX4_readPart cX4_readPart 2 (some .boolean) 1 := ⟨⟨by decide +kernel, by decide +kernel, by decide +kernel⟩, by decide, (ac_T_of (List.mem_of_getElem? (i := 454) (by decide +kernel)) rfl), (ac_T_of (List.mem_of_getElem? (i := 105) (by decide +kernel)) rfl), Or.inl (ac_T_of (List.mem_of_getElem? (i := 451) (by decide +kernel)) rfl), ⟨(ac_T_of (List.mem_of_getElem? (i := 453) (by decide +kernel)) rfl), (ac_T_of (List.mem_of_getElem? (i := 24) (by decide +kernel)) rfl), (RX4, TX4, 3), rfl, rfl⟩⟩
theorem ml_X4_38 : ac_ML 1 RX4 38 4 yX4_readEquation cX4_readEquation 6 (some .boolean) 1 := ⟨⟨by decide +kernel, by decide +kernel, by decide +kernel⟩, by decide, (ac_T_of (List.mem_of_getElem? (i := 458) (by decide +kernel)) rfl), (ac_T_of (List.mem_of_getElem? (i := 105) (by decide +kernel)) rfl), Or.inl (ac_T_of (List.mem_of_getElem? (i := 455) (by decide +kernel)) rfl), ⟨(ac_T_of (List.mem_of_getElem? (i := 457) (by decide +kernel)) rfl), (ac_T_of (List.mem_of_getElem? (i := 25) (by decide +kernel)) rfl), (RX4, TX4, 3), rfl, rfl⟩⟩
theorem ml_X4_55 : ac_ML 1 RX4 55 4 yX4_readFactor cX4_readFactor 3 (some .int) 0 := ⟨⟨by decide +kernel, by decide +kernel, by decide +kernel⟩, by decide, (ac_T_of (List.mem_of_getElem? (i := 462) (by decide +kernel)) rfl), (ac_T_of (List.mem_of_getElem? (i := 105) (by decide +kernel)) rfl), Or.inl (ac_T_of (List.mem_of_getElem? (i := 459) (by decide +kernel)) rfl), ⟨(ac_T_of (List.mem_of_getElem? (i := 461) (by decide +kernel)) rfl), (ac_T_of (List.mem_of_getElem? (i := 26) (by decide +kernel)) rfl), (RX4, TX4, 3), rfl, rfl⟩⟩
theorem ml_X4_58 : ac_ML 1 RX4 58 3 yX3_append cX3_append 6 none 4 := ⟨⟨by decide +kernel, by decide +kernel, by decide +kernel⟩, by decide, (ac_T_of (List.mem_of_getElem? (i := 466) (by decide +kernel)) rfl), (ac_T_of (List.mem_of_getElem? (i := 106) (by decide +kernel)) rfl), Or.inr ⟨"AvoidColours", (List.mem_of_getElem? (i := 463) (by decide +kernel))⟩, ⟨(ac_T_of (List.mem_of_getElem? (i := 465) (by decide +kernel)) rfl), (ac_T_of (List.mem_of_getElem? (i := 27) (by decide +kernel)) rfl), (RX3, TX3, 7), rfl, rfl⟩⟩
theorem ml_X4_41 : ac_ML 1 RX4 41 3 yX3_pinned cX3_pinned 3 (some .int) 0 := ⟨⟨by decide +kernel, by decide +kernel, by decide +kernel⟩, by decide, (ac_T_of (List.mem_of_getElem? (i := 470) (by decide +kernel)) rfl), (ac_T_of (List.mem_of_getElem? (i := 106) (by decide +kernel)) rfl), Or.inr ⟨"AvoidColours", (List.mem_of_getElem? (i := 467) (by decide +kernel))⟩, ⟨(ac_T_of (List.mem_of_getElem? (i := 469) (by decide +kernel)) rfl), (ac_T_of (List.mem_of_getElem? (i := 28) (by decide +kernel)) rfl), (RX3, TX3, 7), rfl, rfl⟩⟩
theorem ml_X3_68 : ac_ML 1 RX3 68 3 yX3_pinOf cX3_pinOf 2 (some .int) 1 := ⟨⟨by decide +kernel, by decide +kernel, by decide +kernel⟩, by decide, (ac_T_of (List.mem_of_getElem? (i := 474) (by decide +kernel)) rfl), (ac_T_of (List.mem_of_getElem? (i := 106) (by decide +kernel)) rfl), Or.inl (ac_T_of (List.mem_of_getElem? (i := 471) (by decide +kernel)) rfl), ⟨(ac_T_of (List.mem_of_getElem? (i := 473) (by decide +kernel)) rfl), (ac_T_of (List.mem_of_getElem? (i := 29) (by decide +kernel)) rfl), (RX3, TX3, 7), rfl, rfl⟩⟩
theorem ml_X4_48 : ac_ML 1 RX4 48 4 yX4_readPin cX4_readPin 4 (some .boolean) 1 := ⟨⟨by decide +kernel, by decide +kernel, by decide +kernel⟩, by decide, (ac_T_of (List.mem_of_getElem? (i := 478) (by decide +kernel)) rfl), (ac_T_of (List.mem_of_getElem? (i := 105) (by decide +kernel)) rfl), Or.inl (ac_T_of (List.mem_of_getElem? (i := 475) (by decide +kernel)) rfl), ⟨(ac_T_of (List.mem_of_getElem? (i := 477) (by decide +kernel)) rfl), (ac_T_of (List.mem_of_getElem? (i := 30) (by decide +kernel)) rfl), (RX4, TX4, 3), rfl, rfl⟩⟩
theorem ml_X4_62 : ac_ML 1 RX4 62 4 yX4_readNumber cX4_readNumber 7 (some .int) 1 := ⟨⟨by decide +kernel, by decide +kernel, by decide +kernel⟩, by decide, (ac_T_of (List.mem_of_getElem? (i := 482) (by decide +kernel)) rfl), (ac_T_of (List.mem_of_getElem? (i := 105) (by decide +kernel)) rfl), Or.inl (ac_T_of (List.mem_of_getElem? (i := 479) (by decide +kernel)) rfl), ⟨(ac_T_of (List.mem_of_getElem? (i := 481) (by decide +kernel)) rfl), (ac_T_of (List.mem_of_getElem? (i := 31) (by decide +kernel)) rfl), (RX4, TX4, 3), rfl, rfl⟩⟩
theorem ml_X4_72 : ac_ML 0 RX4 72 4 yX4_lowNumberFree cX4_lowNumberFree 2 (some .boolean) 1 := ⟨⟨by decide +kernel, by decide +kernel, by decide +kernel⟩, by decide, (ac_T_of (List.mem_of_getElem? (i := 485) (by decide +kernel)) rfl), (ac_T_of (List.mem_of_getElem? (i := 105) (by decide +kernel)) rfl), Or.inl (ac_T_of (List.mem_of_getElem? (i := 483) (by decide +kernel)) rfl), (ac_T_of (List.mem_of_getElem? (i := 484) (by decide +kernel)) rfl)⟩
theorem ml_X4_75 : ac_ML 1 RX4 75 3 yX3_free cX3_free 2 (some .boolean) 1 := ⟨⟨by decide +kernel, by decide +kernel, by decide +kernel⟩, by decide, (ac_T_of (List.mem_of_getElem? (i := 489) (by decide +kernel)) rfl), (ac_T_of (List.mem_of_getElem? (i := 106) (by decide +kernel)) rfl), Or.inr ⟨"AvoidColours", (List.mem_of_getElem? (i := 486) (by decide +kernel))⟩, ⟨(ac_T_of (List.mem_of_getElem? (i := 488) (by decide +kernel)) rfl), (ac_T_of (List.mem_of_getElem? (i := 32) (by decide +kernel)) rfl), (RX3, TX3, 7), rfl, rfl⟩⟩
theorem ml_X4_69 : ac_ML 1 RX4 69 3 yX3_setPin cX3_setPin 3 none 2 := ⟨⟨by decide +kernel, by decide +kernel, by decide +kernel⟩, by decide, (ac_T_of (List.mem_of_getElem? (i := 493) (by decide +kernel)) rfl), (ac_T_of (List.mem_of_getElem? (i := 106) (by decide +kernel)) rfl), Or.inr ⟨"AvoidColours", (List.mem_of_getElem? (i := 490) (by decide +kernel))⟩, ⟨(ac_T_of (List.mem_of_getElem? (i := 492) (by decide +kernel)) rfl), (ac_T_of (List.mem_of_getElem? (i := 33) (by decide +kernel)) rfl), (RX3, TX3, 7), rfl, rfl⟩⟩
theorem ml_X3_62 : ac_ML 1 RX3 62 3 yX3_has cX3_has 2 (some .boolean) 1 := ⟨⟨by decide +kernel, by decide +kernel, by decide +kernel⟩, by decide, (ac_T_of (List.mem_of_getElem? (i := 356) (by decide +kernel)) rfl), (ac_T_of (List.mem_of_getElem? (i := 106) (by decide +kernel)) rfl), Or.inl (ac_T_of (List.mem_of_getElem? (i := 494) (by decide +kernel)) rfl), ⟨(ac_T_of (List.mem_of_getElem? (i := 355) (by decide +kernel)) rfl), (ac_T_of (List.mem_of_getElem? (i := 10) (by decide +kernel)) rfl), (RX3, TX3, 7), rfl, rfl⟩⟩
theorem ml_X3_65 : ac_ML 1 RX3 65 3 yX3_hasColour cX3_hasColour 2 (some .boolean) 1 := ⟨⟨by decide +kernel, by decide +kernel, by decide +kernel⟩, by decide, (ac_T_of (List.mem_of_getElem? (i := 498) (by decide +kernel)) rfl), (ac_T_of (List.mem_of_getElem? (i := 106) (by decide +kernel)) rfl), Or.inl (ac_T_of (List.mem_of_getElem? (i := 495) (by decide +kernel)) rfl), ⟨(ac_T_of (List.mem_of_getElem? (i := 497) (by decide +kernel)) rfl), (ac_T_of (List.mem_of_getElem? (i := 34) (by decide +kernel)) rfl), (RX3, TX3, 7), rfl, rfl⟩⟩
theorem ml_L_27 : ac_ML 1 RL 27 6 yX6_task cX6_task 2 (some .int) 0 := ⟨⟨by decide +kernel, by decide +kernel, by decide +kernel⟩, by decide, (ac_T_of (List.mem_of_getElem? (i := 502) (by decide +kernel)) rfl), (ac_T_of (List.mem_of_getElem? (i := 104) (by decide +kernel)) rfl), Or.inl (ac_T_of (List.mem_of_getElem? (i := 499) (by decide +kernel)) rfl), ⟨(ac_T_of (List.mem_of_getElem? (i := 500) (by decide +kernel)) rfl), (ac_T_of (List.mem_of_getElem? (i := 501) (by decide +kernel)) rfl), (RX6, TX6, 9), rfl, rfl⟩⟩
theorem ml_X6_69 : ac_ML 1 RX6 69 3 yX3_copy cX3_copy 2 none 1 := ⟨⟨by decide +kernel, by decide +kernel, by decide +kernel⟩, by decide, (ac_T_of (List.mem_of_getElem? (i := 324) (by decide +kernel)) rfl), (ac_T_of (List.mem_of_getElem? (i := 106) (by decide +kernel)) rfl), Or.inr ⟨"AvoidColours", (List.mem_of_getElem? (i := 503) (by decide +kernel))⟩, ⟨(ac_T_of (List.mem_of_getElem? (i := 323) (by decide +kernel)) rfl), (ac_T_of (List.mem_of_getElem? (i := 5) (by decide +kernel)) rfl), (RX3, TX3, 7), rfl, rfl⟩⟩
theorem ml_X6_73 : ac_ML 1 RX6 73 1 yX1_forget cX1_forget 1 none 0 := ⟨⟨by decide +kernel, by decide +kernel, by decide +kernel⟩, by decide, (ac_T_of (List.mem_of_getElem? (i := 507) (by decide +kernel)) rfl), (ac_T_of (List.mem_of_getElem? (i := 107) (by decide +kernel)) rfl), Or.inr ⟨"AvoidColours", (List.mem_of_getElem? (i := 504) (by decide +kernel))⟩, ⟨(ac_T_of (List.mem_of_getElem? (i := 506) (by decide +kernel)) rfl), (ac_T_of (List.mem_of_getElem? (i := 35) (by decide +kernel)) rfl), (RX1, TX1, 3), rfl, rfl⟩⟩
theorem ml_X6_76 : ac_ML 1 RX6 76 6 yX6_slotAt cX6_slotAt 2 (some (.object "AvoidColours$Task")) 1 := ⟨⟨by decide +kernel, by decide +kernel, by decide +kernel⟩, by decide, (ac_T_of (List.mem_of_getElem? (i := 511) (by decide +kernel)) rfl), (ac_T_of (List.mem_of_getElem? (i := 104) (by decide +kernel)) rfl), Or.inl (ac_T_of (List.mem_of_getElem? (i := 508) (by decide +kernel)) rfl), ⟨(ac_T_of (List.mem_of_getElem? (i := 510) (by decide +kernel)) rfl), (ac_T_of (List.mem_of_getElem? (i := 36) (by decide +kernel)) rfl), (RX6, TX6, 9), rfl, rfl⟩⟩
theorem ml_X6_80 : ac_ML 0 RX6 80 6 yX6_empty cX6_empty 1 none 1 := ⟨⟨by decide +kernel, by decide +kernel, by decide +kernel⟩, by decide, (ac_T_of (List.mem_of_getElem? (i := 514) (by decide +kernel)) rfl), (ac_T_of (List.mem_of_getElem? (i := 104) (by decide +kernel)) rfl), Or.inl (ac_T_of (List.mem_of_getElem? (i := 512) (by decide +kernel)) rfl), (ac_T_of (List.mem_of_getElem? (i := 513) (by decide +kernel)) rfl)⟩
theorem ml_L_31 : ac_ML 1 RL 31 6 yX6_equation cX6_equation 3 (some .int) 2 := ⟨⟨by decide +kernel, by decide +kernel, by decide +kernel⟩, by decide, (ac_T_of (List.mem_of_getElem? (i := 518) (by decide +kernel)) rfl), (ac_T_of (List.mem_of_getElem? (i := 104) (by decide +kernel)) rfl), Or.inl (ac_T_of (List.mem_of_getElem? (i := 515) (by decide +kernel)) rfl), ⟨(ac_T_of (List.mem_of_getElem? (i := 516) (by decide +kernel)) rfl), (ac_T_of (List.mem_of_getElem? (i := 517) (by decide +kernel)) rfl), (RX6, TX6, 9), rfl, rfl⟩⟩
theorem ml_X6_83 : ac_ML 1 RX6 83 3 yX3_hasEquation cX3_hasEquation 2 (some .boolean) 1 := ⟨⟨by decide +kernel, by decide +kernel, by decide +kernel⟩, by decide, (ac_T_of (List.mem_of_getElem? (i := 522) (by decide +kernel)) rfl), (ac_T_of (List.mem_of_getElem? (i := 106) (by decide +kernel)) rfl), Or.inr ⟨"AvoidColours", (List.mem_of_getElem? (i := 519) (by decide +kernel))⟩, ⟨(ac_T_of (List.mem_of_getElem? (i := 521) (by decide +kernel)) rfl), (ac_T_of (List.mem_of_getElem? (i := 37) (by decide +kernel)) rfl), (RX3, TX3, 7), rfl, rfl⟩⟩
theorem ml_X6_86 : ac_ML 1 RX6 86 3 yX3_part cX3_part 4 (some .int) 2 := ⟨⟨by decide +kernel, by decide +kernel, by decide +kernel⟩, by decide, (ac_T_of (List.mem_of_getElem? (i := 526) (by decide +kernel)) rfl), (ac_T_of (List.mem_of_getElem? (i := 106) (by decide +kernel)) rfl), Or.inr ⟨"AvoidColours", (List.mem_of_getElem? (i := 523) (by decide +kernel))⟩, ⟨(ac_T_of (List.mem_of_getElem? (i := 525) (by decide +kernel)) rfl), (ac_T_of (List.mem_of_getElem? (i := 38) (by decide +kernel)) rfl), (RX3, TX3, 7), rfl, rfl⟩⟩
theorem ml_X3_50 : ac_ML 1 RX3 50 3 yX3_hasEquation cX3_hasEquation 2 (some .boolean) 1 := ⟨⟨by decide +kernel, by decide +kernel, by decide +kernel⟩, by decide, (ac_T_of (List.mem_of_getElem? (i := 522) (by decide +kernel)) rfl), (ac_T_of (List.mem_of_getElem? (i := 106) (by decide +kernel)) rfl), Or.inl (ac_T_of (List.mem_of_getElem? (i := 527) (by decide +kernel)) rfl), ⟨(ac_T_of (List.mem_of_getElem? (i := 521) (by decide +kernel)) rfl), (ac_T_of (List.mem_of_getElem? (i := 37) (by decide +kernel)) rfl), (RX3, TX3, 7), rfl, rfl⟩⟩
theorem ml_X6_90 : ac_ML 1 RX6 90 3 yX3_regular cX3_regular 5 (some .boolean) 1 := ⟨⟨by decide +kernel, by decide +kernel, by decide +kernel⟩, by decide, (ac_T_of (List.mem_of_getElem? (i := 531) (by decide +kernel)) rfl), (ac_T_of (List.mem_of_getElem? (i := 106) (by decide +kernel)) rfl), Or.inr ⟨"AvoidColours", (List.mem_of_getElem? (i := 528) (by decide +kernel))⟩, ⟨(ac_T_of (List.mem_of_getElem? (i := 530) (by decide +kernel)) rfl), (ac_T_of (List.mem_of_getElem? (i := 39) (by decide +kernel)) rfl), (RX3, TX3, 7), rfl, rfl⟩⟩
theorem ml_X3_54 : ac_ML 1 RX3 54 3 yX3_part cX3_part 4 (some .int) 2 := ⟨⟨by decide +kernel, by decide +kernel, by decide +kernel⟩, by decide, (ac_T_of (List.mem_of_getElem? (i := 526) (by decide +kernel)) rfl), (ac_T_of (List.mem_of_getElem? (i := 106) (by decide +kernel)) rfl), Or.inl (ac_T_of (List.mem_of_getElem? (i := 532) (by decide +kernel)) rfl), ⟨(ac_T_of (List.mem_of_getElem? (i := 525) (by decide +kernel)) rfl), (ac_T_of (List.mem_of_getElem? (i := 38) (by decide +kernel)) rfl), (RX3, TX3, 7), rfl, rfl⟩⟩
theorem ml_X6_93 : ac_ML 1 RX6 93 3 yX3_solutions cX3_solutions 5 (some .int) 1 := ⟨⟨by decide +kernel, by decide +kernel, by decide +kernel⟩, by decide, (ac_T_of (List.mem_of_getElem? (i := 536) (by decide +kernel)) rfl), (ac_T_of (List.mem_of_getElem? (i := 106) (by decide +kernel)) rfl), Or.inr ⟨"AvoidColours", (List.mem_of_getElem? (i := 533) (by decide +kernel))⟩, ⟨(ac_T_of (List.mem_of_getElem? (i := 535) (by decide +kernel)) rfl), (ac_T_of (List.mem_of_getElem? (i := 40) (by decide +kernel)) rfl), (RX3, TX3, 7), rfl, rfl⟩⟩
theorem ml_X3_58 : ac_ML 1 RX3 58 3 yX3_third cX3_third 10 (some .int) 4 := ⟨⟨by decide +kernel, by decide +kernel, by decide +kernel⟩, by decide, (ac_T_of (List.mem_of_getElem? (i := 341) (by decide +kernel)) rfl), (ac_T_of (List.mem_of_getElem? (i := 106) (by decide +kernel)) rfl), Or.inl (ac_T_of (List.mem_of_getElem? (i := 537) (by decide +kernel)) rfl), ⟨(ac_T_of (List.mem_of_getElem? (i := 340) (by decide +kernel)) rfl), (ac_T_of (List.mem_of_getElem? (i := 8) (by decide +kernel)) rfl), (RX3, TX3, 7), rfl, rfl⟩⟩
theorem ml_L_36 : ac_ML 1 RL 36 6 yX6_solution cX6_solution 3 (some .int) 2 := ⟨⟨by decide +kernel, by decide +kernel, by decide +kernel⟩, by decide, (ac_T_of (List.mem_of_getElem? (i := 541) (by decide +kernel)) rfl), (ac_T_of (List.mem_of_getElem? (i := 104) (by decide +kernel)) rfl), Or.inl (ac_T_of (List.mem_of_getElem? (i := 538) (by decide +kernel)) rfl), ⟨(ac_T_of (List.mem_of_getElem? (i := 539) (by decide +kernel)) rfl), (ac_T_of (List.mem_of_getElem? (i := 540) (by decide +kernel)) rfl), (RX6, TX6, 9), rfl, rfl⟩⟩
theorem ml_X6_97 : ac_ML 1 RX6 97 3 yX3_solutionAt cX3_solutionAt 7 (some .int) 2 := ⟨⟨by decide +kernel, by decide +kernel, by decide +kernel⟩, by decide, (ac_T_of (List.mem_of_getElem? (i := 545) (by decide +kernel)) rfl), (ac_T_of (List.mem_of_getElem? (i := 106) (by decide +kernel)) rfl), Or.inr ⟨"AvoidColours", (List.mem_of_getElem? (i := 542) (by decide +kernel))⟩, ⟨(ac_T_of (List.mem_of_getElem? (i := 544) (by decide +kernel)) rfl), (ac_T_of (List.mem_of_getElem? (i := 41) (by decide +kernel)) rfl), (RX3, TX3, 7), rfl, rfl⟩⟩
theorem ml_L_40 : ac_ML 1 RL 40 6 yX6_number cX6_number 3 (some .int) 2 := ⟨⟨by decide +kernel, by decide +kernel, by decide +kernel⟩, by decide, (ac_T_of (List.mem_of_getElem? (i := 549) (by decide +kernel)) rfl), (ac_T_of (List.mem_of_getElem? (i := 104) (by decide +kernel)) rfl), Or.inl (ac_T_of (List.mem_of_getElem? (i := 546) (by decide +kernel)) rfl), ⟨(ac_T_of (List.mem_of_getElem? (i := 547) (by decide +kernel)) rfl), (ac_T_of (List.mem_of_getElem? (i := 548) (by decide +kernel)) rfl), (RX6, TX6, 9), rfl, rfl⟩⟩
theorem ml_X6_100 : ac_ML 1 RX6 100 3 yX3_has cX3_has 2 (some .boolean) 1 := ⟨⟨by decide +kernel, by decide +kernel, by decide +kernel⟩, by decide, (ac_T_of (List.mem_of_getElem? (i := 356) (by decide +kernel)) rfl), (ac_T_of (List.mem_of_getElem? (i := 106) (by decide +kernel)) rfl), Or.inr ⟨"AvoidColours", (List.mem_of_getElem? (i := 550) (by decide +kernel))⟩, ⟨(ac_T_of (List.mem_of_getElem? (i := 355) (by decide +kernel)) rfl), (ac_T_of (List.mem_of_getElem? (i := 10) (by decide +kernel)) rfl), (RX3, TX3, 7), rfl, rfl⟩⟩
theorem ml_X6_107 : ac_ML 1 RX6 107 3 yX3_colourOf cX3_colourOf 3 (some .int) 1 := ⟨⟨by decide +kernel, by decide +kernel, by decide +kernel⟩, by decide, (ac_T_of (List.mem_of_getElem? (i := 554) (by decide +kernel)) rfl), (ac_T_of (List.mem_of_getElem? (i := 106) (by decide +kernel)) rfl), Or.inr ⟨"AvoidColours", (List.mem_of_getElem? (i := 551) (by decide +kernel))⟩, ⟨(ac_T_of (List.mem_of_getElem? (i := 553) (by decide +kernel)) rfl), (ac_T_of (List.mem_of_getElem? (i := 42) (by decide +kernel)) rfl), (RX3, TX3, 7), rfl, rfl⟩⟩
theorem ml_X3_76 : ac_ML 1 RX3 76 3 yX3_classOf cX3_classOf 2 (some .int) 1 := ⟨⟨by decide +kernel, by decide +kernel, by decide +kernel⟩, by decide, (ac_T_of (List.mem_of_getElem? (i := 558) (by decide +kernel)) rfl), (ac_T_of (List.mem_of_getElem? (i := 106) (by decide +kernel)) rfl), Or.inl (ac_T_of (List.mem_of_getElem? (i := 555) (by decide +kernel)) rfl), ⟨(ac_T_of (List.mem_of_getElem? (i := 557) (by decide +kernel)) rfl), (ac_T_of (List.mem_of_getElem? (i := 43) (by decide +kernel)) rfl), (RX3, TX3, 7), rfl, rfl⟩⟩
theorem ml_X6_110 : ac_ML 1 RX6 110 3 yX3_pinOf cX3_pinOf 2 (some .int) 1 := ⟨⟨by decide +kernel, by decide +kernel, by decide +kernel⟩, by decide, (ac_T_of (List.mem_of_getElem? (i := 474) (by decide +kernel)) rfl), (ac_T_of (List.mem_of_getElem? (i := 106) (by decide +kernel)) rfl), Or.inr ⟨"AvoidColours", (List.mem_of_getElem? (i := 559) (by decide +kernel))⟩, ⟨(ac_T_of (List.mem_of_getElem? (i := 473) (by decide +kernel)) rfl), (ac_T_of (List.mem_of_getElem? (i := 29) (by decide +kernel)) rfl), (RX3, TX3, 7), rfl, rfl⟩⟩
theorem ml_X6_117 : ac_ML 1 RX6 117 5 yX5_possibleOf cX5_possibleOf 2 (some .int) 1 := ⟨⟨by decide +kernel, by decide +kernel, by decide +kernel⟩, by decide, (ac_T_of (List.mem_of_getElem? (i := 563) (by decide +kernel)) rfl), (ac_T_of (List.mem_of_getElem? (i := 108) (by decide +kernel)) rfl), Or.inr ⟨"AvoidColours", (List.mem_of_getElem? (i := 560) (by decide +kernel))⟩, ⟨(ac_T_of (List.mem_of_getElem? (i := 562) (by decide +kernel)) rfl), (ac_T_of (List.mem_of_getElem? (i := 44) (by decide +kernel)) rfl), (RX5, TX5, 15), rfl, rfl⟩⟩
theorem ml_X6_120 : ac_ML 1 RX6 120 5 yX5_forces cX5_forces 2 (some .boolean) 1 := ⟨⟨by decide +kernel, by decide +kernel, by decide +kernel⟩, by decide, (ac_T_of (List.mem_of_getElem? (i := 567) (by decide +kernel)) rfl), (ac_T_of (List.mem_of_getElem? (i := 108) (by decide +kernel)) rfl), Or.inr ⟨"AvoidColours", (List.mem_of_getElem? (i := 564) (by decide +kernel))⟩, ⟨(ac_T_of (List.mem_of_getElem? (i := 566) (by decide +kernel)) rfl), (ac_T_of (List.mem_of_getElem? (i := 45) (by decide +kernel)) rfl), (RX5, TX5, 15), rfl, rfl⟩⟩
theorem ml_X5_140 : ac_ML 1 RX5 140 5 yX5_possibleOf cX5_possibleOf 2 (some .int) 1 := ⟨⟨by decide +kernel, by decide +kernel, by decide +kernel⟩, by decide, (ac_T_of (List.mem_of_getElem? (i := 563) (by decide +kernel)) rfl), (ac_T_of (List.mem_of_getElem? (i := 108) (by decide +kernel)) rfl), Or.inl (ac_T_of (List.mem_of_getElem? (i := 568) (by decide +kernel)) rfl), ⟨(ac_T_of (List.mem_of_getElem? (i := 562) (by decide +kernel)) rfl), (ac_T_of (List.mem_of_getElem? (i := 44) (by decide +kernel)) rfl), (RX5, TX5, 15), rfl, rfl⟩⟩
theorem ml_X5_143 : ac_ML 0 RX5 143 0 yJ6_bitCount_0f7a4 cJ6_bitCount_0f7a4 1 (some .int) 1 := ⟨⟨by decide +kernel, by decide +kernel, by decide +kernel⟩, by decide, (ac_T_of (List.mem_of_getElem? (i := 571) (by decide +kernel)) rfl), (ac_T_of (List.mem_of_getElem? (i := 115) (by decide +kernel)) rfl), Or.inl (ac_T_of (List.mem_of_getElem? (i := 569) (by decide +kernel)) rfl), (ac_T_of (List.mem_of_getElem? (i := 570) (by decide +kernel)) rfl)⟩
theorem ct_J6_265 : Cond.constant RJ6 265 (Int32.ofInt (1431655765)) ∈ ac_T := (ac_T_of (List.mem_of_getElem? (i := 572) (by decide +kernel)) rfl)
theorem ct_J6_266 : Cond.constant RJ6 266 (Int32.ofInt (858993459)) ∈ ac_T := (ac_T_of (List.mem_of_getElem? (i := 573) (by decide +kernel)) rfl)
theorem ct_J6_267 : Cond.constant RJ6 267 (Int32.ofInt (252645135)) ∈ ac_T := (ac_T_of (List.mem_of_getElem? (i := 574) (by decide +kernel)) rfl)
theorem ml_L_44 : ac_ML 1 RL 44 6 yX6_go cX6_go 3 (some .int) 1 := ⟨⟨by decide +kernel, by decide +kernel, by decide +kernel⟩, by decide, (ac_T_of (List.mem_of_getElem? (i := 578) (by decide +kernel)) rfl), (ac_T_of (List.mem_of_getElem? (i := 104) (by decide +kernel)) rfl), Or.inl (ac_T_of (List.mem_of_getElem? (i := 575) (by decide +kernel)) rfl), ⟨(ac_T_of (List.mem_of_getElem? (i := 576) (by decide +kernel)) rfl), (ac_T_of (List.mem_of_getElem? (i := 577) (by decide +kernel)) rfl), (RX6, TX6, 9), rfl, rfl⟩⟩
theorem ml_X6_126 : ac_ML 1 RX6 126 1 yX1_remember cX1_remember 3 none 1 := ⟨⟨by decide +kernel, by decide +kernel, by decide +kernel⟩, by decide, (ac_T_of (List.mem_of_getElem? (i := 582) (by decide +kernel)) rfl), (ac_T_of (List.mem_of_getElem? (i := 107) (by decide +kernel)) rfl), Or.inr ⟨"AvoidColours", (List.mem_of_getElem? (i := 579) (by decide +kernel))⟩, ⟨(ac_T_of (List.mem_of_getElem? (i := 581) (by decide +kernel)) rfl), (ac_T_of (List.mem_of_getElem? (i := 46) (by decide +kernel)) rfl), (RX1, TX1, 3), rfl, rfl⟩⟩
theorem ml_X1_20 : ac_ML 1 RX1 20 1 yX1_at cX1_at 2 (some (.object "AvoidColours$Task")) 1 := ⟨⟨by decide +kernel, by decide +kernel, by decide +kernel⟩, by decide, (ac_T_of (List.mem_of_getElem? (i := 586) (by decide +kernel)) rfl), (ac_T_of (List.mem_of_getElem? (i := 107) (by decide +kernel)) rfl), Or.inl (ac_T_of (List.mem_of_getElem? (i := 583) (by decide +kernel)) rfl), ⟨(ac_T_of (List.mem_of_getElem? (i := 585) (by decide +kernel)) rfl), (ac_T_of (List.mem_of_getElem? (i := 47) (by decide +kernel)) rfl), (RX1, TX1, 3), rfl, rfl⟩⟩
theorem ml_X1_24 : ac_ML 1 RX1 24 3 yX3_copy cX3_copy 2 none 1 := ⟨⟨by decide +kernel, by decide +kernel, by decide +kernel⟩, by decide, (ac_T_of (List.mem_of_getElem? (i := 324) (by decide +kernel)) rfl), (ac_T_of (List.mem_of_getElem? (i := 106) (by decide +kernel)) rfl), Or.inr ⟨"AvoidColours", (List.mem_of_getElem? (i := 587) (by decide +kernel))⟩, ⟨(ac_T_of (List.mem_of_getElem? (i := 323) (by decide +kernel)) rfl), (ac_T_of (List.mem_of_getElem? (i := 5) (by decide +kernel)) rfl), (RX3, TX3, 7), rfl, rfl⟩⟩
theorem ml_X1_31 : Cond.methodLink RX1 31 Lib.Math.min.name ∈ ac_T := (ac_T_of (List.mem_of_getElem? (i := 588) (by decide +kernel)) rfl)
theorem ml_X6_133 : ac_ML 1 RX6 133 3 yX3_alike cX3_alike 4 (some .int) 1 := ⟨⟨by decide +kernel, by decide +kernel, by decide +kernel⟩, by decide, (ac_T_of (List.mem_of_getElem? (i := 594) (by decide +kernel)) rfl), (ac_T_of (List.mem_of_getElem? (i := 106) (by decide +kernel)) rfl), Or.inr ⟨"AvoidColours", (List.mem_of_getElem? (i := 591) (by decide +kernel))⟩, ⟨(ac_T_of (List.mem_of_getElem? (i := 593) (by decide +kernel)) rfl), (ac_T_of (List.mem_of_getElem? (i := 48) (by decide +kernel)) rfl), (RX3, TX3, 7), rfl, rfl⟩⟩
theorem ml_X3_79 : ac_ML 0 RX3 79 0 yJ6_bitCount_0f7a4 cJ6_bitCount_0f7a4 1 (some .int) 1 := ⟨⟨by decide +kernel, by decide +kernel, by decide +kernel⟩, by decide, (ac_T_of (List.mem_of_getElem? (i := 571) (by decide +kernel)) rfl), (ac_T_of (List.mem_of_getElem? (i := 115) (by decide +kernel)) rfl), Or.inl (ac_T_of (List.mem_of_getElem? (i := 595) (by decide +kernel)) rfl), (ac_T_of (List.mem_of_getElem? (i := 570) (by decide +kernel)) rfl)⟩
theorem ml_L_48 : ac_ML 1 RL 48 6 yX6_paint cX6_paint 4 (some .int) 2 := ⟨⟨by decide +kernel, by decide +kernel, by decide +kernel⟩, by decide, (ac_T_of (List.mem_of_getElem? (i := 599) (by decide +kernel)) rfl), (ac_T_of (List.mem_of_getElem? (i := 104) (by decide +kernel)) rfl), Or.inl (ac_T_of (List.mem_of_getElem? (i := 596) (by decide +kernel)) rfl), ⟨(ac_T_of (List.mem_of_getElem? (i := 597) (by decide +kernel)) rfl), (ac_T_of (List.mem_of_getElem? (i := 598) (by decide +kernel)) rfl), (RX6, TX6, 9), rfl, rfl⟩⟩
theorem ml_X6_144 : ac_ML 1 RX6 144 6 yX6_refusalOfPaint cX6_refusalOfPaint 4 (some .int) 3 := ⟨⟨by decide +kernel, by decide +kernel, by decide +kernel⟩, by decide, (ac_T_of (List.mem_of_getElem? (i := 603) (by decide +kernel)) rfl), (ac_T_of (List.mem_of_getElem? (i := 104) (by decide +kernel)) rfl), Or.inl (ac_T_of (List.mem_of_getElem? (i := 600) (by decide +kernel)) rfl), ⟨(ac_T_of (List.mem_of_getElem? (i := 602) (by decide +kernel)) rfl), (ac_T_of (List.mem_of_getElem? (i := 49) (by decide +kernel)) rfl), (RX6, TX6, 9), rfl, rfl⟩⟩
theorem ml_X6_276 : ac_ML 1 RX6 276 3 yX3_hasColour cX3_hasColour 2 (some .boolean) 1 := ⟨⟨by decide +kernel, by decide +kernel, by decide +kernel⟩, by decide, (ac_T_of (List.mem_of_getElem? (i := 498) (by decide +kernel)) rfl), (ac_T_of (List.mem_of_getElem? (i := 106) (by decide +kernel)) rfl), Or.inr ⟨"AvoidColours", (List.mem_of_getElem? (i := 604) (by decide +kernel))⟩, ⟨(ac_T_of (List.mem_of_getElem? (i := 497) (by decide +kernel)) rfl), (ac_T_of (List.mem_of_getElem? (i := 34) (by decide +kernel)) rfl), (RX3, TX3, 7), rfl, rfl⟩⟩
theorem ml_X6_279 : ac_ML 1 RX6 279 3 yX3_allows cX3_allows 4 (some .boolean) 2 := ⟨⟨by decide +kernel, by decide +kernel, by decide +kernel⟩, by decide, (ac_T_of (List.mem_of_getElem? (i := 377) (by decide +kernel)) rfl), (ac_T_of (List.mem_of_getElem? (i := 106) (by decide +kernel)) rfl), Or.inr ⟨"AvoidColours", (List.mem_of_getElem? (i := 605) (by decide +kernel))⟩, ⟨(ac_T_of (List.mem_of_getElem? (i := 376) (by decide +kernel)) rfl), (ac_T_of (List.mem_of_getElem? (i := 15) (by decide +kernel)) rfl), (RX3, TX3, 7), rfl, rfl⟩⟩
theorem ml_X6_199 : ac_ML 1 RX6 199 5 yX5_begin cX5_begin 2 none 1 := ⟨⟨by decide +kernel, by decide +kernel, by decide +kernel⟩, by decide, (ac_T_of (List.mem_of_getElem? (i := 320) (by decide +kernel)) rfl), (ac_T_of (List.mem_of_getElem? (i := 108) (by decide +kernel)) rfl), Or.inr ⟨"AvoidColours", (List.mem_of_getElem? (i := 606) (by decide +kernel))⟩, ⟨(ac_T_of (List.mem_of_getElem? (i := 319) (by decide +kernel)) rfl), (ac_T_of (List.mem_of_getElem? (i := 4) (by decide +kernel)) rfl), (RX5, TX5, 15), rfl, rfl⟩⟩
theorem ml_X6_209 : ac_ML 1 RX6 209 3 yX3_classOf cX3_classOf 2 (some .int) 1 := ⟨⟨by decide +kernel, by decide +kernel, by decide +kernel⟩, by decide, (ac_T_of (List.mem_of_getElem? (i := 558) (by decide +kernel)) rfl), (ac_T_of (List.mem_of_getElem? (i := 106) (by decide +kernel)) rfl), Or.inr ⟨"AvoidColours", (List.mem_of_getElem? (i := 607) (by decide +kernel))⟩, ⟨(ac_T_of (List.mem_of_getElem? (i := 557) (by decide +kernel)) rfl), (ac_T_of (List.mem_of_getElem? (i := 43) (by decide +kernel)) rfl), (RX3, TX3, 7), rfl, rfl⟩⟩
theorem ml_X6_212 : ac_ML 1 RX6 212 0 yX0_in cX0_in 2 (some .int) 1 := ⟨⟨by decide +kernel, by decide +kernel, by decide +kernel⟩, by decide, (ac_T_of (List.mem_of_getElem? (i := 381) (by decide +kernel)) rfl), (ac_T_of (List.mem_of_getElem? (i := 110) (by decide +kernel)) rfl), Or.inr ⟨"AvoidColours", (List.mem_of_getElem? (i := 608) (by decide +kernel))⟩, ⟨(ac_T_of (List.mem_of_getElem? (i := 380) (by decide +kernel)) rfl), (ac_T_of (List.mem_of_getElem? (i := 16) (by decide +kernel)) rfl), (RX0, TX0, 2), rfl, rfl⟩⟩
theorem ml_X6_148 : ac_ML 1 RX6 148 3 yX3_repaint cX3_repaint 4 none 2 := ⟨⟨by decide +kernel, by decide +kernel, by decide +kernel⟩, by decide, (ac_T_of (List.mem_of_getElem? (i := 612) (by decide +kernel)) rfl), (ac_T_of (List.mem_of_getElem? (i := 106) (by decide +kernel)) rfl), Or.inr ⟨"AvoidColours", (List.mem_of_getElem? (i := 609) (by decide +kernel))⟩, ⟨(ac_T_of (List.mem_of_getElem? (i := 611) (by decide +kernel)) rfl), (ac_T_of (List.mem_of_getElem? (i := 50) (by decide +kernel)) rfl), (RX3, TX3, 7), rfl, rfl⟩⟩
theorem ml_L_52 : ac_ML 1 RL 52 6 yX6_reach cX6_reach 2 (some .int) 1 := ⟨⟨by decide +kernel, by decide +kernel, by decide +kernel⟩, by decide, (ac_T_of (List.mem_of_getElem? (i := 616) (by decide +kernel)) rfl), (ac_T_of (List.mem_of_getElem? (i := 104) (by decide +kernel)) rfl), Or.inl (ac_T_of (List.mem_of_getElem? (i := 613) (by decide +kernel)) rfl), ⟨(ac_T_of (List.mem_of_getElem? (i := 614) (by decide +kernel)) rfl), (ac_T_of (List.mem_of_getElem? (i := 615) (by decide +kernel)) rfl), (RX6, TX6, 9), rfl, rfl⟩⟩
theorem ml_X6_154 : ac_ML 0 RX6 154 6 yX6_reachable cX6_reachable 1 (some .boolean) 1 := ⟨⟨by decide +kernel, by decide +kernel, by decide +kernel⟩, by decide, (ac_T_of (List.mem_of_getElem? (i := 619) (by decide +kernel)) rfl), (ac_T_of (List.mem_of_getElem? (i := 104) (by decide +kernel)) rfl), Or.inl (ac_T_of (List.mem_of_getElem? (i := 617) (by decide +kernel)) rfl), (ac_T_of (List.mem_of_getElem? (i := 618) (by decide +kernel)) rfl)⟩
theorem ml_X6_157 : ac_ML 1 RX6 157 3 yX3_resize cX3_resize 3 none 1 := ⟨⟨by decide +kernel, by decide +kernel, by decide +kernel⟩, by decide, (ac_T_of (List.mem_of_getElem? (i := 623) (by decide +kernel)) rfl), (ac_T_of (List.mem_of_getElem? (i := 106) (by decide +kernel)) rfl), Or.inr ⟨"AvoidColours", (List.mem_of_getElem? (i := 620) (by decide +kernel))⟩, ⟨(ac_T_of (List.mem_of_getElem? (i := 622) (by decide +kernel)) rfl), (ac_T_of (List.mem_of_getElem? (i := 51) (by decide +kernel)) rfl), (RX3, TX3, 7), rfl, rfl⟩⟩
theorem ml_X3_72 : ac_ML 1 RX3 72 3 yX3_setPin cX3_setPin 3 none 2 := ⟨⟨by decide +kernel, by decide +kernel, by decide +kernel⟩, by decide, (ac_T_of (List.mem_of_getElem? (i := 493) (by decide +kernel)) rfl), (ac_T_of (List.mem_of_getElem? (i := 106) (by decide +kernel)) rfl), Or.inl (ac_T_of (List.mem_of_getElem? (i := 624) (by decide +kernel)) rfl), ⟨(ac_T_of (List.mem_of_getElem? (i := 492) (by decide +kernel)) rfl), (ac_T_of (List.mem_of_getElem? (i := 33) (by decide +kernel)) rfl), (RX3, TX3, 7), rfl, rfl⟩⟩
theorem ml_L_56 : ac_ML 1 RL 56 6 yX6_add cX6_add 5 (some .int) 4 := ⟨⟨by decide +kernel, by decide +kernel, by decide +kernel⟩, by decide, (ac_T_of (List.mem_of_getElem? (i := 628) (by decide +kernel)) rfl), (ac_T_of (List.mem_of_getElem? (i := 104) (by decide +kernel)) rfl), Or.inl (ac_T_of (List.mem_of_getElem? (i := 625) (by decide +kernel)) rfl), ⟨(ac_T_of (List.mem_of_getElem? (i := 626) (by decide +kernel)) rfl), (ac_T_of (List.mem_of_getElem? (i := 627) (by decide +kernel)) rfl), (RX6, TX6, 9), rfl, rfl⟩⟩
theorem ml_X6_161 : ac_ML 0 RX6 161 6 yX6_factor cX6_factor 1 (some .boolean) 1 := ⟨⟨by decide +kernel, by decide +kernel, by decide +kernel⟩, by decide, (ac_T_of (List.mem_of_getElem? (i := 631) (by decide +kernel)) rfl), (ac_T_of (List.mem_of_getElem? (i := 104) (by decide +kernel)) rfl), Or.inl (ac_T_of (List.mem_of_getElem? (i := 629) (by decide +kernel)) rfl), (ac_T_of (List.mem_of_getElem? (i := 630) (by decide +kernel)) rfl)⟩
theorem ml_X6_167 : ac_ML 1 RX6 167 3 yX3_append cX3_append 6 none 4 := ⟨⟨by decide +kernel, by decide +kernel, by decide +kernel⟩, by decide, (ac_T_of (List.mem_of_getElem? (i := 466) (by decide +kernel)) rfl), (ac_T_of (List.mem_of_getElem? (i := 106) (by decide +kernel)) rfl), Or.inr ⟨"AvoidColours", (List.mem_of_getElem? (i := 632) (by decide +kernel))⟩, ⟨(ac_T_of (List.mem_of_getElem? (i := 465) (by decide +kernel)) rfl), (ac_T_of (List.mem_of_getElem? (i := 27) (by decide +kernel)) rfl), (RX3, TX3, 7), rfl, rfl⟩⟩
theorem ml_L_61 : ac_ML 1 RL 61 6 yX6_drop cX6_drop 1 (some .int) 0 := ⟨⟨by decide +kernel, by decide +kernel, by decide +kernel⟩, by decide, (ac_T_of (List.mem_of_getElem? (i := 636) (by decide +kernel)) rfl), (ac_T_of (List.mem_of_getElem? (i := 104) (by decide +kernel)) rfl), Or.inl (ac_T_of (List.mem_of_getElem? (i := 633) (by decide +kernel)) rfl), ⟨(ac_T_of (List.mem_of_getElem? (i := 634) (by decide +kernel)) rfl), (ac_T_of (List.mem_of_getElem? (i := 635) (by decide +kernel)) rfl), (RX6, TX6, 9), rfl, rfl⟩⟩
theorem ml_L_65 : ac_ML 1 RL 65 6 yX6_pin cX6_pin 4 (some .int) 2 := ⟨⟨by decide +kernel, by decide +kernel, by decide +kernel⟩, by decide, (ac_T_of (List.mem_of_getElem? (i := 640) (by decide +kernel)) rfl), (ac_T_of (List.mem_of_getElem? (i := 104) (by decide +kernel)) rfl), Or.inl (ac_T_of (List.mem_of_getElem? (i := 637) (by decide +kernel)) rfl), ⟨(ac_T_of (List.mem_of_getElem? (i := 638) (by decide +kernel)) rfl), (ac_T_of (List.mem_of_getElem? (i := 639) (by decide +kernel)) rfl), (RX6, TX6, 9), rfl, rfl⟩⟩
theorem ml_X6_170 : ac_ML 0 RX6 170 6 yX6_refusalOfPin cX6_refusalOfPin 3 (some .int) 3 := ⟨⟨by decide +kernel, by decide +kernel, by decide +kernel⟩, by decide, (ac_T_of (List.mem_of_getElem? (i := 643) (by decide +kernel)) rfl), (ac_T_of (List.mem_of_getElem? (i := 104) (by decide +kernel)) rfl), Or.inl (ac_T_of (List.mem_of_getElem? (i := 641) (by decide +kernel)) rfl), (ac_T_of (List.mem_of_getElem? (i := 642) (by decide +kernel)) rfl)⟩
theorem ml_X6_173 : ac_ML 1 RX6 173 3 yX3_setPin cX3_setPin 3 none 2 := ⟨⟨by decide +kernel, by decide +kernel, by decide +kernel⟩, by decide, (ac_T_of (List.mem_of_getElem? (i := 493) (by decide +kernel)) rfl), (ac_T_of (List.mem_of_getElem? (i := 106) (by decide +kernel)) rfl), Or.inr ⟨"AvoidColours", (List.mem_of_getElem? (i := 644) (by decide +kernel))⟩, ⟨(ac_T_of (List.mem_of_getElem? (i := 492) (by decide +kernel)) rfl), (ac_T_of (List.mem_of_getElem? (i := 33) (by decide +kernel)) rfl), (RX3, TX3, 7), rfl, rfl⟩⟩
theorem ml_L_69 : ac_ML 1 RL 69 6 yX6_undo cX6_undo 1 (some .int) 0 := ⟨⟨by decide +kernel, by decide +kernel, by decide +kernel⟩, by decide, (ac_T_of (List.mem_of_getElem? (i := 648) (by decide +kernel)) rfl), (ac_T_of (List.mem_of_getElem? (i := 104) (by decide +kernel)) rfl), Or.inl (ac_T_of (List.mem_of_getElem? (i := 645) (by decide +kernel)) rfl), ⟨(ac_T_of (List.mem_of_getElem? (i := 646) (by decide +kernel)) rfl), (ac_T_of (List.mem_of_getElem? (i := 647) (by decide +kernel)) rfl), (RX6, TX6, 9), rfl, rfl⟩⟩
theorem ml_X6_176 : ac_ML 1 RX6 176 1 yX1_restore cX1_restore 4 (some .boolean) 1 := ⟨⟨by decide +kernel, by decide +kernel, by decide +kernel⟩, by decide, (ac_T_of (List.mem_of_getElem? (i := 652) (by decide +kernel)) rfl), (ac_T_of (List.mem_of_getElem? (i := 107) (by decide +kernel)) rfl), Or.inr ⟨"AvoidColours", (List.mem_of_getElem? (i := 649) (by decide +kernel))⟩, ⟨(ac_T_of (List.mem_of_getElem? (i := 651) (by decide +kernel)) rfl), (ac_T_of (List.mem_of_getElem? (i := 52) (by decide +kernel)) rfl), (RX1, TX1, 3), rfl, rfl⟩⟩
theorem ml_L_73 : ac_ML 1 RL 73 6 yX6_ask cX6_ask 2 (some .int) 1 := ⟨⟨by decide +kernel, by decide +kernel, by decide +kernel⟩, by decide, (ac_T_of (List.mem_of_getElem? (i := 656) (by decide +kernel)) rfl), (ac_T_of (List.mem_of_getElem? (i := 104) (by decide +kernel)) rfl), Or.inl (ac_T_of (List.mem_of_getElem? (i := 653) (by decide +kernel)) rfl), ⟨(ac_T_of (List.mem_of_getElem? (i := 654) (by decide +kernel)) rfl), (ac_T_of (List.mem_of_getElem? (i := 655) (by decide +kernel)) rfl), (RX6, TX6, 9), rfl, rfl⟩⟩
theorem ml_X6_183 : ac_ML 1 RX6 183 6 yX6_limit cX6_limit 2 (some .int) 1 := ⟨⟨by decide +kernel, by decide +kernel, by decide +kernel⟩, by decide, (ac_T_of (List.mem_of_getElem? (i := 660) (by decide +kernel)) rfl), (ac_T_of (List.mem_of_getElem? (i := 104) (by decide +kernel)) rfl), Or.inl (ac_T_of (List.mem_of_getElem? (i := 657) (by decide +kernel)) rfl), ⟨(ac_T_of (List.mem_of_getElem? (i := 659) (by decide +kernel)) rfl), (ac_T_of (List.mem_of_getElem? (i := 53) (by decide +kernel)) rfl), (RX6, TX6, 9), rfl, rfl⟩⟩
theorem ml_X6_283 : ac_ML 1 RX6 283 3 yX3_unpin cX3_unpin 1 none 0 := ⟨⟨by decide +kernel, by decide +kernel, by decide +kernel⟩, by decide, (ac_T_of (List.mem_of_getElem? (i := 305) (by decide +kernel)) rfl), (ac_T_of (List.mem_of_getElem? (i := 106) (by decide +kernel)) rfl), Or.inr ⟨"AvoidColours", (List.mem_of_getElem? (i := 661) (by decide +kernel))⟩, ⟨(ac_T_of (List.mem_of_getElem? (i := 304) (by decide +kernel)) rfl), (ac_T_of (List.mem_of_getElem? (i := 1) (by decide +kernel)) rfl), (RX3, TX3, 7), rfl, rfl⟩⟩
theorem ml_X6_186 : ac_ML 1 RX6 186 6 yX6_forcedNumbers cX6_forcedNumbers 3 (some .int) 0 := ⟨⟨by decide +kernel, by decide +kernel, by decide +kernel⟩, by decide, (ac_T_of (List.mem_of_getElem? (i := 665) (by decide +kernel)) rfl), (ac_T_of (List.mem_of_getElem? (i := 104) (by decide +kernel)) rfl), Or.inl (ac_T_of (List.mem_of_getElem? (i := 662) (by decide +kernel)) rfl), ⟨(ac_T_of (List.mem_of_getElem? (i := 664) (by decide +kernel)) rfl), (ac_T_of (List.mem_of_getElem? (i := 54) (by decide +kernel)) rfl), (RX6, TX6, 9), rfl, rfl⟩⟩
theorem ml_X6_190 : ac_ML 1 RX6 190 6 yX6_paintable cX6_paintable 4 (some .int) 0 := ⟨⟨by decide +kernel, by decide +kernel, by decide +kernel⟩, by decide, (ac_T_of (List.mem_of_getElem? (i := 669) (by decide +kernel)) rfl), (ac_T_of (List.mem_of_getElem? (i := 104) (by decide +kernel)) rfl), Or.inl (ac_T_of (List.mem_of_getElem? (i := 666) (by decide +kernel)) rfl), ⟨(ac_T_of (List.mem_of_getElem? (i := 668) (by decide +kernel)) rfl), (ac_T_of (List.mem_of_getElem? (i := 55) (by decide +kernel)) rfl), (RX6, TX6, 9), rfl, rfl⟩⟩
theorem ml_X6_193 : ac_ML 1 RX6 193 5 yX5_countKinds cX5_countKinds 2 (some .int) 1 := ⟨⟨by decide +kernel, by decide +kernel, by decide +kernel⟩, by decide, (ac_T_of (List.mem_of_getElem? (i := 673) (by decide +kernel)) rfl), (ac_T_of (List.mem_of_getElem? (i := 108) (by decide +kernel)) rfl), Or.inr ⟨"AvoidColours", (List.mem_of_getElem? (i := 670) (by decide +kernel))⟩, ⟨(ac_T_of (List.mem_of_getElem? (i := 672) (by decide +kernel)) rfl), (ac_T_of (List.mem_of_getElem? (i := 56) (by decide +kernel)) rfl), (RX5, TX5, 15), rfl, rfl⟩⟩
theorem ml_X5_154 : ac_ML 0 RX5 154 5 yX5_group cX5_group 6 none 4 := ⟨⟨by decide +kernel, by decide +kernel, by decide +kernel⟩, by decide, (ac_T_of (List.mem_of_getElem? (i := 676) (by decide +kernel)) rfl), (ac_T_of (List.mem_of_getElem? (i := 108) (by decide +kernel)) rfl), Or.inl (ac_T_of (List.mem_of_getElem? (i := 674) (by decide +kernel)) rfl), (ac_T_of (List.mem_of_getElem? (i := 675) (by decide +kernel)) rfl)⟩
theorem ml_X5_158 : ac_ML 1 RX5 158 5 yX5_with cX5_with 3 (some .int) 2 := ⟨⟨by decide +kernel, by decide +kernel, by decide +kernel⟩, by decide, (ac_T_of (List.mem_of_getElem? (i := 680) (by decide +kernel)) rfl), (ac_T_of (List.mem_of_getElem? (i := 108) (by decide +kernel)) rfl), Or.inl (ac_T_of (List.mem_of_getElem? (i := 677) (by decide +kernel)) rfl), ⟨(ac_T_of (List.mem_of_getElem? (i := 679) (by decide +kernel)) rfl), (ac_T_of (List.mem_of_getElem? (i := 57) (by decide +kernel)) rfl), (RX5, TX5, 15), rfl, rfl⟩⟩
theorem ml_X5_161 : ac_ML 1 RX5 161 5 yX5_namingsWith cX5_namingsWith 6 (some .int) 2 := ⟨⟨by decide +kernel, by decide +kernel, by decide +kernel⟩, by decide, (ac_T_of (List.mem_of_getElem? (i := 684) (by decide +kernel)) rfl), (ac_T_of (List.mem_of_getElem? (i := 108) (by decide +kernel)) rfl), Or.inl (ac_T_of (List.mem_of_getElem? (i := 681) (by decide +kernel)) rfl), ⟨(ac_T_of (List.mem_of_getElem? (i := 683) (by decide +kernel)) rfl), (ac_T_of (List.mem_of_getElem? (i := 58) (by decide +kernel)) rfl), (RX5, TX5, 15), rfl, rfl⟩⟩
theorem ml_X5_167 : ac_ML 1 RX5 167 3 yX3_pinOf cX3_pinOf 2 (some .int) 1 := ⟨⟨by decide +kernel, by decide +kernel, by decide +kernel⟩, by decide, (ac_T_of (List.mem_of_getElem? (i := 474) (by decide +kernel)) rfl), (ac_T_of (List.mem_of_getElem? (i := 106) (by decide +kernel)) rfl), Or.inr ⟨"AvoidColours", (List.mem_of_getElem? (i := 685) (by decide +kernel))⟩, ⟨(ac_T_of (List.mem_of_getElem? (i := 473) (by decide +kernel)) rfl), (ac_T_of (List.mem_of_getElem? (i := 29) (by decide +kernel)) rfl), (RX3, TX3, 7), rfl, rfl⟩⟩
theorem fl_names : Cond.fieldLink RX5 170 RX5 "NAMES" "[I" ∈ ac_T := (ac_T_of (List.mem_of_getElem? (i := 686) (by decide +kernel)) rfl)
theorem ml_X5_164 : ac_ML 1 RX5 164 5 yX5_lay cX5_lay 3 none 2 := ⟨⟨by decide +kernel, by decide +kernel, by decide +kernel⟩, by decide, (ac_T_of (List.mem_of_getElem? (i := 691) (by decide +kernel)) rfl), (ac_T_of (List.mem_of_getElem? (i := 108) (by decide +kernel)) rfl), Or.inl (ac_T_of (List.mem_of_getElem? (i := 688) (by decide +kernel)) rfl), ⟨(ac_T_of (List.mem_of_getElem? (i := 690) (by decide +kernel)) rfl), (ac_T_of (List.mem_of_getElem? (i := 59) (by decide +kernel)) rfl), (RX5, TX5, 15), rfl, rfl⟩⟩
theorem ml_L_77 : ac_ML 1 RL 77 6 yX6_on cX6_on 4 (some .int) 0 := ⟨⟨by decide +kernel, by decide +kernel, by decide +kernel⟩, by decide, (ac_T_of (List.mem_of_getElem? (i := 695) (by decide +kernel)) rfl), (ac_T_of (List.mem_of_getElem? (i := 104) (by decide +kernel)) rfl), Or.inl (ac_T_of (List.mem_of_getElem? (i := 692) (by decide +kernel)) rfl), ⟨(ac_T_of (List.mem_of_getElem? (i := 693) (by decide +kernel)) rfl), (ac_T_of (List.mem_of_getElem? (i := 694) (by decide +kernel)) rfl), (RX6, TX6, 9), rfl, rfl⟩⟩
theorem ml_L_83 : ac_ML 1 RL 83 6 yX6_judge cX6_judge 5 (some .int) 2 := ⟨⟨by decide +kernel, by decide +kernel, by decide +kernel⟩, by decide, (ac_T_of (List.mem_of_getElem? (i := 699) (by decide +kernel)) rfl), (ac_T_of (List.mem_of_getElem? (i := 104) (by decide +kernel)) rfl), Or.inl (ac_T_of (List.mem_of_getElem? (i := 696) (by decide +kernel)) rfl), ⟨(ac_T_of (List.mem_of_getElem? (i := 697) (by decide +kernel)) rfl), (ac_T_of (List.mem_of_getElem? (i := 698) (by decide +kernel)) rfl), (RX6, TX6, 9), rfl, rfl⟩⟩
theorem ml_X6_217 : ac_ML 0 RX6 217 6 yX6_cutDoings cX6_cutDoings 6 (some .long) 2 := ⟨⟨by decide +kernel, by decide +kernel, by decide +kernel⟩, by decide, (ac_T_of (List.mem_of_getElem? (i := 702) (by decide +kernel)) rfl), (ac_T_of (List.mem_of_getElem? (i := 104) (by decide +kernel)) rfl), Or.inl (ac_T_of (List.mem_of_getElem? (i := 700) (by decide +kernel)) rfl), (ac_T_of (List.mem_of_getElem? (i := 701) (by decide +kernel)) rfl)⟩
theorem ct_X6_221 : Cond.constantLong RX6 221 (Int64.ofInt (10000)) ∈ ac_T := (ac_T_of (List.mem_of_getElem? (i := 703) (by decide +kernel)) rfl)
theorem ml_X6_223 : ac_ML 1 RX6 223 6 yX6_stands cX6_stands 5 (some .boolean) 1 := ⟨⟨by decide +kernel, by decide +kernel, by decide +kernel⟩, by decide, (ac_T_of (List.mem_of_getElem? (i := 707) (by decide +kernel)) rfl), (ac_T_of (List.mem_of_getElem? (i := 104) (by decide +kernel)) rfl), Or.inl (ac_T_of (List.mem_of_getElem? (i := 704) (by decide +kernel)) rfl), ⟨(ac_T_of (List.mem_of_getElem? (i := 706) (by decide +kernel)) rfl), (ac_T_of (List.mem_of_getElem? (i := 60) (by decide +kernel)) rfl), (RX6, TX6, 9), rfl, rfl⟩⟩
theorem ml_L_88 : ac_ML 1 RL 88 6 yX6_see cX6_see 4 (some .int) 3 := ⟨⟨by decide +kernel, by decide +kernel, by decide +kernel⟩, by decide, (ac_T_of (List.mem_of_getElem? (i := 711) (by decide +kernel)) rfl), (ac_T_of (List.mem_of_getElem? (i := 104) (by decide +kernel)) rfl), Or.inl (ac_T_of (List.mem_of_getElem? (i := 708) (by decide +kernel)) rfl), ⟨(ac_T_of (List.mem_of_getElem? (i := 709) (by decide +kernel)) rfl), (ac_T_of (List.mem_of_getElem? (i := 710) (by decide +kernel)) rfl), (RX6, TX6, 9), rfl, rfl⟩⟩
theorem ml_X6_230 : ac_ML 1 RX6 230 2 yX2_note cX2_note 3 (some .boolean) 2 := ⟨⟨by decide +kernel, by decide +kernel, by decide +kernel⟩, by decide, (ac_T_of (List.mem_of_getElem? (i := 715) (by decide +kernel)) rfl), (ac_T_of (List.mem_of_getElem? (i := 109) (by decide +kernel)) rfl), Or.inr ⟨"AvoidColours", (List.mem_of_getElem? (i := 712) (by decide +kernel))⟩, ⟨(ac_T_of (List.mem_of_getElem? (i := 714) (by decide +kernel)) rfl), (ac_T_of (List.mem_of_getElem? (i := 61) (by decide +kernel)) rfl), (RX2, TX2, 3), rfl, rfl⟩⟩
theorem ml_L_93 : ac_ML 1 RL 93 6 yX6_unsee cX6_unsee 2 (some .int) 0 := ⟨⟨by decide +kernel, by decide +kernel, by decide +kernel⟩, by decide, (ac_T_of (List.mem_of_getElem? (i := 719) (by decide +kernel)) rfl), (ac_T_of (List.mem_of_getElem? (i := 104) (by decide +kernel)) rfl), Or.inl (ac_T_of (List.mem_of_getElem? (i := 716) (by decide +kernel)) rfl), ⟨(ac_T_of (List.mem_of_getElem? (i := 717) (by decide +kernel)) rfl), (ac_T_of (List.mem_of_getElem? (i := 718) (by decide +kernel)) rfl), (RX6, TX6, 9), rfl, rfl⟩⟩
theorem ml_L_97 : ac_ML 1 RL 97 6 yX6_which cX6_which 2 (some .int) 1 := ⟨⟨by decide +kernel, by decide +kernel, by decide +kernel⟩, by decide, (ac_T_of (List.mem_of_getElem? (i := 723) (by decide +kernel)) rfl), (ac_T_of (List.mem_of_getElem? (i := 104) (by decide +kernel)) rfl), Or.inl (ac_T_of (List.mem_of_getElem? (i := 720) (by decide +kernel)) rfl), ⟨(ac_T_of (List.mem_of_getElem? (i := 721) (by decide +kernel)) rfl), (ac_T_of (List.mem_of_getElem? (i := 722) (by decide +kernel)) rfl), (RX6, TX6, 9), rfl, rfl⟩⟩
theorem ml_L_101 : ac_ML 1 RL 101 6 yX6_share cX6_share 10 (some .int) 2 := ⟨⟨by decide +kernel, by decide +kernel, by decide +kernel⟩, by decide, (ac_T_of (List.mem_of_getElem? (i := 727) (by decide +kernel)) rfl), (ac_T_of (List.mem_of_getElem? (i := 104) (by decide +kernel)) rfl), Or.inl (ac_T_of (List.mem_of_getElem? (i := 724) (by decide +kernel)) rfl), ⟨(ac_T_of (List.mem_of_getElem? (i := 725) (by decide +kernel)) rfl), (ac_T_of (List.mem_of_getElem? (i := 726) (by decide +kernel)) rfl), (RX6, TX6, 9), rfl, rfl⟩⟩
theorem ml_X6_243 : ac_ML 1 RX6 243 5 yX5_tally cX5_tally 2 none 1 := ⟨⟨by decide +kernel, by decide +kernel, by decide +kernel⟩, by decide, (ac_T_of (List.mem_of_getElem? (i := 731) (by decide +kernel)) rfl), (ac_T_of (List.mem_of_getElem? (i := 108) (by decide +kernel)) rfl), Or.inr ⟨"AvoidColours", (List.mem_of_getElem? (i := 728) (by decide +kernel))⟩, ⟨(ac_T_of (List.mem_of_getElem? (i := 730) (by decide +kernel)) rfl), (ac_T_of (List.mem_of_getElem? (i := 62) (by decide +kernel)) rfl), (RX5, TX5, 15), rfl, rfl⟩⟩
theorem ml_X5_173 : ac_ML 0 RX5 173 5 yX5_spread cX5_spread 3 none 2 := ⟨⟨by decide +kernel, by decide +kernel, by decide +kernel⟩, by decide, (ac_T_of (List.mem_of_getElem? (i := 734) (by decide +kernel)) rfl), (ac_T_of (List.mem_of_getElem? (i := 108) (by decide +kernel)) rfl), Or.inl (ac_T_of (List.mem_of_getElem? (i := 732) (by decide +kernel)) rfl), (ac_T_of (List.mem_of_getElem? (i := 733) (by decide +kernel)) rfl)⟩
theorem ml_X5_176 : ac_ML 1 RX5 176 5 yX5_mark cX5_mark 6 none 0 := ⟨⟨by decide +kernel, by decide +kernel, by decide +kernel⟩, by decide, (ac_T_of (List.mem_of_getElem? (i := 738) (by decide +kernel)) rfl), (ac_T_of (List.mem_of_getElem? (i := 108) (by decide +kernel)) rfl), Or.inl (ac_T_of (List.mem_of_getElem? (i := 735) (by decide +kernel)) rfl), ⟨(ac_T_of (List.mem_of_getElem? (i := 737) (by decide +kernel)) rfl), (ac_T_of (List.mem_of_getElem? (i := 63) (by decide +kernel)) rfl), (RX5, TX5, 15), rfl, rfl⟩⟩
theorem ml_X6_246 : ac_ML 0 RX6 246 0 yJ6_bitCount_0f7a4 cJ6_bitCount_0f7a4 1 (some .int) 1 := ⟨⟨by decide +kernel, by decide +kernel, by decide +kernel⟩, by decide, (ac_T_of (List.mem_of_getElem? (i := 571) (by decide +kernel)) rfl), (ac_T_of (List.mem_of_getElem? (i := 115) (by decide +kernel)) rfl), Or.inl (ac_T_of (List.mem_of_getElem? (i := 739) (by decide +kernel)) rfl), (ac_T_of (List.mem_of_getElem? (i := 570) (by decide +kernel)) rfl)⟩
theorem ml_X6_251 : ac_ML 0 RX6 251 6 yX6_factorial cX6_factorial 4 (some .long) 1 := ⟨⟨by decide +kernel, by decide +kernel, by decide +kernel⟩, by decide, (ac_T_of (List.mem_of_getElem? (i := 742) (by decide +kernel)) rfl), (ac_T_of (List.mem_of_getElem? (i := 104) (by decide +kernel)) rfl), Or.inl (ac_T_of (List.mem_of_getElem? (i := 740) (by decide +kernel)) rfl), (ac_T_of (List.mem_of_getElem? (i := 741) (by decide +kernel)) rfl)⟩
theorem ml_X6_255 : ac_ML 1 RX6 255 5 yX5_heeding cX5_heeding 4 (some .int) 1 := ⟨⟨by decide +kernel, by decide +kernel, by decide +kernel⟩, by decide, (ac_T_of (List.mem_of_getElem? (i := 746) (by decide +kernel)) rfl), (ac_T_of (List.mem_of_getElem? (i := 108) (by decide +kernel)) rfl), Or.inr ⟨"AvoidColours", (List.mem_of_getElem? (i := 743) (by decide +kernel))⟩, ⟨(ac_T_of (List.mem_of_getElem? (i := 745) (by decide +kernel)) rfl), (ac_T_of (List.mem_of_getElem? (i := 64) (by decide +kernel)) rfl), (RX5, TX5, 15), rfl, rfl⟩⟩
theorem ml_X6_258 : ac_ML 0 RX6 258 6 yX6_fraction cX6_fraction 12 (some .int) 3 := ⟨⟨by decide +kernel, by decide +kernel, by decide +kernel⟩, by decide, (ac_T_of (List.mem_of_getElem? (i := 749) (by decide +kernel)) rfl), (ac_T_of (List.mem_of_getElem? (i := 104) (by decide +kernel)) rfl), Or.inl (ac_T_of (List.mem_of_getElem? (i := 747) (by decide +kernel)) rfl), (ac_T_of (List.mem_of_getElem? (i := 748) (by decide +kernel)) rfl)⟩
theorem ml_L_106 : ac_ML 1 RL 106 6 yX6_luck cX6_luck 2 (some .int) 1 := ⟨⟨by decide +kernel, by decide +kernel, by decide +kernel⟩, by decide, (ac_T_of (List.mem_of_getElem? (i := 753) (by decide +kernel)) rfl), (ac_T_of (List.mem_of_getElem? (i := 104) (by decide +kernel)) rfl), Or.inl (ac_T_of (List.mem_of_getElem? (i := 750) (by decide +kernel)) rfl), ⟨(ac_T_of (List.mem_of_getElem? (i := 751) (by decide +kernel)) rfl), (ac_T_of (List.mem_of_getElem? (i := 752) (by decide +kernel)) rfl), (RX6, TX6, 9), rfl, rfl⟩⟩
theorem ml_X6_262 : ac_ML 0 RX6 262 6 yX6_power cX6_power 5 (some .long) 2 := ⟨⟨by decide +kernel, by decide +kernel, by decide +kernel⟩, by decide, (ac_T_of (List.mem_of_getElem? (i := 756) (by decide +kernel)) rfl), (ac_T_of (List.mem_of_getElem? (i := 104) (by decide +kernel)) rfl), Or.inl (ac_T_of (List.mem_of_getElem? (i := 754) (by decide +kernel)) rfl), (ac_T_of (List.mem_of_getElem? (i := 755) (by decide +kernel)) rfl)⟩
theorem ml_L_111 : ac_ML 1 RL 111 6 yX6_lost cX6_lost 8 (some .int) 2 := ⟨⟨by decide +kernel, by decide +kernel, by decide +kernel⟩, by decide, (ac_T_of (List.mem_of_getElem? (i := 760) (by decide +kernel)) rfl), (ac_T_of (List.mem_of_getElem? (i := 104) (by decide +kernel)) rfl), Or.inl (ac_T_of (List.mem_of_getElem? (i := 757) (by decide +kernel)) rfl), ⟨(ac_T_of (List.mem_of_getElem? (i := 758) (by decide +kernel)) rfl), (ac_T_of (List.mem_of_getElem? (i := 759) (by decide +kernel)) rfl), (RX6, TX6, 9), rfl, rfl⟩⟩
theorem ml_L_115 : ac_ML 1 RL 115 6 yX6_seed cX6_seed 5 (some .long) 1 := ⟨⟨by decide +kernel, by decide +kernel, by decide +kernel⟩, by decide, (ac_T_of (List.mem_of_getElem? (i := 764) (by decide +kernel)) rfl), (ac_T_of (List.mem_of_getElem? (i := 104) (by decide +kernel)) rfl), Or.inl (ac_T_of (List.mem_of_getElem? (i := 761) (by decide +kernel)) rfl), ⟨(ac_T_of (List.mem_of_getElem? (i := 762) (by decide +kernel)) rfl), (ac_T_of (List.mem_of_getElem? (i := 763) (by decide +kernel)) rfl), (RX6, TX6, 9), rfl, rfl⟩⟩
theorem ml_L_120 : ac_ML 1 RL 120 6 yX6_drawn cX6_drawn 4 (some .int) 1 := ⟨⟨by decide +kernel, by decide +kernel, by decide +kernel⟩, by decide, (ac_T_of (List.mem_of_getElem? (i := 768) (by decide +kernel)) rfl), (ac_T_of (List.mem_of_getElem? (i := 104) (by decide +kernel)) rfl), Or.inl (ac_T_of (List.mem_of_getElem? (i := 765) (by decide +kernel)) rfl), ⟨(ac_T_of (List.mem_of_getElem? (i := 766) (by decide +kernel)) rfl), (ac_T_of (List.mem_of_getElem? (i := 767) (by decide +kernel)) rfl), (RX6, TX6, 9), rfl, rfl⟩⟩
theorem ml_X6_270 : ac_ML 1 RX6 270 6 yX6_drawAll cX6_drawAll 2 (some .int) 0 := ⟨⟨by decide +kernel, by decide +kernel, by decide +kernel⟩, by decide, (ac_T_of (List.mem_of_getElem? (i := 772) (by decide +kernel)) rfl), (ac_T_of (List.mem_of_getElem? (i := 104) (by decide +kernel)) rfl), Or.inl (ac_T_of (List.mem_of_getElem? (i := 769) (by decide +kernel)) rfl), ⟨(ac_T_of (List.mem_of_getElem? (i := 771) (by decide +kernel)) rfl), (ac_T_of (List.mem_of_getElem? (i := 65) (by decide +kernel)) rfl), (RX6, TX6, 9), rfl, rfl⟩⟩
theorem ml_X6_289 : ac_ML 1 RX6 289 6 yX6_draw cX6_draw 5 (some .boolean) 1 := ⟨⟨by decide +kernel, by decide +kernel, by decide +kernel⟩, by decide, (ac_T_of (List.mem_of_getElem? (i := 776) (by decide +kernel)) rfl), (ac_T_of (List.mem_of_getElem? (i := 104) (by decide +kernel)) rfl), Or.inl (ac_T_of (List.mem_of_getElem? (i := 773) (by decide +kernel)) rfl), ⟨(ac_T_of (List.mem_of_getElem? (i := 775) (by decide +kernel)) rfl), (ac_T_of (List.mem_of_getElem? (i := 66) (by decide +kernel)) rfl), (RX6, TX6, 9), rfl, rfl⟩⟩
theorem ct_X6_292 : Cond.constantLong RX6 292 (Int64.ofInt (6364136223846793005)) ∈ ac_T := (ac_T_of (List.mem_of_getElem? (i := 777) (by decide +kernel)) rfl)
theorem ct_X6_294 : Cond.constantLong RX6 294 (Int64.ofInt (1442695040888963407)) ∈ ac_T := (ac_T_of (List.mem_of_getElem? (i := 778) (by decide +kernel)) rfl)
theorem ml_X6_296 : ac_ML 1 RX6 296 5 yX5_put cX5_put 4 (some .boolean) 2 := ⟨⟨by decide +kernel, by decide +kernel, by decide +kernel⟩, by decide, (ac_T_of (List.mem_of_getElem? (i := 373) (by decide +kernel)) rfl), (ac_T_of (List.mem_of_getElem? (i := 108) (by decide +kernel)) rfl), Or.inr ⟨"AvoidColours", (List.mem_of_getElem? (i := 779) (by decide +kernel))⟩, ⟨(ac_T_of (List.mem_of_getElem? (i := 372) (by decide +kernel)) rfl), (ac_T_of (List.mem_of_getElem? (i := 14) (by decide +kernel)) rfl), (RX5, TX5, 15), rfl, rfl⟩⟩
theorem ml_L_124 : ac_ML 1 RL 124 6 yX6_keep cX6_keep 3 (some .int) 1 := ⟨⟨by decide +kernel, by decide +kernel, by decide +kernel⟩, by decide, (ac_T_of (List.mem_of_getElem? (i := 783) (by decide +kernel)) rfl), (ac_T_of (List.mem_of_getElem? (i := 104) (by decide +kernel)) rfl), Or.inl (ac_T_of (List.mem_of_getElem? (i := 780) (by decide +kernel)) rfl), ⟨(ac_T_of (List.mem_of_getElem? (i := 781) (by decide +kernel)) rfl), (ac_T_of (List.mem_of_getElem? (i := 782) (by decide +kernel)) rfl), (RX6, TX6, 9), rfl, rfl⟩⟩
theorem ml_L_128 : ac_ML 1 RL 128 6 yX6_again cX6_again 3 (some .int) 1 := ⟨⟨by decide +kernel, by decide +kernel, by decide +kernel⟩, by decide, (ac_T_of (List.mem_of_getElem? (i := 787) (by decide +kernel)) rfl), (ac_T_of (List.mem_of_getElem? (i := 104) (by decide +kernel)) rfl), Or.inl (ac_T_of (List.mem_of_getElem? (i := 784) (by decide +kernel)) rfl), ⟨(ac_T_of (List.mem_of_getElem? (i := 785) (by decide +kernel)) rfl), (ac_T_of (List.mem_of_getElem? (i := 786) (by decide +kernel)) rfl), (RX6, TX6, 9), rfl, rfl⟩⟩
theorem ml_L_132 : ac_ML 1 RL 132 6 yX6_count cX6_count 2 (some .int) 1 := ⟨⟨by decide +kernel, by decide +kernel, by decide +kernel⟩, by decide, (ac_T_of (List.mem_of_getElem? (i := 791) (by decide +kernel)) rfl), (ac_T_of (List.mem_of_getElem? (i := 104) (by decide +kernel)) rfl), Or.inl (ac_T_of (List.mem_of_getElem? (i := 788) (by decide +kernel)) rfl), ⟨(ac_T_of (List.mem_of_getElem? (i := 789) (by decide +kernel)) rfl), (ac_T_of (List.mem_of_getElem? (i := 790) (by decide +kernel)) rfl), (RX6, TX6, 9), rfl, rfl⟩⟩
theorem ml_X6_273 : ac_ML 1 RX6 273 3 yX3_pinned cX3_pinned 3 (some .int) 0 := ⟨⟨by decide +kernel, by decide +kernel, by decide +kernel⟩, by decide, (ac_T_of (List.mem_of_getElem? (i := 470) (by decide +kernel)) rfl), (ac_T_of (List.mem_of_getElem? (i := 106) (by decide +kernel)) rfl), Or.inr ⟨"AvoidColours", (List.mem_of_getElem? (i := 792) (by decide +kernel))⟩, ⟨(ac_T_of (List.mem_of_getElem? (i := 469) (by decide +kernel)) rfl), (ac_T_of (List.mem_of_getElem? (i := 28) (by decide +kernel)) rfl), (RX3, TX3, 7), rfl, rfl⟩⟩
theorem nlr_L_10 : Cond.classLink RL 10 RX7 ∈ ac_T := (ac_T_of (List.mem_of_getElem? (i := 793) (by decide +kernel)) rfl)
theorem nl_L_10 : ac_NL RL 10 7 := ⟨(RX7, TX7, 28), tyX7, cl_7, by decide +kernel, nlr_L_10, (ac_T_of (List.mem_of_getElem? (i := 794) (by decide +kernel)) rfl), (ac_T_of (List.mem_of_getElem? (i := 114) (by decide +kernel)) rfl)⟩
theorem ml_L_12 : ac_ML 2 RL 12 7 yX7_init cX7_init 1 none 0 := ⟨⟨by decide +kernel, by decide +kernel, by decide +kernel⟩, by decide, (ac_T_of (List.mem_of_getElem? (i := 797) (by decide +kernel)) rfl), (ac_T_of (List.mem_of_getElem? (i := 114) (by decide +kernel)) rfl), Or.inl (ac_T_of (List.mem_of_getElem? (i := 795) (by decide +kernel)) rfl), ⟨(ac_T_of (List.mem_of_getElem? (i := 796) (by decide +kernel)) rfl), rfl, rfl⟩⟩
theorem ml_X7_1 : Cond.methodLink RX7 1 Lib.objectInit ∈ ac_T := (ac_T_of (List.mem_of_getElem? (i := 798) (by decide +kernel)) rfl)
theorem ct_X7_60 : Cond.constant RX7 60 (Int32.ofInt (59049)) ∈ ac_T := (ac_T_of (List.mem_of_getElem? (i := 799) (by decide +kernel)) rfl)
theorem fl_X7_67 : ac_FL true RX7 67 7 0 := ⟨(RX7, TX7, 28), tyX7, cl_7, (show 0 < 28 by decide), rfl, rfl, Or.inl ⟨(ac_T_of (List.mem_of_getElem? (i := 800) (by decide +kernel)) rfl), rfl⟩⟩
theorem fl_X7_7 : ac_FL true RX7 7 7 1 := ⟨(RX7, TX7, 28), tyX7, cl_7, (show 1 < 28 by decide), rfl, rfl, Or.inl ⟨(ac_T_of (List.mem_of_getElem? (i := 801) (by decide +kernel)) rfl), rfl⟩⟩
theorem fl_X7_76 : ac_FL true RX7 76 7 2 := ⟨(RX7, TX7, 28), tyX7, cl_7, (show 2 < 28 by decide), rfl, rfl, Or.inl ⟨(ac_T_of (List.mem_of_getElem? (i := 802) (by decide +kernel)) rfl), rfl⟩⟩
theorem fl_X7_79 : ac_FL true RX7 79 7 3 := ⟨(RX7, TX7, 28), tyX7, cl_7, (show 3 < 28 by decide), rfl, rfl, Or.inl ⟨(ac_T_of (List.mem_of_getElem? (i := 803) (by decide +kernel)) rfl), rfl⟩⟩
theorem fl_X7_13 : ac_FL true RX7 13 7 4 := ⟨(RX7, TX7, 28), tyX7, cl_7, (show 4 < 28 by decide), rfl, rfl, Or.inl ⟨(ac_T_of (List.mem_of_getElem? (i := 804) (by decide +kernel)) rfl), rfl⟩⟩
theorem fl_X7_98 : ac_FL true RX7 98 7 5 := ⟨(RX7, TX7, 28), tyX7, cl_7, (show 5 < 28 by decide), rfl, rfl, Or.inl ⟨(ac_T_of (List.mem_of_getElem? (i := 805) (by decide +kernel)) rfl), rfl⟩⟩
theorem fl_X7_17 : ac_FL true RX7 17 7 6 := ⟨(RX7, TX7, 28), tyX7, cl_7, (show 6 < 28 by decide), rfl, rfl, Or.inl ⟨(ac_T_of (List.mem_of_getElem? (i := 806) (by decide +kernel)) rfl), rfl⟩⟩
theorem fl_X7_20 : ac_FL true RX7 20 7 7 := ⟨(RX7, TX7, 28), tyX7, cl_7, (show 7 < 28 by decide), rfl, rfl, Or.inl ⟨(ac_T_of (List.mem_of_getElem? (i := 807) (by decide +kernel)) rfl), rfl⟩⟩
theorem fl_X7_23 : ac_FL true RX7 23 7 8 := ⟨(RX7, TX7, 28), tyX7, cl_7, (show 8 < 28 by decide), rfl, rfl, Or.inl ⟨(ac_T_of (List.mem_of_getElem? (i := 808) (by decide +kernel)) rfl), rfl⟩⟩
theorem fl_X7_26 : ac_FL true RX7 26 7 9 := ⟨(RX7, TX7, 28), tyX7, cl_7, (show 9 < 28 by decide), rfl, rfl, Or.inl ⟨(ac_T_of (List.mem_of_getElem? (i := 809) (by decide +kernel)) rfl), rfl⟩⟩
theorem fl_X7_115 : ac_FL true RX7 115 7 10 := ⟨(RX7, TX7, 28), tyX7, cl_7, (show 10 < 28 by decide), rfl, rfl, Or.inl ⟨(ac_T_of (List.mem_of_getElem? (i := 810) (by decide +kernel)) rfl), rfl⟩⟩
theorem fl_X7_29 : ac_FL true RX7 29 7 11 := ⟨(RX7, TX7, 28), tyX7, cl_7, (show 11 < 28 by decide), rfl, rfl, Or.inl ⟨(ac_T_of (List.mem_of_getElem? (i := 811) (by decide +kernel)) rfl), rfl⟩⟩
theorem fl_X7_32 : ac_FL true RX7 32 7 12 := ⟨(RX7, TX7, 28), tyX7, cl_7, (show 12 < 28 by decide), rfl, rfl, Or.inl ⟨(ac_T_of (List.mem_of_getElem? (i := 812) (by decide +kernel)) rfl), rfl⟩⟩
theorem fl_X7_253 : ac_FL true RX7 253 7 13 := ⟨(RX7, TX7, 28), tyX7, cl_7, (show 13 < 28 by decide), rfl, rfl, Or.inl ⟨(ac_T_of (List.mem_of_getElem? (i := 813) (by decide +kernel)) rfl), rfl⟩⟩
theorem fl_X7_36 : ac_FL true RX7 36 7 14 := ⟨(RX7, TX7, 28), tyX7, cl_7, (show 14 < 28 by decide), rfl, rfl, Or.inl ⟨(ac_T_of (List.mem_of_getElem? (i := 814) (by decide +kernel)) rfl), rfl⟩⟩
theorem fl_X7_39 : ac_FL true RX7 39 7 15 := ⟨(RX7, TX7, 28), tyX7, cl_7, (show 15 < 28 by decide), rfl, rfl, Or.inl ⟨(ac_T_of (List.mem_of_getElem? (i := 815) (by decide +kernel)) rfl), rfl⟩⟩
theorem fl_X7_42 : ac_FL true RX7 42 7 16 := ⟨(RX7, TX7, 28), tyX7, cl_7, (show 16 < 28 by decide), rfl, rfl, Or.inl ⟨(ac_T_of (List.mem_of_getElem? (i := 816) (by decide +kernel)) rfl), rfl⟩⟩
theorem fl_X7_269 : ac_FL true RX7 269 7 17 := ⟨(RX7, TX7, 28), tyX7, cl_7, (show 17 < 28 by decide), rfl, rfl, Or.inl ⟨(ac_T_of (List.mem_of_getElem? (i := 817) (by decide +kernel)) rfl), rfl⟩⟩
theorem fl_X7_45 : ac_FL true RX7 45 7 18 := ⟨(RX7, TX7, 28), tyX7, cl_7, (show 18 < 28 by decide), rfl, rfl, Or.inl ⟨(ac_T_of (List.mem_of_getElem? (i := 818) (by decide +kernel)) rfl), rfl⟩⟩
theorem fl_X7_48 : ac_FL true RX7 48 7 19 := ⟨(RX7, TX7, 28), tyX7, cl_7, (show 19 < 28 by decide), rfl, rfl, Or.inl ⟨(ac_T_of (List.mem_of_getElem? (i := 819) (by decide +kernel)) rfl), rfl⟩⟩
theorem fl_X7_51 : ac_FL true RX7 51 7 20 := ⟨(RX7, TX7, 28), tyX7, cl_7, (show 20 < 28 by decide), rfl, rfl, Or.inl ⟨(ac_T_of (List.mem_of_getElem? (i := 820) (by decide +kernel)) rfl), rfl⟩⟩
theorem fl_X7_54 : ac_FL true RX7 54 7 21 := ⟨(RX7, TX7, 28), tyX7, cl_7, (show 21 < 28 by decide), rfl, rfl, Or.inl ⟨(ac_T_of (List.mem_of_getElem? (i := 821) (by decide +kernel)) rfl), rfl⟩⟩
theorem fl_X7_142 : ac_FL true RX7 142 7 22 := ⟨(RX7, TX7, 28), tyX7, cl_7, (show 22 < 28 by decide), rfl, rfl, Or.inl ⟨(ac_T_of (List.mem_of_getElem? (i := 822) (by decide +kernel)) rfl), rfl⟩⟩
theorem fl_X7_134 : ac_FL true RX7 134 7 23 := ⟨(RX7, TX7, 28), tyX7, cl_7, (show 23 < 28 by decide), rfl, rfl, Or.inl ⟨(ac_T_of (List.mem_of_getElem? (i := 823) (by decide +kernel)) rfl), rfl⟩⟩
theorem fl_X7_145 : ac_FL true RX7 145 7 24 := ⟨(RX7, TX7, 28), tyX7, cl_7, (show 24 < 28 by decide), rfl, rfl, Or.inl ⟨(ac_T_of (List.mem_of_getElem? (i := 824) (by decide +kernel)) rfl), rfl⟩⟩
theorem fl_X7_57 : ac_FL true RX7 57 7 25 := ⟨(RX7, TX7, 28), tyX7, cl_7, (show 25 < 28 by decide), rfl, rfl, Or.inl ⟨(ac_T_of (List.mem_of_getElem? (i := 825) (by decide +kernel)) rfl), rfl⟩⟩
theorem fl_X7_61 : ac_FL true RX7 61 7 26 := ⟨(RX7, TX7, 28), tyX7, cl_7, (show 26 < 28 by decide), rfl, rfl, Or.inl ⟨(ac_T_of (List.mem_of_getElem? (i := 826) (by decide +kernel)) rfl), rfl⟩⟩
theorem fl_X7_64 : ac_FL true RX7 64 7 27 := ⟨(RX7, TX7, 28), tyX7, cl_7, (show 27 < 28 by decide), rfl, rfl, Or.inl ⟨(ac_T_of (List.mem_of_getElem? (i := 827) (by decide +kernel)) rfl), rfl⟩⟩
theorem ml_L_17 : ac_ML 1 RL 17 7 yX7_write cX7_write 2 (some .int) 1 := ⟨⟨by decide +kernel, by decide +kernel, by decide +kernel⟩, by decide, (ac_T_of (List.mem_of_getElem? (i := 888) (by decide +kernel)) rfl), (ac_T_of (List.mem_of_getElem? (i := 114) (by decide +kernel)) rfl), Or.inl (ac_T_of (List.mem_of_getElem? (i := 885) (by decide +kernel)) rfl), ⟨(ac_T_of (List.mem_of_getElem? (i := 886) (by decide +kernel)) rfl), (ac_T_of (List.mem_of_getElem? (i := 887) (by decide +kernel)) rfl), (RX7, TX7, 28), rfl, rfl⟩⟩
theorem ct_X7_70 : Cond.constantLong RX7 70 (Int64.ofInt (255)) ∈ ac_T := (ac_T_of (List.mem_of_getElem? (i := 889) (by decide +kernel)) rfl)
theorem ml_X7_72 : ac_ML 0 RX7 72 7 yX7_in cX7_in 6 (some .boolean) 3 := ⟨⟨by decide +kernel, by decide +kernel, by decide +kernel⟩, by decide, (ac_T_of (List.mem_of_getElem? (i := 892) (by decide +kernel)) rfl), (ac_T_of (List.mem_of_getElem? (i := 114) (by decide +kernel)) rfl), Or.inl (ac_T_of (List.mem_of_getElem? (i := 890) (by decide +kernel)) rfl), (ac_T_of (List.mem_of_getElem? (i := 891) (by decide +kernel)) rfl)⟩
theorem ml_L_22 : ac_ML 1 RL 22 7 yX7_wipe cX7_wipe 2 (some .int) 0 := ⟨⟨by decide +kernel, by decide +kernel, by decide +kernel⟩, by decide, (ac_T_of (List.mem_of_getElem? (i := 896) (by decide +kernel)) rfl), (ac_T_of (List.mem_of_getElem? (i := 114) (by decide +kernel)) rfl), Or.inl (ac_T_of (List.mem_of_getElem? (i := 893) (by decide +kernel)) rfl), ⟨(ac_T_of (List.mem_of_getElem? (i := 894) (by decide +kernel)) rfl), (ac_T_of (List.mem_of_getElem? (i := 895) (by decide +kernel)) rfl), (RX7, TX7, 28), rfl, rfl⟩⟩
theorem ml_L_26 : ac_ML 1 RL 26 7 yX7_fault cX7_fault 1 (some .int) 0 := ⟨⟨by decide +kernel, by decide +kernel, by decide +kernel⟩, by decide, (ac_T_of (List.mem_of_getElem? (i := 900) (by decide +kernel)) rfl), (ac_T_of (List.mem_of_getElem? (i := 114) (by decide +kernel)) rfl), Or.inl (ac_T_of (List.mem_of_getElem? (i := 897) (by decide +kernel)) rfl), ⟨(ac_T_of (List.mem_of_getElem? (i := 898) (by decide +kernel)) rfl), (ac_T_of (List.mem_of_getElem? (i := 899) (by decide +kernel)) rfl), (RX7, TX7, 28), rfl, rfl⟩⟩
theorem ml_X7_108 : ac_ML 1 RX7 108 7 yX7_readTask cX7_readTask 4 (some .int) 0 := ⟨⟨by decide +kernel, by decide +kernel, by decide +kernel⟩, by decide, (ac_T_of (List.mem_of_getElem? (i := 904) (by decide +kernel)) rfl), (ac_T_of (List.mem_of_getElem? (i := 114) (by decide +kernel)) rfl), Or.inl (ac_T_of (List.mem_of_getElem? (i := 901) (by decide +kernel)) rfl), ⟨(ac_T_of (List.mem_of_getElem? (i := 903) (by decide +kernel)) rfl), (ac_T_of (List.mem_of_getElem? (i := 67) (by decide +kernel)) rfl), (RX7, TX7, 28), rfl, rfl⟩⟩
theorem ml_X7_84 : ac_ML 1 RX7 84 7 yX7_figure cX7_figure 4 (some .int) 2 := ⟨⟨by decide +kernel, by decide +kernel, by decide +kernel⟩, by decide, (ac_T_of (List.mem_of_getElem? (i := 908) (by decide +kernel)) rfl), (ac_T_of (List.mem_of_getElem? (i := 114) (by decide +kernel)) rfl), Or.inl (ac_T_of (List.mem_of_getElem? (i := 905) (by decide +kernel)) rfl), ⟨(ac_T_of (List.mem_of_getElem? (i := 907) (by decide +kernel)) rfl), (ac_T_of (List.mem_of_getElem? (i := 68) (by decide +kernel)) rfl), (RX7, TX7, 28), rfl, rfl⟩⟩
theorem ml_X7_101 : ac_ML 1 RX7 101 7 yX7_readEquation cX7_readEquation 4 (some .boolean) 0 := ⟨⟨by decide +kernel, by decide +kernel, by decide +kernel⟩, by decide, (ac_T_of (List.mem_of_getElem? (i := 912) (by decide +kernel)) rfl), (ac_T_of (List.mem_of_getElem? (i := 114) (by decide +kernel)) rfl), Or.inl (ac_T_of (List.mem_of_getElem? (i := 909) (by decide +kernel)) rfl), ⟨(ac_T_of (List.mem_of_getElem? (i := 911) (by decide +kernel)) rfl), (ac_T_of (List.mem_of_getElem? (i := 69) (by decide +kernel)) rfl), (RX7, TX7, 28), rfl, rfl⟩⟩
theorem ml_X7_88 : ac_ML 1 RX7 88 7 yX7_factor cX7_factor 2 (some .int) 0 := ⟨⟨by decide +kernel, by decide +kernel, by decide +kernel⟩, by decide, (ac_T_of (List.mem_of_getElem? (i := 916) (by decide +kernel)) rfl), (ac_T_of (List.mem_of_getElem? (i := 114) (by decide +kernel)) rfl), Or.inl (ac_T_of (List.mem_of_getElem? (i := 913) (by decide +kernel)) rfl), ⟨(ac_T_of (List.mem_of_getElem? (i := 915) (by decide +kernel)) rfl), (ac_T_of (List.mem_of_getElem? (i := 70) (by decide +kernel)) rfl), (RX7, TX7, 28), rfl, rfl⟩⟩
theorem ct_X7_82 : Cond.constantLong RX7 82 (Int64.ofInt (4)) ∈ ac_T := (ac_T_of (List.mem_of_getElem? (i := 917) (by decide +kernel)) rfl)
theorem ml_X7_105 : ac_ML 1 RX7 105 7 yX7_readPin cX7_readPin 6 (some .boolean) 0 := ⟨⟨by decide +kernel, by decide +kernel, by decide +kernel⟩, by decide, (ac_T_of (List.mem_of_getElem? (i := 921) (by decide +kernel)) rfl), (ac_T_of (List.mem_of_getElem? (i := 114) (by decide +kernel)) rfl), Or.inl (ac_T_of (List.mem_of_getElem? (i := 918) (by decide +kernel)) rfl), ⟨(ac_T_of (List.mem_of_getElem? (i := 920) (by decide +kernel)) rfl), (ac_T_of (List.mem_of_getElem? (i := 71) (by decide +kernel)) rfl), (RX7, TX7, 28), rfl, rfl⟩⟩
theorem ml_X7_92 : ac_ML 1 RX7 92 7 yX7_isBare cX7_isBare 2 (some .boolean) 1 := ⟨⟨by decide +kernel, by decide +kernel, by decide +kernel⟩, by decide, (ac_T_of (List.mem_of_getElem? (i := 925) (by decide +kernel)) rfl), (ac_T_of (List.mem_of_getElem? (i := 114) (by decide +kernel)) rfl), Or.inl (ac_T_of (List.mem_of_getElem? (i := 922) (by decide +kernel)) rfl), ⟨(ac_T_of (List.mem_of_getElem? (i := 924) (by decide +kernel)) rfl), (ac_T_of (List.mem_of_getElem? (i := 72) (by decide +kernel)) rfl), (RX7, TX7, 28), rfl, rfl⟩⟩
theorem ct_X7_96 : Cond.constantLong RX7 96 (Int64.ofInt (9)) ∈ ac_T := (ac_T_of (List.mem_of_getElem? (i := 926) (by decide +kernel)) rfl)
theorem ml_L_30 : ac_ML 1 RL 30 7 yX7_task cX7_task 2 (some .int) 0 := ⟨⟨by decide +kernel, by decide +kernel, by decide +kernel⟩, by decide, (ac_T_of (List.mem_of_getElem? (i := 930) (by decide +kernel)) rfl), (ac_T_of (List.mem_of_getElem? (i := 114) (by decide +kernel)) rfl), Or.inl (ac_T_of (List.mem_of_getElem? (i := 927) (by decide +kernel)) rfl), ⟨(ac_T_of (List.mem_of_getElem? (i := 928) (by decide +kernel)) rfl), (ac_T_of (List.mem_of_getElem? (i := 929) (by decide +kernel)) rfl), (RX7, TX7, 28), rfl, rfl⟩⟩
theorem ml_X7_111 : ac_ML 1 RX7 111 7 yX7_settleOn cX7_settleOn 2 none 1 := ⟨⟨by decide +kernel, by decide +kernel, by decide +kernel⟩, by decide, (ac_T_of (List.mem_of_getElem? (i := 934) (by decide +kernel)) rfl), (ac_T_of (List.mem_of_getElem? (i := 114) (by decide +kernel)) rfl), Or.inl (ac_T_of (List.mem_of_getElem? (i := 931) (by decide +kernel)) rfl), ⟨(ac_T_of (List.mem_of_getElem? (i := 933) (by decide +kernel)) rfl), (ac_T_of (List.mem_of_getElem? (i := 73) (by decide +kernel)) rfl), (RX7, TX7, 28), rfl, rfl⟩⟩
theorem ml_X7_178 : ac_ML 1 RX7 178 7 yX7_numberOf cX7_numberOf 3 (some .int) 1 := ⟨⟨by decide +kernel, by decide +kernel, by decide +kernel⟩, by decide, (ac_T_of (List.mem_of_getElem? (i := 938) (by decide +kernel)) rfl), (ac_T_of (List.mem_of_getElem? (i := 114) (by decide +kernel)) rfl), Or.inl (ac_T_of (List.mem_of_getElem? (i := 935) (by decide +kernel)) rfl), ⟨(ac_T_of (List.mem_of_getElem? (i := 937) (by decide +kernel)) rfl), (ac_T_of (List.mem_of_getElem? (i := 74) (by decide +kernel)) rfl), (RX7, TX7, 28), rfl, rfl⟩⟩
theorem ml_X7_171 : ac_ML 1 RX7 171 7 yX7_beginAll cX7_beginAll 2 none 1 := ⟨⟨by decide +kernel, by decide +kernel, by decide +kernel⟩, by decide, (ac_T_of (List.mem_of_getElem? (i := 942) (by decide +kernel)) rfl), (ac_T_of (List.mem_of_getElem? (i := 114) (by decide +kernel)) rfl), Or.inl (ac_T_of (List.mem_of_getElem? (i := 939) (by decide +kernel)) rfl), ⟨(ac_T_of (List.mem_of_getElem? (i := 941) (by decide +kernel)) rfl), (ac_T_of (List.mem_of_getElem? (i := 75) (by decide +kernel)) rfl), (RX7, TX7, 28), rfl, rfl⟩⟩
theorem ml_X7_157 : ac_ML 0 RX7 157 7 yX7_all cX7_all 1 (some .int) 1 := ⟨⟨by decide +kernel, by decide +kernel, by decide +kernel⟩, by decide, (ac_T_of (List.mem_of_getElem? (i := 945) (by decide +kernel)) rfl), (ac_T_of (List.mem_of_getElem? (i := 114) (by decide +kernel)) rfl), Or.inl (ac_T_of (List.mem_of_getElem? (i := 943) (by decide +kernel)) rfl), (ac_T_of (List.mem_of_getElem? (i := 944) (by decide +kernel)) rfl)⟩
theorem ml_X7_160 : ac_ML 1 RX7 160 7 yX7_begin cX7_begin 6 none 4 := ⟨⟨by decide +kernel, by decide +kernel, by decide +kernel⟩, by decide, (ac_T_of (List.mem_of_getElem? (i := 949) (by decide +kernel)) rfl), (ac_T_of (List.mem_of_getElem? (i := 114) (by decide +kernel)) rfl), Or.inl (ac_T_of (List.mem_of_getElem? (i := 946) (by decide +kernel)) rfl), ⟨(ac_T_of (List.mem_of_getElem? (i := 948) (by decide +kernel)) rfl), (ac_T_of (List.mem_of_getElem? (i := 76) (by decide +kernel)) rfl), (RX7, TX7, 28), rfl, rfl⟩⟩
theorem ml_X7_138 : ac_ML 1 RX7 138 7 yX7_laySets cX7_laySets 9 none 2 := ⟨⟨by decide +kernel, by decide +kernel, by decide +kernel⟩, by decide, (ac_T_of (List.mem_of_getElem? (i := 953) (by decide +kernel)) rfl), (ac_T_of (List.mem_of_getElem? (i := 114) (by decide +kernel)) rfl), Or.inl (ac_T_of (List.mem_of_getElem? (i := 950) (by decide +kernel)) rfl), ⟨(ac_T_of (List.mem_of_getElem? (i := 952) (by decide +kernel)) rfl), (ac_T_of (List.mem_of_getElem? (i := 77) (by decide +kernel)) rfl), (RX7, TX7, 28), rfl, rfl⟩⟩
theorem ml_X7_122 : ac_ML 0 RX7 122 7 yX7_has cX7_has 2 (some .boolean) 2 := ⟨⟨by decide +kernel, by decide +kernel, by decide +kernel⟩, by decide, (ac_T_of (List.mem_of_getElem? (i := 956) (by decide +kernel)) rfl), (ac_T_of (List.mem_of_getElem? (i := 114) (by decide +kernel)) rfl), Or.inl (ac_T_of (List.mem_of_getElem? (i := 954) (by decide +kernel)) rfl), (ac_T_of (List.mem_of_getElem? (i := 955) (by decide +kernel)) rfl)⟩
theorem ml_X7_126 : ac_ML 0 RX7 126 7 yX7_third cX7_third 9 (some .int) 5 := ⟨⟨by decide +kernel, by decide +kernel, by decide +kernel⟩, by decide, (ac_T_of (List.mem_of_getElem? (i := 959) (by decide +kernel)) rfl), (ac_T_of (List.mem_of_getElem? (i := 114) (by decide +kernel)) rfl), Or.inl (ac_T_of (List.mem_of_getElem? (i := 957) (by decide +kernel)) rfl), (ac_T_of (List.mem_of_getElem? (i := 958) (by decide +kernel)) rfl)⟩
theorem ml_X7_130 : ac_ML 0 RX7 130 7 yX7_greatest cX7_greatest 4 (some .int) 3 := ⟨⟨by decide +kernel, by decide +kernel, by decide +kernel⟩, by decide, (ac_T_of (List.mem_of_getElem? (i := 962) (by decide +kernel)) rfl), (ac_T_of (List.mem_of_getElem? (i := 114) (by decide +kernel)) rfl), Or.inl (ac_T_of (List.mem_of_getElem? (i := 960) (by decide +kernel)) rfl), (ac_T_of (List.mem_of_getElem? (i := 961) (by decide +kernel)) rfl)⟩
theorem ml_X7_164 : ac_ML 1 RX7 164 7 yX7_more cX7_more 2 (some .boolean) 0 := ⟨⟨by decide +kernel, by decide +kernel, by decide +kernel⟩, by decide, (ac_T_of (List.mem_of_getElem? (i := 966) (by decide +kernel)) rfl), (ac_T_of (List.mem_of_getElem? (i := 114) (by decide +kernel)) rfl), Or.inl (ac_T_of (List.mem_of_getElem? (i := 963) (by decide +kernel)) rfl), ⟨(ac_T_of (List.mem_of_getElem? (i := 965) (by decide +kernel)) rfl), (ac_T_of (List.mem_of_getElem? (i := 78) (by decide +kernel)) rfl), (RX7, TX7, 28), rfl, rfl⟩⟩
theorem ml_X7_154 : ac_ML 1 RX7 154 7 yX7_next cX7_next 3 (some .boolean) 1 := ⟨⟨by decide +kernel, by decide +kernel, by decide +kernel⟩, by decide, (ac_T_of (List.mem_of_getElem? (i := 970) (by decide +kernel)) rfl), (ac_T_of (List.mem_of_getElem? (i := 114) (by decide +kernel)) rfl), Or.inl (ac_T_of (List.mem_of_getElem? (i := 967) (by decide +kernel)) rfl), ⟨(ac_T_of (List.mem_of_getElem? (i := 969) (by decide +kernel)) rfl), (ac_T_of (List.mem_of_getElem? (i := 79) (by decide +kernel)) rfl), (RX7, TX7, 28), rfl, rfl⟩⟩
theorem ml_X7_148 : ac_ML 1 RX7 148 7 yX7_allows cX7_allows 4 (some .boolean) 2 := ⟨⟨by decide +kernel, by decide +kernel, by decide +kernel⟩, by decide, (ac_T_of (List.mem_of_getElem? (i := 974) (by decide +kernel)) rfl), (ac_T_of (List.mem_of_getElem? (i := 114) (by decide +kernel)) rfl), Or.inl (ac_T_of (List.mem_of_getElem? (i := 971) (by decide +kernel)) rfl), ⟨(ac_T_of (List.mem_of_getElem? (i := 973) (by decide +kernel)) rfl), (ac_T_of (List.mem_of_getElem? (i := 80) (by decide +kernel)) rfl), (RX7, TX7, 28), rfl, rfl⟩⟩
theorem ml_X7_151 : ac_ML 1 RX7 151 7 yX7_may cX7_may 5 (some .boolean) 2 := ⟨⟨by decide +kernel, by decide +kernel, by decide +kernel⟩, by decide, (ac_T_of (List.mem_of_getElem? (i := 978) (by decide +kernel)) rfl), (ac_T_of (List.mem_of_getElem? (i := 114) (by decide +kernel)) rfl), Or.inl (ac_T_of (List.mem_of_getElem? (i := 975) (by decide +kernel)) rfl), ⟨(ac_T_of (List.mem_of_getElem? (i := 977) (by decide +kernel)) rfl), (ac_T_of (List.mem_of_getElem? (i := 81) (by decide +kernel)) rfl), (RX7, TX7, 28), rfl, rfl⟩⟩
theorem ml_X7_174 : ac_ML 1 RX7 174 7 yX7_isWay cX7_isWay 4 (some .boolean) 1 := ⟨⟨by decide +kernel, by decide +kernel, by decide +kernel⟩, by decide, (ac_T_of (List.mem_of_getElem? (i := 982) (by decide +kernel)) rfl), (ac_T_of (List.mem_of_getElem? (i := 114) (by decide +kernel)) rfl), Or.inl (ac_T_of (List.mem_of_getElem? (i := 979) (by decide +kernel)) rfl), ⟨(ac_T_of (List.mem_of_getElem? (i := 981) (by decide +kernel)) rfl), (ac_T_of (List.mem_of_getElem? (i := 82) (by decide +kernel)) rfl), (RX7, TX7, 28), rfl, rfl⟩⟩
theorem ml_X7_181 : ac_ML 1 RX7 181 7 yX7_take cX7_take 4 none 2 := ⟨⟨by decide +kernel, by decide +kernel, by decide +kernel⟩, by decide, (ac_T_of (List.mem_of_getElem? (i := 986) (by decide +kernel)) rfl), (ac_T_of (List.mem_of_getElem? (i := 114) (by decide +kernel)) rfl), Or.inl (ac_T_of (List.mem_of_getElem? (i := 983) (by decide +kernel)) rfl), ⟨(ac_T_of (List.mem_of_getElem? (i := 985) (by decide +kernel)) rfl), (ac_T_of (List.mem_of_getElem? (i := 83) (by decide +kernel)) rfl), (RX7, TX7, 28), rfl, rfl⟩⟩
theorem ml_X7_118 : ac_ML 1 RX7 118 7 yX7_manyOf cX7_manyOf 2 (some .int) 1 := ⟨⟨by decide +kernel, by decide +kernel, by decide +kernel⟩, by decide, (ac_T_of (List.mem_of_getElem? (i := 990) (by decide +kernel)) rfl), (ac_T_of (List.mem_of_getElem? (i := 114) (by decide +kernel)) rfl), Or.inl (ac_T_of (List.mem_of_getElem? (i := 987) (by decide +kernel)) rfl), ⟨(ac_T_of (List.mem_of_getElem? (i := 989) (by decide +kernel)) rfl), (ac_T_of (List.mem_of_getElem? (i := 84) (by decide +kernel)) rfl), (RX7, TX7, 28), rfl, rfl⟩⟩
theorem ml_X7_167 : ac_ML 1 RX7 167 7 yX7_manyBy cX7_manyBy 4 (some .int) 2 := ⟨⟨by decide +kernel, by decide +kernel, by decide +kernel⟩, by decide, (ac_T_of (List.mem_of_getElem? (i := 994) (by decide +kernel)) rfl), (ac_T_of (List.mem_of_getElem? (i := 114) (by decide +kernel)) rfl), Or.inl (ac_T_of (List.mem_of_getElem? (i := 991) (by decide +kernel)) rfl), ⟨(ac_T_of (List.mem_of_getElem? (i := 993) (by decide +kernel)) rfl), (ac_T_of (List.mem_of_getElem? (i := 85) (by decide +kernel)) rfl), (RX7, TX7, 28), rfl, rfl⟩⟩
theorem ml_L_35 : ac_ML 1 RL 35 7 yX7_equation cX7_equation 4 (some .int) 2 := ⟨⟨by decide +kernel, by decide +kernel, by decide +kernel⟩, by decide, (ac_T_of (List.mem_of_getElem? (i := 998) (by decide +kernel)) rfl), (ac_T_of (List.mem_of_getElem? (i := 114) (by decide +kernel)) rfl), Or.inl (ac_T_of (List.mem_of_getElem? (i := 995) (by decide +kernel)) rfl), ⟨(ac_T_of (List.mem_of_getElem? (i := 996) (by decide +kernel)) rfl), (ac_T_of (List.mem_of_getElem? (i := 997) (by decide +kernel)) rfl), (RX7, TX7, 28), rfl, rfl⟩⟩
theorem ml_X7_185 : ac_ML 1 RX7 185 7 yX7_noEquation cX7_noEquation 2 (some .boolean) 1 := ⟨⟨by decide +kernel, by decide +kernel, by decide +kernel⟩, by decide, (ac_T_of (List.mem_of_getElem? (i := 1002) (by decide +kernel)) rfl), (ac_T_of (List.mem_of_getElem? (i := 114) (by decide +kernel)) rfl), Or.inl (ac_T_of (List.mem_of_getElem? (i := 999) (by decide +kernel)) rfl), ⟨(ac_T_of (List.mem_of_getElem? (i := 1001) (by decide +kernel)) rfl), (ac_T_of (List.mem_of_getElem? (i := 86) (by decide +kernel)) rfl), (RX7, TX7, 28), rfl, rfl⟩⟩
theorem ml_X7_188 : ac_ML 0 RX7 188 7 yX7_isRegular cX7_isRegular 6 (some .boolean) 2 := ⟨⟨by decide +kernel, by decide +kernel, by decide +kernel⟩, by decide, (ac_T_of (List.mem_of_getElem? (i := 1005) (by decide +kernel)) rfl), (ac_T_of (List.mem_of_getElem? (i := 114) (by decide +kernel)) rfl), Or.inl (ac_T_of (List.mem_of_getElem? (i := 1003) (by decide +kernel)) rfl), (ac_T_of (List.mem_of_getElem? (i := 1004) (by decide +kernel)) rfl)⟩
theorem ml_X7_192 : ac_ML 1 RX7 192 7 yX7_solutionAt cX7_solutionAt 7 (some .int) 2 := ⟨⟨by decide +kernel, by decide +kernel, by decide +kernel⟩, by decide, (ac_T_of (List.mem_of_getElem? (i := 1009) (by decide +kernel)) rfl), (ac_T_of (List.mem_of_getElem? (i := 114) (by decide +kernel)) rfl), Or.inl (ac_T_of (List.mem_of_getElem? (i := 1006) (by decide +kernel)) rfl), ⟨(ac_T_of (List.mem_of_getElem? (i := 1008) (by decide +kernel)) rfl), (ac_T_of (List.mem_of_getElem? (i := 87) (by decide +kernel)) rfl), (RX7, TX7, 28), rfl, rfl⟩⟩
theorem ml_L_39 : ac_ML 1 RL 39 7 yX7_solution cX7_solution 3 (some .int) 2 := ⟨⟨by decide +kernel, by decide +kernel, by decide +kernel⟩, by decide, (ac_T_of (List.mem_of_getElem? (i := 1013) (by decide +kernel)) rfl), (ac_T_of (List.mem_of_getElem? (i := 114) (by decide +kernel)) rfl), Or.inl (ac_T_of (List.mem_of_getElem? (i := 1010) (by decide +kernel)) rfl), ⟨(ac_T_of (List.mem_of_getElem? (i := 1011) (by decide +kernel)) rfl), (ac_T_of (List.mem_of_getElem? (i := 1012) (by decide +kernel)) rfl), (RX7, TX7, 28), rfl, rfl⟩⟩
theorem ml_L_43 : ac_ML 1 RL 43 7 yX7_number cX7_number 3 (some .int) 2 := ⟨⟨by decide +kernel, by decide +kernel, by decide +kernel⟩, by decide, (ac_T_of (List.mem_of_getElem? (i := 1017) (by decide +kernel)) rfl), (ac_T_of (List.mem_of_getElem? (i := 114) (by decide +kernel)) rfl), Or.inl (ac_T_of (List.mem_of_getElem? (i := 1014) (by decide +kernel)) rfl), ⟨(ac_T_of (List.mem_of_getElem? (i := 1015) (by decide +kernel)) rfl), (ac_T_of (List.mem_of_getElem? (i := 1016) (by decide +kernel)) rfl), (RX7, TX7, 28), rfl, rfl⟩⟩
theorem ml_X7_195 : ac_ML 1 RX7 195 7 yX7_noNumber cX7_noNumber 2 (some .boolean) 1 := ⟨⟨by decide +kernel, by decide +kernel, by decide +kernel⟩, by decide, (ac_T_of (List.mem_of_getElem? (i := 1021) (by decide +kernel)) rfl), (ac_T_of (List.mem_of_getElem? (i := 114) (by decide +kernel)) rfl), Or.inl (ac_T_of (List.mem_of_getElem? (i := 1018) (by decide +kernel)) rfl), ⟨(ac_T_of (List.mem_of_getElem? (i := 1020) (by decide +kernel)) rfl), (ac_T_of (List.mem_of_getElem? (i := 88) (by decide +kernel)) rfl), (RX7, TX7, 28), rfl, rfl⟩⟩
theorem ml_X7_198 : ac_ML 1 RX7 198 7 yX7_mayBe cX7_mayBe 4 (some .int) 2 := ⟨⟨by decide +kernel, by decide +kernel, by decide +kernel⟩, by decide, (ac_T_of (List.mem_of_getElem? (i := 1025) (by decide +kernel)) rfl), (ac_T_of (List.mem_of_getElem? (i := 114) (by decide +kernel)) rfl), Or.inl (ac_T_of (List.mem_of_getElem? (i := 1022) (by decide +kernel)) rfl), ⟨(ac_T_of (List.mem_of_getElem? (i := 1024) (by decide +kernel)) rfl), (ac_T_of (List.mem_of_getElem? (i := 89) (by decide +kernel)) rfl), (RX7, TX7, 28), rfl, rfl⟩⟩
theorem ml_X7_201 : ac_ML 0 RX7 201 7 yX7_ones cX7_ones 3 (some .int) 1 := ⟨⟨by decide +kernel, by decide +kernel, by decide +kernel⟩, by decide, (ac_T_of (List.mem_of_getElem? (i := 1028) (by decide +kernel)) rfl), (ac_T_of (List.mem_of_getElem? (i := 114) (by decide +kernel)) rfl), Or.inl (ac_T_of (List.mem_of_getElem? (i := 1026) (by decide +kernel)) rfl), (ac_T_of (List.mem_of_getElem? (i := 1027) (by decide +kernel)) rfl)⟩
theorem ml_L_47 : ac_ML 1 RL 47 7 yX7_go cX7_go 4 (some .int) 1 := ⟨⟨by decide +kernel, by decide +kernel, by decide +kernel⟩, by decide, (ac_T_of (List.mem_of_getElem? (i := 1032) (by decide +kernel)) rfl), (ac_T_of (List.mem_of_getElem? (i := 114) (by decide +kernel)) rfl), Or.inl (ac_T_of (List.mem_of_getElem? (i := 1029) (by decide +kernel)) rfl), ⟨(ac_T_of (List.mem_of_getElem? (i := 1030) (by decide +kernel)) rfl), (ac_T_of (List.mem_of_getElem? (i := 1031) (by decide +kernel)) rfl), (RX7, TX7, 28), rfl, rfl⟩⟩
theorem ml_X7_205 : ac_ML 1 RX7 205 7 yX7_note cX7_note 2 none 0 := ⟨⟨by decide +kernel, by decide +kernel, by decide +kernel⟩, by decide, (ac_T_of (List.mem_of_getElem? (i := 1036) (by decide +kernel)) rfl), (ac_T_of (List.mem_of_getElem? (i := 114) (by decide +kernel)) rfl), Or.inl (ac_T_of (List.mem_of_getElem? (i := 1033) (by decide +kernel)) rfl), ⟨(ac_T_of (List.mem_of_getElem? (i := 1035) (by decide +kernel)) rfl), (ac_T_of (List.mem_of_getElem? (i := 90) (by decide +kernel)) rfl), (RX7, TX7, 28), rfl, rfl⟩⟩
theorem ml_L_51 : ac_ML 1 RL 51 7 yX7_paint cX7_paint 3 (some .int) 2 := ⟨⟨by decide +kernel, by decide +kernel, by decide +kernel⟩, by decide, (ac_T_of (List.mem_of_getElem? (i := 1040) (by decide +kernel)) rfl), (ac_T_of (List.mem_of_getElem? (i := 114) (by decide +kernel)) rfl), Or.inl (ac_T_of (List.mem_of_getElem? (i := 1037) (by decide +kernel)) rfl), ⟨(ac_T_of (List.mem_of_getElem? (i := 1038) (by decide +kernel)) rfl), (ac_T_of (List.mem_of_getElem? (i := 1039) (by decide +kernel)) rfl), (RX7, TX7, 28), rfl, rfl⟩⟩
theorem ml_X7_208 : ac_ML 1 RX7 208 7 yX7_layTrial cX7_layTrial 2 none 0 := ⟨⟨by decide +kernel, by decide +kernel, by decide +kernel⟩, by decide, (ac_T_of (List.mem_of_getElem? (i := 1044) (by decide +kernel)) rfl), (ac_T_of (List.mem_of_getElem? (i := 114) (by decide +kernel)) rfl), Or.inl (ac_T_of (List.mem_of_getElem? (i := 1041) (by decide +kernel)) rfl), ⟨(ac_T_of (List.mem_of_getElem? (i := 1043) (by decide +kernel)) rfl), (ac_T_of (List.mem_of_getElem? (i := 91) (by decide +kernel)) rfl), (RX7, TX7, 28), rfl, rfl⟩⟩
theorem ml_X7_211 : ac_ML 1 RX7 211 7 yX7_paintOn cX7_paintOn 5 (some .boolean) 3 := ⟨⟨by decide +kernel, by decide +kernel, by decide +kernel⟩, by decide, (ac_T_of (List.mem_of_getElem? (i := 1048) (by decide +kernel)) rfl), (ac_T_of (List.mem_of_getElem? (i := 114) (by decide +kernel)) rfl), Or.inl (ac_T_of (List.mem_of_getElem? (i := 1045) (by decide +kernel)) rfl), ⟨(ac_T_of (List.mem_of_getElem? (i := 1047) (by decide +kernel)) rfl), (ac_T_of (List.mem_of_getElem? (i := 92) (by decide +kernel)) rfl), (RX7, TX7, 28), rfl, rfl⟩⟩
theorem ml_L_55 : ac_ML 1 RL 55 7 yX7_reach cX7_reach 2 (some .int) 1 := ⟨⟨by decide +kernel, by decide +kernel, by decide +kernel⟩, by decide, (ac_T_of (List.mem_of_getElem? (i := 1052) (by decide +kernel)) rfl), (ac_T_of (List.mem_of_getElem? (i := 114) (by decide +kernel)) rfl), Or.inl (ac_T_of (List.mem_of_getElem? (i := 1049) (by decide +kernel)) rfl), ⟨(ac_T_of (List.mem_of_getElem? (i := 1050) (by decide +kernel)) rfl), (ac_T_of (List.mem_of_getElem? (i := 1051) (by decide +kernel)) rfl), (RX7, TX7, 28), rfl, rfl⟩⟩
theorem ct_X7_215 : Cond.constantLong RX7 215 (Int64.ofInt (10)) ∈ ac_T := (ac_T_of (List.mem_of_getElem? (i := 1053) (by decide +kernel)) rfl)
theorem ml_X7_217 : ac_ML 1 RX7 217 7 yX7_reachOn cX7_reachOn 4 none 2 := ⟨⟨by decide +kernel, by decide +kernel, by decide +kernel⟩, by decide, (ac_T_of (List.mem_of_getElem? (i := 1057) (by decide +kernel)) rfl), (ac_T_of (List.mem_of_getElem? (i := 114) (by decide +kernel)) rfl), Or.inl (ac_T_of (List.mem_of_getElem? (i := 1054) (by decide +kernel)) rfl), ⟨(ac_T_of (List.mem_of_getElem? (i := 1056) (by decide +kernel)) rfl), (ac_T_of (List.mem_of_getElem? (i := 93) (by decide +kernel)) rfl), (RX7, TX7, 28), rfl, rfl⟩⟩
theorem ml_L_60 : ac_ML 1 RL 60 7 yX7_add cX7_add 6 (some .int) 4 := ⟨⟨by decide +kernel, by decide +kernel, by decide +kernel⟩, by decide, (ac_T_of (List.mem_of_getElem? (i := 1061) (by decide +kernel)) rfl), (ac_T_of (List.mem_of_getElem? (i := 114) (by decide +kernel)) rfl), Or.inl (ac_T_of (List.mem_of_getElem? (i := 1058) (by decide +kernel)) rfl), ⟨(ac_T_of (List.mem_of_getElem? (i := 1059) (by decide +kernel)) rfl), (ac_T_of (List.mem_of_getElem? (i := 1060) (by decide +kernel)) rfl), (RX7, TX7, 28), rfl, rfl⟩⟩
theorem ml_X7_222 : ac_ML 0 RX7 222 7 yX7_isFactor cX7_isFactor 1 (some .boolean) 1 := ⟨⟨by decide +kernel, by decide +kernel, by decide +kernel⟩, by decide, (ac_T_of (List.mem_of_getElem? (i := 1064) (by decide +kernel)) rfl), (ac_T_of (List.mem_of_getElem? (i := 114) (by decide +kernel)) rfl), Or.inl (ac_T_of (List.mem_of_getElem? (i := 1062) (by decide +kernel)) rfl), (ac_T_of (List.mem_of_getElem? (i := 1063) (by decide +kernel)) rfl)⟩
theorem ct_X7_220 : Cond.constantLong RX7 220 (Int64.ofInt (-4)) ∈ ac_T := (ac_T_of (List.mem_of_getElem? (i := 1065) (by decide +kernel)) rfl)
theorem ml_L_64 : ac_ML 1 RL 64 7 yX7_drop cX7_drop 1 (some .int) 0 := ⟨⟨by decide +kernel, by decide +kernel, by decide +kernel⟩, by decide, (ac_T_of (List.mem_of_getElem? (i := 1069) (by decide +kernel)) rfl), (ac_T_of (List.mem_of_getElem? (i := 114) (by decide +kernel)) rfl), Or.inl (ac_T_of (List.mem_of_getElem? (i := 1066) (by decide +kernel)) rfl), ⟨(ac_T_of (List.mem_of_getElem? (i := 1067) (by decide +kernel)) rfl), (ac_T_of (List.mem_of_getElem? (i := 1068) (by decide +kernel)) rfl), (RX7, TX7, 28), rfl, rfl⟩⟩
theorem ml_L_68 : ac_ML 1 RL 68 7 yX7_pin cX7_pin 3 (some .int) 2 := ⟨⟨by decide +kernel, by decide +kernel, by decide +kernel⟩, by decide, (ac_T_of (List.mem_of_getElem? (i := 1073) (by decide +kernel)) rfl), (ac_T_of (List.mem_of_getElem? (i := 114) (by decide +kernel)) rfl), Or.inl (ac_T_of (List.mem_of_getElem? (i := 1070) (by decide +kernel)) rfl), ⟨(ac_T_of (List.mem_of_getElem? (i := 1071) (by decide +kernel)) rfl), (ac_T_of (List.mem_of_getElem? (i := 1072) (by decide +kernel)) rfl), (RX7, TX7, 28), rfl, rfl⟩⟩
theorem ml_L_72 : ac_ML 1 RL 72 7 yX7_undo cX7_undo 2 (some .int) 0 := ⟨⟨by decide +kernel, by decide +kernel, by decide +kernel⟩, by decide, (ac_T_of (List.mem_of_getElem? (i := 1077) (by decide +kernel)) rfl), (ac_T_of (List.mem_of_getElem? (i := 114) (by decide +kernel)) rfl), Or.inl (ac_T_of (List.mem_of_getElem? (i := 1074) (by decide +kernel)) rfl), ⟨(ac_T_of (List.mem_of_getElem? (i := 1075) (by decide +kernel)) rfl), (ac_T_of (List.mem_of_getElem? (i := 1076) (by decide +kernel)) rfl), (RX7, TX7, 28), rfl, rfl⟩⟩
theorem ml_L_76 : ac_ML 1 RL 76 7 yX7_ask cX7_ask 2 (some .int) 1 := ⟨⟨by decide +kernel, by decide +kernel, by decide +kernel⟩, by decide, (ac_T_of (List.mem_of_getElem? (i := 1081) (by decide +kernel)) rfl), (ac_T_of (List.mem_of_getElem? (i := 114) (by decide +kernel)) rfl), Or.inl (ac_T_of (List.mem_of_getElem? (i := 1078) (by decide +kernel)) rfl), ⟨(ac_T_of (List.mem_of_getElem? (i := 1079) (by decide +kernel)) rfl), (ac_T_of (List.mem_of_getElem? (i := 1080) (by decide +kernel)) rfl), (RX7, TX7, 28), rfl, rfl⟩⟩
theorem ml_X7_228 : ac_ML 1 RX7 228 7 yX7_least cX7_least 3 (some .int) 1 := ⟨⟨by decide +kernel, by decide +kernel, by decide +kernel⟩, by decide, (ac_T_of (List.mem_of_getElem? (i := 1085) (by decide +kernel)) rfl), (ac_T_of (List.mem_of_getElem? (i := 114) (by decide +kernel)) rfl), Or.inl (ac_T_of (List.mem_of_getElem? (i := 1082) (by decide +kernel)) rfl), ⟨(ac_T_of (List.mem_of_getElem? (i := 1084) (by decide +kernel)) rfl), (ac_T_of (List.mem_of_getElem? (i := 94) (by decide +kernel)) rfl), (RX7, TX7, 28), rfl, rfl⟩⟩
theorem ml_X7_231 : ac_ML 1 RX7 231 7 yX7_forced cX7_forced 4 (some .int) 1 := ⟨⟨by decide +kernel, by decide +kernel, by decide +kernel⟩, by decide, (ac_T_of (List.mem_of_getElem? (i := 1089) (by decide +kernel)) rfl), (ac_T_of (List.mem_of_getElem? (i := 114) (by decide +kernel)) rfl), Or.inl (ac_T_of (List.mem_of_getElem? (i := 1086) (by decide +kernel)) rfl), ⟨(ac_T_of (List.mem_of_getElem? (i := 1088) (by decide +kernel)) rfl), (ac_T_of (List.mem_of_getElem? (i := 95) (by decide +kernel)) rfl), (RX7, TX7, 28), rfl, rfl⟩⟩
theorem ml_X7_234 : ac_ML 1 RX7 234 7 yX7_paints cX7_paints 4 (some .int) 0 := ⟨⟨by decide +kernel, by decide +kernel, by decide +kernel⟩, by decide, (ac_T_of (List.mem_of_getElem? (i := 1093) (by decide +kernel)) rfl), (ac_T_of (List.mem_of_getElem? (i := 114) (by decide +kernel)) rfl), Or.inl (ac_T_of (List.mem_of_getElem? (i := 1090) (by decide +kernel)) rfl), ⟨(ac_T_of (List.mem_of_getElem? (i := 1092) (by decide +kernel)) rfl), (ac_T_of (List.mem_of_getElem? (i := 96) (by decide +kernel)) rfl), (RX7, TX7, 28), rfl, rfl⟩⟩
theorem ml_X7_237 : ac_ML 1 RX7 237 7 yX7_kinds cX7_kinds 3 (some .int) 0 := ⟨⟨by decide +kernel, by decide +kernel, by decide +kernel⟩, by decide, (ac_T_of (List.mem_of_getElem? (i := 1097) (by decide +kernel)) rfl), (ac_T_of (List.mem_of_getElem? (i := 114) (by decide +kernel)) rfl), Or.inl (ac_T_of (List.mem_of_getElem? (i := 1094) (by decide +kernel)) rfl), ⟨(ac_T_of (List.mem_of_getElem? (i := 1096) (by decide +kernel)) rfl), (ac_T_of (List.mem_of_getElem? (i := 97) (by decide +kernel)) rfl), (RX7, TX7, 28), rfl, rfl⟩⟩
theorem ml_X7_225 : ac_ML 1 RX7 225 7 yX7_codeOf cX7_codeOf 7 (some .int) 0 := ⟨⟨by decide +kernel, by decide +kernel, by decide +kernel⟩, by decide, (ac_T_of (List.mem_of_getElem? (i := 1101) (by decide +kernel)) rfl), (ac_T_of (List.mem_of_getElem? (i := 114) (by decide +kernel)) rfl), Or.inl (ac_T_of (List.mem_of_getElem? (i := 1098) (by decide +kernel)) rfl), ⟨(ac_T_of (List.mem_of_getElem? (i := 1100) (by decide +kernel)) rfl), (ac_T_of (List.mem_of_getElem? (i := 98) (by decide +kernel)) rfl), (RX7, TX7, 28), rfl, rfl⟩⟩
theorem ml_X7_240 : ac_ML 1 RX7 240 7 yX7_ends cX7_ends 3 (some .int) 0 := ⟨⟨by decide +kernel, by decide +kernel, by decide +kernel⟩, by decide, (ac_T_of (List.mem_of_getElem? (i := 1105) (by decide +kernel)) rfl), (ac_T_of (List.mem_of_getElem? (i := 114) (by decide +kernel)) rfl), Or.inl (ac_T_of (List.mem_of_getElem? (i := 1102) (by decide +kernel)) rfl), ⟨(ac_T_of (List.mem_of_getElem? (i := 1104) (by decide +kernel)) rfl), (ac_T_of (List.mem_of_getElem? (i := 99) (by decide +kernel)) rfl), (RX7, TX7, 28), rfl, rfl⟩⟩
theorem ml_L_80 : ac_ML 1 RL 80 7 yX7_on cX7_on 3 (some .int) 0 := ⟨⟨by decide +kernel, by decide +kernel, by decide +kernel⟩, by decide, (ac_T_of (List.mem_of_getElem? (i := 1109) (by decide +kernel)) rfl), (ac_T_of (List.mem_of_getElem? (i := 114) (by decide +kernel)) rfl), Or.inl (ac_T_of (List.mem_of_getElem? (i := 1106) (by decide +kernel)) rfl), ⟨(ac_T_of (List.mem_of_getElem? (i := 1107) (by decide +kernel)) rfl), (ac_T_of (List.mem_of_getElem? (i := 1108) (by decide +kernel)) rfl), (RX7, TX7, 28), rfl, rfl⟩⟩
theorem ml_L_87 : ac_ML 1 RL 87 7 yX7_judge cX7_judge 6 (some .int) 2 := ⟨⟨by decide +kernel, by decide +kernel, by decide +kernel⟩, by decide, (ac_T_of (List.mem_of_getElem? (i := 1113) (by decide +kernel)) rfl), (ac_T_of (List.mem_of_getElem? (i := 114) (by decide +kernel)) rfl), Or.inl (ac_T_of (List.mem_of_getElem? (i := 1110) (by decide +kernel)) rfl), ⟨(ac_T_of (List.mem_of_getElem? (i := 1111) (by decide +kernel)) rfl), (ac_T_of (List.mem_of_getElem? (i := 1112) (by decide +kernel)) rfl), (RX7, TX7, 28), rfl, rfl⟩⟩
theorem ct_X7_243 : Cond.constantLong RX7 243 (Int64.ofInt (10000)) ∈ ac_T := (ac_T_of (List.mem_of_getElem? (i := 1114) (by decide +kernel)) rfl)
theorem ml_X7_245 : ac_ML 0 RX7 245 7 yX7_longPower cX7_longPower 6 (some .long) 2 := ⟨⟨by decide +kernel, by decide +kernel, by decide +kernel⟩, by decide, (ac_T_of (List.mem_of_getElem? (i := 1117) (by decide +kernel)) rfl), (ac_T_of (List.mem_of_getElem? (i := 114) (by decide +kernel)) rfl), Or.inl (ac_T_of (List.mem_of_getElem? (i := 1115) (by decide +kernel)) rfl), (ac_T_of (List.mem_of_getElem? (i := 1116) (by decide +kernel)) rfl)⟩
theorem ml_X7_249 : ac_ML 1 RX7 249 7 yX7_does cX7_does 8 (some .boolean) 4 := ⟨⟨by decide +kernel, by decide +kernel, by decide +kernel⟩, by decide, (ac_T_of (List.mem_of_getElem? (i := 1121) (by decide +kernel)) rfl), (ac_T_of (List.mem_of_getElem? (i := 114) (by decide +kernel)) rfl), Or.inl (ac_T_of (List.mem_of_getElem? (i := 1118) (by decide +kernel)) rfl), ⟨(ac_T_of (List.mem_of_getElem? (i := 1120) (by decide +kernel)) rfl), (ac_T_of (List.mem_of_getElem? (i := 100) (by decide +kernel)) rfl), (RX7, TX7, 28), rfl, rfl⟩⟩
theorem ml_L_92 : ac_ML 1 RL 92 7 yX7_see cX7_see 4 (some .int) 3 := ⟨⟨by decide +kernel, by decide +kernel, by decide +kernel⟩, by decide, (ac_T_of (List.mem_of_getElem? (i := 1125) (by decide +kernel)) rfl), (ac_T_of (List.mem_of_getElem? (i := 114) (by decide +kernel)) rfl), Or.inl (ac_T_of (List.mem_of_getElem? (i := 1122) (by decide +kernel)) rfl), ⟨(ac_T_of (List.mem_of_getElem? (i := 1123) (by decide +kernel)) rfl), (ac_T_of (List.mem_of_getElem? (i := 1124) (by decide +kernel)) rfl), (RX7, TX7, 28), rfl, rfl⟩⟩
theorem ml_L_96 : ac_ML 1 RL 96 7 yX7_unsee cX7_unsee 2 (some .int) 0 := ⟨⟨by decide +kernel, by decide +kernel, by decide +kernel⟩, by decide, (ac_T_of (List.mem_of_getElem? (i := 1129) (by decide +kernel)) rfl), (ac_T_of (List.mem_of_getElem? (i := 114) (by decide +kernel)) rfl), Or.inl (ac_T_of (List.mem_of_getElem? (i := 1126) (by decide +kernel)) rfl), ⟨(ac_T_of (List.mem_of_getElem? (i := 1127) (by decide +kernel)) rfl), (ac_T_of (List.mem_of_getElem? (i := 1128) (by decide +kernel)) rfl), (RX7, TX7, 28), rfl, rfl⟩⟩
theorem ml_L_100 : ac_ML 1 RL 100 7 yX7_which cX7_which 8 (some .int) 1 := ⟨⟨by decide +kernel, by decide +kernel, by decide +kernel⟩, by decide, (ac_T_of (List.mem_of_getElem? (i := 1133) (by decide +kernel)) rfl), (ac_T_of (List.mem_of_getElem? (i := 114) (by decide +kernel)) rfl), Or.inl (ac_T_of (List.mem_of_getElem? (i := 1130) (by decide +kernel)) rfl), ⟨(ac_T_of (List.mem_of_getElem? (i := 1131) (by decide +kernel)) rfl), (ac_T_of (List.mem_of_getElem? (i := 1132) (by decide +kernel)) rfl), (RX7, TX7, 28), rfl, rfl⟩⟩
theorem ml_L_105 : ac_ML 1 RL 105 7 yX7_share cX7_share 7 (some .int) 2 := ⟨⟨by decide +kernel, by decide +kernel, by decide +kernel⟩, by decide, (ac_T_of (List.mem_of_getElem? (i := 1137) (by decide +kernel)) rfl), (ac_T_of (List.mem_of_getElem? (i := 114) (by decide +kernel)) rfl), Or.inl (ac_T_of (List.mem_of_getElem? (i := 1134) (by decide +kernel)) rfl), ⟨(ac_T_of (List.mem_of_getElem? (i := 1135) (by decide +kernel)) rfl), (ac_T_of (List.mem_of_getElem? (i := 1136) (by decide +kernel)) rfl), (RX7, TX7, 28), rfl, rfl⟩⟩
theorem ml_X7_259 : ac_ML 0 RX7 259 7 yX7_factorial cX7_factorial 3 (some .int) 1 := ⟨⟨by decide +kernel, by decide +kernel, by decide +kernel⟩, by decide, (ac_T_of (List.mem_of_getElem? (i := 1140) (by decide +kernel)) rfl), (ac_T_of (List.mem_of_getElem? (i := 114) (by decide +kernel)) rfl), Or.inl (ac_T_of (List.mem_of_getElem? (i := 1138) (by decide +kernel)) rfl), (ac_T_of (List.mem_of_getElem? (i := 1139) (by decide +kernel)) rfl)⟩
theorem ml_X7_262 : ac_ML 0 RX7 262 7 yX7_fraction cX7_fraction 4 (some .int) 3 := ⟨⟨by decide +kernel, by decide +kernel, by decide +kernel⟩, by decide, (ac_T_of (List.mem_of_getElem? (i := 1143) (by decide +kernel)) rfl), (ac_T_of (List.mem_of_getElem? (i := 114) (by decide +kernel)) rfl), Or.inl (ac_T_of (List.mem_of_getElem? (i := 1141) (by decide +kernel)) rfl), (ac_T_of (List.mem_of_getElem? (i := 1142) (by decide +kernel)) rfl)⟩
theorem ml_X7_256 : ac_ML 0 RX7 256 7 yX7_divisor cX7_divisor 5 (some .int) 2 := ⟨⟨by decide +kernel, by decide +kernel, by decide +kernel⟩, by decide, (ac_T_of (List.mem_of_getElem? (i := 1146) (by decide +kernel)) rfl), (ac_T_of (List.mem_of_getElem? (i := 114) (by decide +kernel)) rfl), Or.inl (ac_T_of (List.mem_of_getElem? (i := 1144) (by decide +kernel)) rfl), (ac_T_of (List.mem_of_getElem? (i := 1145) (by decide +kernel)) rfl)⟩
theorem ml_L_110 : ac_ML 1 RL 110 7 yX7_luck cX7_luck 2 (some .int) 1 := ⟨⟨by decide +kernel, by decide +kernel, by decide +kernel⟩, by decide, (ac_T_of (List.mem_of_getElem? (i := 1150) (by decide +kernel)) rfl), (ac_T_of (List.mem_of_getElem? (i := 114) (by decide +kernel)) rfl), Or.inl (ac_T_of (List.mem_of_getElem? (i := 1147) (by decide +kernel)) rfl), ⟨(ac_T_of (List.mem_of_getElem? (i := 1148) (by decide +kernel)) rfl), (ac_T_of (List.mem_of_getElem? (i := 1149) (by decide +kernel)) rfl), (RX7, TX7, 28), rfl, rfl⟩⟩
theorem ml_X7_266 : ac_ML 0 RX7 266 7 yX7_power cX7_power 4 (some .int) 2 := ⟨⟨by decide +kernel, by decide +kernel, by decide +kernel⟩, by decide, (ac_T_of (List.mem_of_getElem? (i := 1153) (by decide +kernel)) rfl), (ac_T_of (List.mem_of_getElem? (i := 114) (by decide +kernel)) rfl), Or.inl (ac_T_of (List.mem_of_getElem? (i := 1151) (by decide +kernel)) rfl), (ac_T_of (List.mem_of_getElem? (i := 1152) (by decide +kernel)) rfl)⟩
theorem ml_L_114 : ac_ML 1 RL 114 7 yX7_lost cX7_lost 6 (some .int) 2 := ⟨⟨by decide +kernel, by decide +kernel, by decide +kernel⟩, by decide, (ac_T_of (List.mem_of_getElem? (i := 1157) (by decide +kernel)) rfl), (ac_T_of (List.mem_of_getElem? (i := 114) (by decide +kernel)) rfl), Or.inl (ac_T_of (List.mem_of_getElem? (i := 1154) (by decide +kernel)) rfl), ⟨(ac_T_of (List.mem_of_getElem? (i := 1155) (by decide +kernel)) rfl), (ac_T_of (List.mem_of_getElem? (i := 1156) (by decide +kernel)) rfl), (RX7, TX7, 28), rfl, rfl⟩⟩
theorem ml_L_119 : ac_ML 1 RL 119 7 yX7_seed cX7_seed 5 (some .long) 1 := ⟨⟨by decide +kernel, by decide +kernel, by decide +kernel⟩, by decide, (ac_T_of (List.mem_of_getElem? (i := 1161) (by decide +kernel)) rfl), (ac_T_of (List.mem_of_getElem? (i := 114) (by decide +kernel)) rfl), Or.inl (ac_T_of (List.mem_of_getElem? (i := 1158) (by decide +kernel)) rfl), ⟨(ac_T_of (List.mem_of_getElem? (i := 1159) (by decide +kernel)) rfl), (ac_T_of (List.mem_of_getElem? (i := 1160) (by decide +kernel)) rfl), (RX7, TX7, 28), rfl, rfl⟩⟩
theorem ml_L_123 : ac_ML 1 RL 123 7 yX7_drawn cX7_drawn 5 (some .int) 1 := ⟨⟨by decide +kernel, by decide +kernel, by decide +kernel⟩, by decide, (ac_T_of (List.mem_of_getElem? (i := 1165) (by decide +kernel)) rfl), (ac_T_of (List.mem_of_getElem? (i := 114) (by decide +kernel)) rfl), Or.inl (ac_T_of (List.mem_of_getElem? (i := 1162) (by decide +kernel)) rfl), ⟨(ac_T_of (List.mem_of_getElem? (i := 1163) (by decide +kernel)) rfl), (ac_T_of (List.mem_of_getElem? (i := 1164) (by decide +kernel)) rfl), (RX7, TX7, 28), rfl, rfl⟩⟩
theorem ml_X7_277 : ac_ML 1 RX7 277 7 yX7_drawFor cX7_drawFor 5 (some .boolean) 1 := ⟨⟨by decide +kernel, by decide +kernel, by decide +kernel⟩, by decide, (ac_T_of (List.mem_of_getElem? (i := 1169) (by decide +kernel)) rfl), (ac_T_of (List.mem_of_getElem? (i := 114) (by decide +kernel)) rfl), Or.inl (ac_T_of (List.mem_of_getElem? (i := 1166) (by decide +kernel)) rfl), ⟨(ac_T_of (List.mem_of_getElem? (i := 1168) (by decide +kernel)) rfl), (ac_T_of (List.mem_of_getElem? (i := 101) (by decide +kernel)) rfl), (RX7, TX7, 28), rfl, rfl⟩⟩
theorem ct_X7_273 : Cond.constantLong RX7 273 (Int64.ofInt (6364136223846793005)) ∈ ac_T := (ac_T_of (List.mem_of_getElem? (i := 1170) (by decide +kernel)) rfl)
theorem ct_X7_275 : Cond.constantLong RX7 275 (Int64.ofInt (1442695040888963407)) ∈ ac_T := (ac_T_of (List.mem_of_getElem? (i := 1171) (by decide +kernel)) rfl)
theorem ml_L_127 : ac_ML 1 RL 127 7 yX7_keep cX7_keep 3 (some .int) 1 := ⟨⟨by decide +kernel, by decide +kernel, by decide +kernel⟩, by decide, (ac_T_of (List.mem_of_getElem? (i := 1175) (by decide +kernel)) rfl), (ac_T_of (List.mem_of_getElem? (i := 114) (by decide +kernel)) rfl), Or.inl (ac_T_of (List.mem_of_getElem? (i := 1172) (by decide +kernel)) rfl), ⟨(ac_T_of (List.mem_of_getElem? (i := 1173) (by decide +kernel)) rfl), (ac_T_of (List.mem_of_getElem? (i := 1174) (by decide +kernel)) rfl), (RX7, TX7, 28), rfl, rfl⟩⟩
theorem ml_L_131 : ac_ML 1 RL 131 7 yX7_again cX7_again 3 (some .int) 1 := ⟨⟨by decide +kernel, by decide +kernel, by decide +kernel⟩, by decide, (ac_T_of (List.mem_of_getElem? (i := 1179) (by decide +kernel)) rfl), (ac_T_of (List.mem_of_getElem? (i := 114) (by decide +kernel)) rfl), Or.inl (ac_T_of (List.mem_of_getElem? (i := 1176) (by decide +kernel)) rfl), ⟨(ac_T_of (List.mem_of_getElem? (i := 1177) (by decide +kernel)) rfl), (ac_T_of (List.mem_of_getElem? (i := 1178) (by decide +kernel)) rfl), (RX7, TX7, 28), rfl, rfl⟩⟩
theorem ml_L_135 : ac_ML 1 RL 135 7 yX7_count cX7_count 2 (some .int) 1 := ⟨⟨by decide +kernel, by decide +kernel, by decide +kernel⟩, by decide, (ac_T_of (List.mem_of_getElem? (i := 1183) (by decide +kernel)) rfl), (ac_T_of (List.mem_of_getElem? (i := 114) (by decide +kernel)) rfl), Or.inl (ac_T_of (List.mem_of_getElem? (i := 1180) (by decide +kernel)) rfl), ⟨(ac_T_of (List.mem_of_getElem? (i := 1181) (by decide +kernel)) rfl), (ac_T_of (List.mem_of_getElem? (i := 1182) (by decide +kernel)) rfl), (RX7, TX7, 28), rfl, rfl⟩⟩
theorem ml_X7_280 : ac_ML 1 RX7 280 7 yX7_pins cX7_pins 3 (some .int) 0 := ⟨⟨by decide +kernel, by decide +kernel, by decide +kernel⟩, by decide, (ac_T_of (List.mem_of_getElem? (i := 1187) (by decide +kernel)) rfl), (ac_T_of (List.mem_of_getElem? (i := 114) (by decide +kernel)) rfl), Or.inl (ac_T_of (List.mem_of_getElem? (i := 1184) (by decide +kernel)) rfl), ⟨(ac_T_of (List.mem_of_getElem? (i := 1186) (by decide +kernel)) rfl), (ac_T_of (List.mem_of_getElem? (i := 102) (by decide +kernel)) rfl), (RX7, TX7, 28), rfl, rfl⟩⟩
theorem ct_L_81 : Cond.constantLong RL 81 (Int64.ofInt (4294967295)) ∈ ac_T := (ac_T_of (List.mem_of_getElem? (i := 1188) (by decide +kernel)) rfl)
theorem mt_max_s : Cond.static Lib.Math.max.name ∈ ac_T := (ac_T_of (List.mem_of_getElem? (i := 351) (by decide +kernel)) rfl)
theorem mt_max_c : Cond.code Lib.Math.max.name Lib.Math.max.code 2 (some .int) ∈ ac_T := (ac_T_of (List.mem_of_getElem? (i := 352) (by decide +kernel)) rfl)
theorem mt_min_s : Cond.static Lib.Math.min.name ∈ ac_T := (ac_T_of (List.mem_of_getElem? (i := 589) (by decide +kernel)) rfl)
theorem mt_min_c : Cond.code Lib.Math.min.name Lib.Math.min.code 2 (some .int) ∈ ac_T := (ac_T_of (List.mem_of_getElem? (i := 590) (by decide +kernel)) rfl)
theorem mt_i : Cond.initialized "java/lang/Math" ∈ ac_T := (ac_T_of (List.mem_of_getElem? (i := 113) (by decide +kernel)) rfl)
theorem cp_n : Cond.native arraycopyName ∈ ac_T := (ac_T_of (List.mem_of_getElem? (i := 327) (by decide +kernel)) rfl)
theorem cp_s : Cond.static arraycopyName ∈ ac_T := (ac_T_of (List.mem_of_getElem? (i := 326) (by decide +kernel)) rfl)
theorem cp_i : Cond.initialized "java/lang/System" ∈ ac_T := (ac_T_of (List.mem_of_getElem? (i := 112) (by decide +kernel)) rfl)
theorem ob_m : Cond.instanceMethod Lib.objectInit ∈ ac_T := (ac_T_of (List.mem_of_getElem? (i := 122) (by decide +kernel)) rfl)
theorem ob_c : Cond.code Lib.objectInit ⟨#[0xb1]⟩ 1 none ∈ ac_T := (ac_T_of (List.mem_of_getElem? (i := 123) (by decide +kernel)) rfl)
theorem ar_int : Cond.arrayClass .int ∈ ac_T := ac_T_of (List.mem_of_getElem? (i := 141) (by decide +kernel)) rfl
theorem ar_boolean : Cond.arrayClass .boolean ∈ ac_T := ac_T_of (List.mem_of_getElem? (i := 225) (by decide +kernel)) rfl
end
