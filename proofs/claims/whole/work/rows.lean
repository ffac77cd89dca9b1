section
-- ===== PART A: goes FIRST, ahead of the names: the tables' words, and 'selects' of the private methods out of them =====
/-- a private method of a class that the tables say can be made, by its rows of tables_1 -/
def lw_okq (q : MethodName × Nat) : Prop := (q.1.cls ≠ "java/lang/invoke/MethodHandle" ∧ q.1.cls ≠ "java/lang/invoke/VarHandle") ∧ Cond.instantiable q.1.cls q.2 ∈ tables_1 ∧ Cond.privateMethod q.1 ∈ tables_1 ∧ Cond.instanceMethod q.1 ∈ tables_1
theorem lw_p0 : lw_okq (⟨"TwoWorlds", "kindByRegions", "(I)I"⟩, 15) := ⟨⟨by decide +kernel, by decide +kernel⟩, List.mem_of_getElem? (i := 6) (by decide +kernel), List.mem_of_getElem? (i := 112) (by decide +kernel), List.mem_of_getElem? (i := 113) (by decide +kernel)⟩
theorem lw_p1 : lw_okq (⟨"TwoWorlds", "step", "()V"⟩, 15) := ⟨⟨by decide +kernel, by decide +kernel⟩, List.mem_of_getElem? (i := 6) (by decide +kernel), List.mem_of_getElem? (i := 139) (by decide +kernel), List.mem_of_getElem? (i := 140) (by decide +kernel)⟩
theorem lw_p2 : lw_okq (⟨"TwoWorlds", "takePending", "()V"⟩, 15) := ⟨⟨by decide +kernel, by decide +kernel⟩, List.mem_of_getElem? (i := 6) (by decide +kernel), List.mem_of_getElem? (i := 143) (by decide +kernel), List.mem_of_getElem? (i := 144) (by decide +kernel)⟩
theorem lw_p3 : lw_okq (⟨"TwoWorlds", "take", "(I)V"⟩, 15) := ⟨⟨by decide +kernel, by decide +kernel⟩, List.mem_of_getElem? (i := 6) (by decide +kernel), List.mem_of_getElem? (i := 147) (by decide +kernel), List.mem_of_getElem? (i := 148) (by decide +kernel)⟩
theorem lw_p4 : lw_okq (⟨"TwoWorlds", "pushFrame", "()V"⟩, 15) := ⟨⟨by decide +kernel, by decide +kernel⟩, List.mem_of_getElem? (i := 6) (by decide +kernel), List.mem_of_getElem? (i := 158) (by decide +kernel), List.mem_of_getElem? (i := 159) (by decide +kernel)⟩
theorem lw_p5 : lw_okq (⟨"TwoWorlds", "push", "(I)V"⟩, 15) := ⟨⟨by decide +kernel, by decide +kernel⟩, List.mem_of_getElem? (i := 6) (by decide +kernel), List.mem_of_getElem? (i := 162) (by decide +kernel), List.mem_of_getElem? (i := 163) (by decide +kernel)⟩
theorem lw_p6 : lw_okq (⟨"TwoWorlds", "write", "(II)V"⟩, 15) := ⟨⟨by decide +kernel, by decide +kernel⟩, List.mem_of_getElem? (i := 6) (by decide +kernel), List.mem_of_getElem? (i := 174) (by decide +kernel), List.mem_of_getElem? (i := 175) (by decide +kernel)⟩
theorem lw_p7 : lw_okq (⟨"TwoWorlds", "enter", "(I)V"⟩, 15) := ⟨⟨by decide +kernel, by decide +kernel⟩, List.mem_of_getElem? (i := 6) (by decide +kernel), List.mem_of_getElem? (i := 178) (by decide +kernel), List.mem_of_getElem? (i := 179) (by decide +kernel)⟩
theorem lw_p8 : lw_okq (⟨"TwoWorlds", "isHandledOpen", "(I)Z"⟩, 15) := ⟨⟨by decide +kernel, by decide +kernel⟩, List.mem_of_getElem? (i := 6) (by decide +kernel), List.mem_of_getElem? (i := 182) (by decide +kernel), List.mem_of_getElem? (i := 183) (by decide +kernel)⟩
theorem lw_p9 : lw_okq (⟨"TwoWorlds", "goTo", "(I)V"⟩, 15) := ⟨⟨by decide +kernel, by decide +kernel⟩, List.mem_of_getElem? (i := 6) (by decide +kernel), List.mem_of_getElem? (i := 191) (by decide +kernel), List.mem_of_getElem? (i := 192) (by decide +kernel)⟩
theorem lw_p10 : lw_okq (⟨"TwoWorlds", "fetch", "()I"⟩, 15) := ⟨⟨by decide +kernel, by decide +kernel⟩, List.mem_of_getElem? (i := 6) (by decide +kernel), List.mem_of_getElem? (i := 195) (by decide +kernel), List.mem_of_getElem? (i := 196) (by decide +kernel)⟩
theorem lw_p11 : lw_okq (⟨"TwoWorlds", "isUnknown", "(I)Z"⟩, 15) := ⟨⟨by decide +kernel, by decide +kernel⟩, List.mem_of_getElem? (i := 6) (by decide +kernel), List.mem_of_getElem? (i := 200) (by decide +kernel), List.mem_of_getElem? (i := 201) (by decide +kernel)⟩
theorem lw_p12 : lw_okq (⟨"TwoWorlds", "moveData", "(I)V"⟩, 15) := ⟨⟨by decide +kernel, by decide +kernel⟩, List.mem_of_getElem? (i := 6) (by decide +kernel), List.mem_of_getElem? (i := 206) (by decide +kernel), List.mem_of_getElem? (i := 207) (by decide +kernel)⟩
theorem lw_p13 : lw_okq (⟨"TwoWorlds", "read", "(I)I"⟩, 15) := ⟨⟨by decide +kernel, by decide +kernel⟩, List.mem_of_getElem? (i := 6) (by decide +kernel), List.mem_of_getElem? (i := 210) (by decide +kernel), List.mem_of_getElem? (i := 211) (by decide +kernel)⟩
theorem lw_p14 : lw_okq (⟨"TwoWorlds", "pop", "()I"⟩, 15) := ⟨⟨by decide +kernel, by decide +kernel⟩, List.mem_of_getElem? (i := 6) (by decide +kernel), List.mem_of_getElem? (i := 214) (by decide +kernel), List.mem_of_getElem? (i := 215) (by decide +kernel)⟩
theorem lw_p15 : lw_okq (⟨"TwoWorlds", "changeFlow", "(I)V"⟩, 15) := ⟨⟨by decide +kernel, by decide +kernel⟩, List.mem_of_getElem? (i := 6) (by decide +kernel), List.mem_of_getElem? (i := 218) (by decide +kernel), List.mem_of_getElem? (i := 219) (by decide +kernel)⟩
def lw_privs_1 : List (MethodName × Nat) := [(⟨"TwoWorlds", "kindByRegions", "(I)I"⟩, 15), (⟨"TwoWorlds", "step", "()V"⟩, 15), (⟨"TwoWorlds", "takePending", "()V"⟩, 15), (⟨"TwoWorlds", "take", "(I)V"⟩, 15), (⟨"TwoWorlds", "pushFrame", "()V"⟩, 15), (⟨"TwoWorlds", "push", "(I)V"⟩, 15), (⟨"TwoWorlds", "write", "(II)V"⟩, 15), (⟨"TwoWorlds", "enter", "(I)V"⟩, 15), (⟨"TwoWorlds", "isHandledOpen", "(I)Z"⟩, 15), (⟨"TwoWorlds", "goTo", "(I)V"⟩, 15), (⟨"TwoWorlds", "fetch", "()I"⟩, 15), (⟨"TwoWorlds", "isUnknown", "(I)Z"⟩, 15), (⟨"TwoWorlds", "moveData", "(I)V"⟩, 15), (⟨"TwoWorlds", "read", "(I)I"⟩, 15), (⟨"TwoWorlds", "pop", "()I"⟩, 15), (⟨"TwoWorlds", "changeFlow", "(I)V"⟩, 15)]
theorem lw_r1 : ∀ q ∈ lw_privs_1, lw_okq q := List.forall_mem_cons.mpr ⟨lw_p0, List.forall_mem_cons.mpr ⟨lw_p1, List.forall_mem_cons.mpr ⟨lw_p2, List.forall_mem_cons.mpr ⟨lw_p3, List.forall_mem_cons.mpr ⟨lw_p4, List.forall_mem_cons.mpr ⟨lw_p5, List.forall_mem_cons.mpr ⟨lw_p6, List.forall_mem_cons.mpr ⟨lw_p7, List.forall_mem_cons.mpr ⟨lw_p8, List.forall_mem_cons.mpr ⟨lw_p9, List.forall_mem_cons.mpr ⟨lw_p10, List.forall_mem_cons.mpr ⟨lw_p11, List.forall_mem_cons.mpr ⟨lw_p12, List.forall_mem_cons.mpr ⟨lw_p13, List.forall_mem_cons.mpr ⟨lw_p14, List.forall_mem_cons.mpr ⟨lw_p15, fun _ h => absurd h List.not_mem_nil⟩⟩⟩⟩⟩⟩⟩⟩⟩⟩⟩⟩⟩⟩⟩⟩
theorem lw_p16 : lw_okq (⟨"TwoWorlds", "call", "(I)V"⟩, 15) := ⟨⟨by decide +kernel, by decide +kernel⟩, List.mem_of_getElem? (i := 6) (by decide +kernel), List.mem_of_getElem? (i := 222) (by decide +kernel), List.mem_of_getElem? (i := 223) (by decide +kernel)⟩
theorem lw_p17 : lw_okq (⟨"TwoWorlds", "goOut", "(I)V"⟩, 15) := ⟨⟨by decide +kernel, by decide +kernel⟩, List.mem_of_getElem? (i := 6) (by decide +kernel), List.mem_of_getElem? (i := 226) (by decide +kernel), List.mem_of_getElem? (i := 227) (by decide +kernel)⟩
theorem lw_p18 : lw_okq (⟨"TwoWorlds", "callOut", "(I)V"⟩, 15) := ⟨⟨by decide +kernel, by decide +kernel⟩, List.mem_of_getElem? (i := 6) (by decide +kernel), List.mem_of_getElem? (i := 230) (by decide +kernel), List.mem_of_getElem? (i := 231) (by decide +kernel)⟩
theorem lw_p19 : lw_okq (⟨"TwoWorlds", "goBack", "()V"⟩, 15) := ⟨⟨by decide +kernel, by decide +kernel⟩, List.mem_of_getElem? (i := 6) (by decide +kernel), List.mem_of_getElem? (i := 235) (by decide +kernel), List.mem_of_getElem? (i := 236) (by decide +kernel)⟩
theorem lw_p20 : lw_okq (⟨"TwoWorlds", "endOutCall", "()V"⟩, 15) := ⟨⟨by decide +kernel, by decide +kernel⟩, List.mem_of_getElem? (i := 6) (by decide +kernel), List.mem_of_getElem? (i := 239) (by decide +kernel), List.mem_of_getElem? (i := 240) (by decide +kernel)⟩
theorem lw_p21 : lw_okq (⟨"TwoWorlds", "endException", "(I)V"⟩, 15) := ⟨⟨by decide +kernel, by decide +kernel⟩, List.mem_of_getElem? (i := 6) (by decide +kernel), List.mem_of_getElem? (i := 243) (by decide +kernel), List.mem_of_getElem? (i := 244) (by decide +kernel)⟩
theorem lw_p22 : lw_okq (⟨"TwoWorlds", "answerFault", "()V"⟩, 15) := ⟨⟨by decide +kernel, by decide +kernel⟩, List.mem_of_getElem? (i := 6) (by decide +kernel), List.mem_of_getElem? (i := 247) (by decide +kernel), List.mem_of_getElem? (i := 248) (by decide +kernel)⟩
theorem lw_p23 : lw_okq (⟨"TwoWorldsModel", "step", "()V"⟩, 15) := ⟨⟨by decide +kernel, by decide +kernel⟩, List.mem_of_getElem? (i := 263) (by decide +kernel), List.mem_of_getElem? (i := 352) (by decide +kernel), List.mem_of_getElem? (i := 353) (by decide +kernel)⟩
theorem lw_p24 : lw_okq (⟨"TwoWorldsModel", "take", "(II)V"⟩, 15) := ⟨⟨by decide +kernel, by decide +kernel⟩, List.mem_of_getElem? (i := 263) (by decide +kernel), List.mem_of_getElem? (i := 356) (by decide +kernel), List.mem_of_getElem? (i := 357) (by decide +kernel)⟩
theorem lw_p25 : lw_okq (⟨"TwoWorldsModel", "keep", "()V"⟩, 15) := ⟨⟨by decide +kernel, by decide +kernel⟩, List.mem_of_getElem? (i := 263) (by decide +kernel), List.mem_of_getElem? (i := 360) (by decide +kernel), List.mem_of_getElem? (i := 361) (by decide +kernel)⟩
theorem lw_p26 : lw_okq (⟨"TwoWorldsModel", "push", "(I)V"⟩, 15) := ⟨⟨by decide +kernel, by decide +kernel⟩, List.mem_of_getElem? (i := 263) (by decide +kernel), List.mem_of_getElem? (i := 364) (by decide +kernel), List.mem_of_getElem? (i := 365) (by decide +kernel)⟩
theorem lw_p27 : lw_okq (⟨"TwoWorldsModel", "stack", "()I"⟩, 15) := ⟨⟨by decide +kernel, by decide +kernel⟩, List.mem_of_getElem? (i := 263) (by decide +kernel), List.mem_of_getElem? (i := 368) (by decide +kernel), List.mem_of_getElem? (i := 369) (by decide +kernel)⟩
theorem lw_p28 : lw_okq (⟨"TwoWorldsModel", "isOpenWorld", "()Z"⟩, 15) := ⟨⟨by decide +kernel, by decide +kernel⟩, List.mem_of_getElem? (i := 263) (by decide +kernel), List.mem_of_getElem? (i := 372) (by decide +kernel), List.mem_of_getElem? (i := 373) (by decide +kernel)⟩
theorem lw_p29 : lw_okq (⟨"TwoWorldsModel", "write", "(II)V"⟩, 15) := ⟨⟨by decide +kernel, by decide +kernel⟩, List.mem_of_getElem? (i := 263) (by decide +kernel), List.mem_of_getElem? (i := 376) (by decide +kernel), List.mem_of_getElem? (i := 377) (by decide +kernel)⟩
theorem lw_p30 : lw_okq (⟨"TwoWorldsModel", "mayUse", "(I)Z"⟩, 15) := ⟨⟨by decide +kernel, by decide +kernel⟩, List.mem_of_getElem? (i := 263) (by decide +kernel), List.mem_of_getElem? (i := 380) (by decide +kernel), List.mem_of_getElem? (i := 381) (by decide +kernel)⟩
theorem lw_p31 : lw_okq (⟨"TwoWorldsModel", "kindAt", "(I)I"⟩, 15) := ⟨⟨by decide +kernel, by decide +kernel⟩, List.mem_of_getElem? (i := 263) (by decide +kernel), List.mem_of_getElem? (i := 384) (by decide +kernel), List.mem_of_getElem? (i := 385) (by decide +kernel)⟩
def lw_privs_2 : List (MethodName × Nat) := [(⟨"TwoWorlds", "call", "(I)V"⟩, 15), (⟨"TwoWorlds", "goOut", "(I)V"⟩, 15), (⟨"TwoWorlds", "callOut", "(I)V"⟩, 15), (⟨"TwoWorlds", "goBack", "()V"⟩, 15), (⟨"TwoWorlds", "endOutCall", "()V"⟩, 15), (⟨"TwoWorlds", "endException", "(I)V"⟩, 15), (⟨"TwoWorlds", "answerFault", "()V"⟩, 15), (⟨"TwoWorldsModel", "step", "()V"⟩, 15), (⟨"TwoWorldsModel", "take", "(II)V"⟩, 15), (⟨"TwoWorldsModel", "keep", "()V"⟩, 15), (⟨"TwoWorldsModel", "push", "(I)V"⟩, 15), (⟨"TwoWorldsModel", "stack", "()I"⟩, 15), (⟨"TwoWorldsModel", "isOpenWorld", "()Z"⟩, 15), (⟨"TwoWorldsModel", "write", "(II)V"⟩, 15), (⟨"TwoWorldsModel", "mayUse", "(I)Z"⟩, 15), (⟨"TwoWorldsModel", "kindAt", "(I)I"⟩, 15)]
theorem lw_r2 : ∀ q ∈ lw_privs_2, lw_okq q := List.forall_mem_cons.mpr ⟨lw_p16, List.forall_mem_cons.mpr ⟨lw_p17, List.forall_mem_cons.mpr ⟨lw_p18, List.forall_mem_cons.mpr ⟨lw_p19, List.forall_mem_cons.mpr ⟨lw_p20, List.forall_mem_cons.mpr ⟨lw_p21, List.forall_mem_cons.mpr ⟨lw_p22, List.forall_mem_cons.mpr ⟨lw_p23, List.forall_mem_cons.mpr ⟨lw_p24, List.forall_mem_cons.mpr ⟨lw_p25, List.forall_mem_cons.mpr ⟨lw_p26, List.forall_mem_cons.mpr ⟨lw_p27, List.forall_mem_cons.mpr ⟨lw_p28, List.forall_mem_cons.mpr ⟨lw_p29, List.forall_mem_cons.mpr ⟨lw_p30, List.forall_mem_cons.mpr ⟨lw_p31, fun _ h => absurd h List.not_mem_nil⟩⟩⟩⟩⟩⟩⟩⟩⟩⟩⟩⟩⟩⟩⟩⟩
theorem lw_p32 : lw_okq (⟨"TwoWorldsModel", "speak", "(I)V"⟩, 15) := ⟨⟨by decide +kernel, by decide +kernel⟩, List.mem_of_getElem? (i := 263) (by decide +kernel), List.mem_of_getElem? (i := 388) (by decide +kernel), List.mem_of_getElem? (i := 389) (by decide +kernel)⟩
theorem lw_p33 : lw_okq (⟨"TwoWorldsModel", "takeBack", "()V"⟩, 15) := ⟨⟨by decide +kernel, by decide +kernel⟩, List.mem_of_getElem? (i := 263) (by decide +kernel), List.mem_of_getElem? (i := 392) (by decide +kernel), List.mem_of_getElem? (i := 393) (by decide +kernel)⟩
theorem lw_p34 : lw_okq (⟨"TwoWorldsModel", "isClosedOne", "(I)Z"⟩, 15) := ⟨⟨by decide +kernel, by decide +kernel⟩, List.mem_of_getElem? (i := 263) (by decide +kernel), List.mem_of_getElem? (i := 396) (by decide +kernel), List.mem_of_getElem? (i := 397) (by decide +kernel)⟩
theorem lw_p35 : lw_okq (⟨"TwoWorldsModel", "instruction", "()V"⟩, 15) := ⟨⟨by decide +kernel, by decide +kernel⟩, List.mem_of_getElem? (i := 263) (by decide +kernel), List.mem_of_getElem? (i := 401) (by decide +kernel), List.mem_of_getElem? (i := 402) (by decide +kernel)⟩
theorem lw_p36 : lw_okq (⟨"TwoWorldsModel", "perform", "(I)V"⟩, 15) := ⟨⟨by decide +kernel, by decide +kernel⟩, List.mem_of_getElem? (i := 263) (by decide +kernel), List.mem_of_getElem? (i := 406) (by decide +kernel), List.mem_of_getElem? (i := 407) (by decide +kernel)⟩
theorem lw_p37 : lw_okq (⟨"TwoWorldsModel", "read", "(I)I"⟩, 15) := ⟨⟨by decide +kernel, by decide +kernel⟩, List.mem_of_getElem? (i := 263) (by decide +kernel), List.mem_of_getElem? (i := 413) (by decide +kernel), List.mem_of_getElem? (i := 414) (by decide +kernel)⟩
theorem lw_p38 : lw_okq (⟨"TwoWorldsModel", "pop", "()I"⟩, 15) := ⟨⟨by decide +kernel, by decide +kernel⟩, List.mem_of_getElem? (i := 263) (by decide +kernel), List.mem_of_getElem? (i := 417) (by decide +kernel), List.mem_of_getElem? (i := 418) (by decide +kernel)⟩
theorem lw_p39 : lw_okq (⟨"TwoWorldsModel", "call", "(II)V"⟩, 15) := ⟨⟨by decide +kernel, by decide +kernel⟩, List.mem_of_getElem? (i := 263) (by decide +kernel), List.mem_of_getElem? (i := 421) (by decide +kernel), List.mem_of_getElem? (i := 422) (by decide +kernel)⟩
theorem lw_p40 : lw_okq (⟨"TwoWorldsModel", "outwards", "(IIZ)V"⟩, 15) := ⟨⟨by decide +kernel, by decide +kernel⟩, List.mem_of_getElem? (i := 263) (by decide +kernel), List.mem_of_getElem? (i := 425) (by decide +kernel), List.mem_of_getElem? (i := 426) (by decide +kernel)⟩
theorem lw_p41 : lw_okq (⟨"TwoWorldsModel", "returns", "()V"⟩, 15) := ⟨⟨by decide +kernel, by decide +kernel⟩, List.mem_of_getElem? (i := 263) (by decide +kernel), List.mem_of_getElem? (i := 430) (by decide +kernel), List.mem_of_getElem? (i := 431) (by decide +kernel)⟩
theorem lw_p42 : lw_okq (⟨"TwoWorldsModel", "endException", "()V"⟩, 15) := ⟨⟨by decide +kernel, by decide +kernel⟩, List.mem_of_getElem? (i := 263) (by decide +kernel), List.mem_of_getElem? (i := 434) (by decide +kernel), List.mem_of_getElem? (i := 435) (by decide +kernel)⟩
theorem lw_p43 : lw_okq (⟨"TwoWorldsModel", "fault", "()V"⟩, 15) := ⟨⟨by decide +kernel, by decide +kernel⟩, List.mem_of_getElem? (i := 263) (by decide +kernel), List.mem_of_getElem? (i := 438) (by decide +kernel), List.mem_of_getElem? (i := 439) (by decide +kernel)⟩
def lw_privs_3 : List (MethodName × Nat) := [(⟨"TwoWorldsModel", "speak", "(I)V"⟩, 15), (⟨"TwoWorldsModel", "takeBack", "()V"⟩, 15), (⟨"TwoWorldsModel", "isClosedOne", "(I)Z"⟩, 15), (⟨"TwoWorldsModel", "instruction", "()V"⟩, 15), (⟨"TwoWorldsModel", "perform", "(I)V"⟩, 15), (⟨"TwoWorldsModel", "read", "(I)I"⟩, 15), (⟨"TwoWorldsModel", "pop", "()I"⟩, 15), (⟨"TwoWorldsModel", "call", "(II)V"⟩, 15), (⟨"TwoWorldsModel", "outwards", "(IIZ)V"⟩, 15), (⟨"TwoWorldsModel", "returns", "()V"⟩, 15), (⟨"TwoWorldsModel", "endException", "()V"⟩, 15), (⟨"TwoWorldsModel", "fault", "()V"⟩, 15)]
theorem lw_r3 : ∀ q ∈ lw_privs_3, lw_okq q := List.forall_mem_cons.mpr ⟨lw_p32, List.forall_mem_cons.mpr ⟨lw_p33, List.forall_mem_cons.mpr ⟨lw_p34, List.forall_mem_cons.mpr ⟨lw_p35, List.forall_mem_cons.mpr ⟨lw_p36, List.forall_mem_cons.mpr ⟨lw_p37, List.forall_mem_cons.mpr ⟨lw_p38, List.forall_mem_cons.mpr ⟨lw_p39, List.forall_mem_cons.mpr ⟨lw_p40, List.forall_mem_cons.mpr ⟨lw_p41, List.forall_mem_cons.mpr ⟨lw_p42, List.forall_mem_cons.mpr ⟨lw_p43, fun _ h => absurd h List.not_mem_nil⟩⟩⟩⟩⟩⟩⟩⟩⟩⟩⟩⟩
def lw_privs : List (MethodName × Nat) := lw_privs_1 ++ (lw_privs_2 ++ (lw_privs_3))
def lw_tbl : List Cond := k2_sels lw_privs ++ tables_1
theorem lw_privs_ok : ∀ q ∈ lw_privs, lw_okq q := by
  show ∀ q ∈ lw_privs_1 ++ (lw_privs_2 ++ (lw_privs_3)), lw_okq q
  exact List.forall_mem_append.mpr ⟨lw_r1, List.forall_mem_append.mpr ⟨lw_r2, lw_r3⟩⟩
end
section
def gw : List Cond := lw_tbl.filter goodWord
theorem gw_m {w : Cond} {i : Nat} (h : lw_tbl[i]? = some w) (hg : goodWord w = true) : w ∈ gw := List.mem_filter.mpr ⟨List.mem_of_getElem? h, hg⟩
abbrev RK : String := "TwoWorlds"
def TK : u_T := fun k => match k with
  | 0 => ("TwoWorlds", "words", "[I", true)
  | 1 => ("TwoWorlds", "kinds", "[I", true)
  | 2 => ("TwoWorlds", "regionFirst", "[I", true)
  | 3 => ("TwoWorlds", "regionLast", "[I", true)
  | 4 => ("TwoWorlds", "regionKind", "[I", true)
  | 5 => ("TwoWorlds", "now", "LTwoWorlds$Registers;", true)
  | 6 => ("TwoWorlds", "before", "LTwoWorlds$Registers;", true)
  | 7 => ("TwoWorlds", "breachesEnabled", "Z", false)
  | 8 => ("TwoWorlds", "closedExceptions", "I", false)
  | 9 => ("TwoWorlds", "closedBase", "I", false)
  | 10 => ("TwoWorlds", "openBase", "I", false)
  | 11 => ("TwoWorlds", "state", "I", false)
  | 12 => ("TwoWorlds", "pending", "I", false)
  | 13 => ("TwoWorlds", "takenLast", "I", false)
  | _ => ("TwoWorlds", "fault", "I", false)
def tyK : Nat → FieldType := fun k => match k with
  | 0 => .array .int
  | 1 => .array .int
  | 2 => .array .int
  | 3 => .array .int
  | 4 => .array .int
  | 5 => .object "TwoWorlds$Registers"
  | 6 => .object "TwoWorlds$Registers"
  | 7 => .boolean
  | 8 => .int
  | 9 => .int
  | 10 => .int
  | 11 => .int
  | 12 => .int
  | 13 => .int
  | _ => .int
theorem nmK : ∀ a, a < 15 → ∀ b, b < 15 → a ≠ b → (TK a).2.1 ≠ (TK b).2.1 := by decide +kernel
theorem tyK_ok : ∀ k, k < 15 → parseFieldDescriptor (TK k).2.2.1 = some (tyK k) := by decide +kernel
theorem inK_0 : ∀ w ∈ u_ws RK TK 15, w ∈ lw_tbl := by decide +kernel
theorem inK_1 : (u_ws RK TK 15).all goodWord = true := by decide +kernel
theorem inK : ∀ w ∈ u_ws RK TK 15, w ∈ gw := fun w h => List.mem_filter.mpr ⟨inK_0 w h, List.all_eq_true.mp inK_1 w h⟩
abbrev RQ : String := "TwoWorlds$Registers"
def TQ : u_T := fun k => match k with
  | 0 => ("TwoWorlds$Registers", "\x72", "[I", true)
  | 1 => ("TwoWorlds$Registers", "closedStack", "I", false)
  | 2 => ("TwoWorlds$Registers", "openStack", "I", false)
  | 3 => ("TwoWorlds$Registers", "pc", "I", false)
  | 4 => ("TwoWorlds$Registers", "zero", "Z", false)
  | 5 => ("TwoWorlds$Registers", "open", "Z", false)
  | _ => ("TwoWorlds$Registers", "active", "I", false)
def tyQ : Nat → FieldType := fun k => match k with
  | 0 => .array .int
  | 1 => .int
  | 2 => .int
  | 3 => .int
  | 4 => .boolean
  | 5 => .boolean
  | _ => .int
theorem nmQ : ∀ a, a < 7 → ∀ b, b < 7 → a ≠ b → (TQ a).2.1 ≠ (TQ b).2.1 := by decide +kernel
theorem tyQ_ok : ∀ k, k < 7 → parseFieldDescriptor (TQ k).2.2.1 = some (tyQ k) := by decide +kernel
theorem inQ_0 : ∀ w ∈ u_ws RQ TQ 7, w ∈ lw_tbl := by decide +kernel
theorem inQ_1 : (u_ws RQ TQ 7).all goodWord = true := by decide +kernel
theorem inQ : ∀ w ∈ u_ws RQ TQ 7, w ∈ gw := fun w h => List.mem_filter.mpr ⟨inQ_0 w h, List.all_eq_true.mp inQ_1 w h⟩
abbrev RM : String := "TwoWorldsModel"
def TM : u_T := fun k => match k with
  | 0 => ("TwoWorldsModel", "memory", "[I", false)
  | 1 => ("TwoWorldsModel", "first", "[I", false)
  | 2 => ("TwoWorldsModel", "last", "[I", false)
  | 3 => ("TwoWorldsModel", "kinds", "[I", false)
  | 4 => ("TwoWorldsModel", "enabled", "Z", false)
  | 5 => ("TwoWorldsModel", "closedOnes", "I", false)
  | 6 => ("TwoWorldsModel", "closedBase", "I", false)
  | 7 => ("TwoWorldsModel", "openBase", "I", false)
  | 8 => ("TwoWorldsModel", "\x72", "[I", false)
  | 9 => ("TwoWorldsModel", "kept", "[I", false)
  | 10 => ("TwoWorldsModel", "active", "I", false)
  | 11 => ("TwoWorldsModel", "state", "I", false)
  | 12 => ("TwoWorldsModel", "pending", "I", false)
  | 13 => ("TwoWorldsModel", "latest", "I", false)
  | _ => ("TwoWorldsModel", "against", "I", false)
def tyM : Nat → FieldType := fun k => match k with
  | 0 => .array .int
  | 1 => .array .int
  | 2 => .array .int
  | 3 => .array .int
  | 4 => .boolean
  | 5 => .int
  | 6 => .int
  | 7 => .int
  | 8 => .array .int
  | 9 => .array .int
  | 10 => .int
  | 11 => .int
  | 12 => .int
  | 13 => .int
  | _ => .int
theorem nmM : ∀ a, a < 15 → ∀ b, b < 15 → a ≠ b → (TM a).2.1 ≠ (TM b).2.1 := by decide +kernel
theorem tyM_ok : ∀ k, k < 15 → parseFieldDescriptor (TM k).2.2.1 = some (tyM k) := by decide +kernel
theorem inM_0 : ∀ w ∈ u_ws RM TM 15, w ∈ lw_tbl := by decide +kernel
theorem inM_1 : (u_ws RM TM 15).all goodWord = true := by decide +kernel
theorem inM : ∀ w ∈ u_ws RM TM 15, w ∈ gw := fun w h => List.mem_filter.mpr ⟨inM_0 w h, List.all_eq_true.mp inM_1 w h⟩
abbrev RL : String := "TwoWorldsLaw"
abbrev vwCl : List vw_C := [(RK, TK, 15), (RQ, TQ, 7), (RM, TM, 15)]
theorem lw_good : GoodIn gw gw := fun w h => ⟨h, good_of_word (List.mem_filter.mp h).2⟩
theorem nm_c {w : Cond} (h : w ∈ gw) : GoodIn gw (w :: gw) := fun v hv => (List.mem_cons.mp hv).elim (fun e => by rw [e]; exact lw_good w h) (fun h2 => lw_good v h2)
theorem nm_V {own C : String} {i n : Nat} {y : MethodName} {cc : ByteArray} {r : Option FieldType} (h1 : Cond.methodLink own i y ∈ gw) (h2 : Cond.instanceMethod y ∈ gw) (h3 : Cond.selects C y y ∈ gw) (h4 : Cond.initialized C ∈ gw) (h5 : Cond.code y cc n r ∈ gw) : GoodIn gw (wsV own i C y (Cond.code y cc n r :: gw)) := by
  intro w hw
  unfold wsV at hw
  rcases List.mem_append.mp hw with h | h
  · rcases List.mem_cons.mp h with rfl | h
    · exact lw_good _ h1
    · rcases List.mem_cons.mp h with rfl | h
      · exact lw_good _ h2
      · rcases List.mem_cons.mp h with rfl | h
        · exact lw_good _ h3
        · rcases List.mem_cons.mp h with rfl | h
          · exact lw_good _ h4
          · exact absurd h List.not_mem_nil
  · exact nm_c h5 w h
theorem nm_S {own : String} {i n : Nat} {y : MethodName} {cc : ByteArray} {r : Option FieldType} (h1 : Cond.methodLink own i y ∈ gw) (h2 : Cond.static y ∈ gw) (h3 : Cond.initialized y.cls ∈ gw) (h5 : Cond.code y cc n r ∈ gw) : GoodIn gw (va_wsS own i y (Cond.code y cc n r :: gw)) := by
  intro w hw
  unfold va_wsS at hw
  rcases List.mem_append.mp hw with h | h
  · rcases List.mem_cons.mp h with rfl | h
    · exact lw_good _ h1
    · rcases List.mem_cons.mp h with rfl | h
      · exact lw_good _ h2
      · rcases List.mem_cons.mp h with rfl | h
        · exact lw_good _ h3
        · exact absurd h List.not_mem_nil
  · exact nm_c h5 w h
abbrev cK_init : ByteArray := prog_1_method_1_code
abbrev yK_init : MethodName := ⟨RK, "<init>", "()V"⟩
abbrev wsK_init : List Cond := Cond.code yK_init cK_init 1 none :: gw
abbrev cK_poke : ByteArray := prog_1_method_2_code
abbrev yK_poke : MethodName := ⟨RK, "poke", "(II)I"⟩
abbrev wsK_poke : List Cond := Cond.code yK_poke cK_poke 5 (some .int) :: gw
abbrev cK_fill : ByteArray := prog_1_method_3_code
abbrev yK_fill : MethodName := ⟨RK, "fill", "(IJ)Z"⟩
abbrev wsK_fill : List Cond := Cond.code yK_fill cK_fill 5 (some .boolean) :: gw
abbrev cK_region : ByteArray := prog_1_method_4_code
abbrev yK_region : MethodName := ⟨RK, "region", "(IIII)Z"⟩
abbrev wsK_region : List Cond := Cond.code yK_region cK_region 6 (some .boolean) :: gw
abbrev cK_settings : ByteArray := prog_1_method_5_code
abbrev yK_settings : MethodName := ⟨RK, "settings", "(ZIII)Z"⟩
abbrev wsK_settings : List Cond := Cond.code yK_settings cK_settings 5 (some .boolean) :: gw
abbrev cK_begin : ByteArray := prog_1_method_6_code
abbrev yK_begin : MethodName := ⟨RK, "begin", "(IZII)Z"⟩
abbrev wsK_begin : List Cond := Cond.code yK_begin cK_begin 5 (some .boolean) :: gw
abbrev cK_set : ByteArray := prog_1_method_7_code
abbrev yK_set : MethodName := ⟨RK, "set", "(II)Z"⟩
abbrev wsK_set : List Cond := Cond.code yK_set cK_set 3 (some .boolean) :: gw
abbrev cK_interrupt : ByteArray := prog_1_method_8_code
abbrev yK_interrupt : MethodName := ⟨RK, "interrupt", "(I)Z"⟩
abbrev wsK_interrupt : List Cond := Cond.code yK_interrupt cK_interrupt 2 (some .boolean) :: gw
abbrev cK_run : ByteArray := prog_1_method_9_code
abbrev yK_run : MethodName := ⟨RK, "run", "(I)I"⟩
abbrev wsK_run : List Cond := Cond.code yK_run cK_run 3 (some .int) :: gw
abbrev cK_word : ByteArray := prog_1_method_10_code
abbrev yK_word : MethodName := ⟨RK, "word", "(I)I"⟩
abbrev wsK_word : List Cond := Cond.code yK_word cK_word 2 (some .int) :: gw
abbrev cK_register : ByteArray := prog_1_method_11_code
abbrev yK_register : MethodName := ⟨RK, "register", "(I)I"⟩
abbrev wsK_register : List Cond := Cond.code yK_register cK_register 2 (some .int) :: gw
abbrev cK_kind : ByteArray := prog_1_method_12_code
abbrev yK_kind : MethodName := ⟨RK, "kind", "(I)I"⟩
abbrev wsK_kind : List Cond := Cond.code yK_kind cK_kind 2 (some .int) :: gw
abbrev cK_isAddress : ByteArray := prog_1_method_13_code
abbrev yK_isAddress : MethodName := ⟨RK, "isAddress", "(I)Z"⟩
abbrev wsK_isAddress : List Cond := Cond.code yK_isAddress cK_isAddress 1 (some .boolean) :: gw
abbrev cK_isBase : ByteArray := prog_1_method_14_code
abbrev yK_isBase : MethodName := ⟨RK, "isBase", "(I)Z"⟩
abbrev wsK_isBase : List Cond := Cond.code yK_isBase cK_isBase 1 (some .boolean) :: gw
abbrev cK_kindByRegions : ByteArray := prog_1_method_15_code
abbrev yK_kindByRegions : MethodName := ⟨RK, "kindByRegions", "(I)I"⟩
abbrev wsK_kindByRegions : List Cond := Cond.code yK_kindByRegions cK_kindByRegions 5 (some .int) :: gw
abbrev cK_step : ByteArray := prog_1_method_16_code
abbrev yK_step : MethodName := ⟨RK, "step", "()V"⟩
abbrev wsK_step : List Cond := Cond.code yK_step cK_step 2 none :: gw
abbrev cK_takePending : ByteArray := prog_1_method_17_code
abbrev yK_takePending : MethodName := ⟨RK, "takePending", "()V"⟩
abbrev wsK_takePending : List Cond := Cond.code yK_takePending cK_takePending 3 none :: gw
abbrev cK_fetch : ByteArray := prog_1_method_18_code
abbrev yK_fetch : MethodName := ⟨RK, "fetch", "()I"⟩
abbrev wsK_fetch : List Cond := Cond.code yK_fetch cK_fetch 3 (some .int) :: gw
abbrev cK_isUnknown : ByteArray := prog_1_method_19_code
abbrev yK_isUnknown : MethodName := ⟨RK, "isUnknown", "(I)Z"⟩
abbrev wsK_isUnknown : List Cond := Cond.code yK_isUnknown cK_isUnknown 4 (some .boolean) :: gw
abbrev cK_moveData : ByteArray := prog_1_method_20_code
abbrev yK_moveData : MethodName := ⟨RK, "moveData", "(I)V"⟩
abbrev wsK_moveData : List Cond := Cond.code yK_moveData cK_moveData 7 none :: gw
abbrev cK_changeFlow : ByteArray := prog_1_method_21_code
abbrev yK_changeFlow : MethodName := ⟨RK, "changeFlow", "(I)V"⟩
abbrev wsK_changeFlow : List Cond := Cond.code yK_changeFlow cK_changeFlow 3 none :: gw
abbrev cK_goTo : ByteArray := prog_1_method_22_code
abbrev yK_goTo : MethodName := ⟨RK, "goTo", "(I)V"⟩
abbrev wsK_goTo : List Cond := Cond.code yK_goTo cK_goTo 2 none :: gw
abbrev cK_call : ByteArray := prog_1_method_23_code
abbrev yK_call : MethodName := ⟨RK, "call", "(I)V"⟩
abbrev wsK_call : List Cond := Cond.code yK_call cK_call 2 none :: gw
abbrev cK_goOut : ByteArray := prog_1_method_24_code
abbrev yK_goOut : MethodName := ⟨RK, "goOut", "(I)V"⟩
abbrev wsK_goOut : List Cond := Cond.code yK_goOut cK_goOut 2 none :: gw
abbrev cK_callOut : ByteArray := prog_1_method_25_code
abbrev yK_callOut : MethodName := ⟨RK, "callOut", "(I)V"⟩
abbrev wsK_callOut : List Cond := Cond.code yK_callOut cK_callOut 2 none :: gw
abbrev cK_goBack : ByteArray := prog_1_method_26_code
abbrev yK_goBack : MethodName := ⟨RK, "goBack", "()V"⟩
abbrev wsK_goBack : List Cond := Cond.code yK_goBack cK_goBack 2 none :: gw
abbrev cK_endOutCall : ByteArray := prog_1_method_27_code
abbrev yK_endOutCall : MethodName := ⟨RK, "endOutCall", "()V"⟩
abbrev wsK_endOutCall : List Cond := Cond.code yK_endOutCall cK_endOutCall 1 none :: gw
abbrev cK_endException : ByteArray := prog_1_method_28_code
abbrev yK_endException : MethodName := ⟨RK, "endException", "(I)V"⟩
abbrev wsK_endException : List Cond := Cond.code yK_endException cK_endException 4 none :: gw
abbrev cK_answerFault : ByteArray := prog_1_method_29_code
abbrev yK_answerFault : MethodName := ⟨RK, "answerFault", "()V"⟩
abbrev wsK_answerFault : List Cond := Cond.code yK_answerFault cK_answerFault 2 none :: gw
abbrev cK_take : ByteArray := prog_1_method_30_code
abbrev yK_take : MethodName := ⟨RK, "take", "(I)V"⟩
abbrev wsK_take : List Cond := Cond.code yK_take cK_take 2 none :: gw
abbrev cK_pushFrame : ByteArray := prog_1_method_31_code
abbrev yK_pushFrame : MethodName := ⟨RK, "pushFrame", "()V"⟩
abbrev wsK_pushFrame : List Cond := Cond.code yK_pushFrame cK_pushFrame 2 none :: gw
abbrev cK_enter : ByteArray := prog_1_method_32_code
abbrev yK_enter : MethodName := ⟨RK, "enter", "(I)V"⟩
abbrev wsK_enter : List Cond := Cond.code yK_enter cK_enter 3 none :: gw
abbrev cK_isHandledOpen : ByteArray := prog_1_method_33_code
abbrev yK_isHandledOpen : MethodName := ⟨RK, "isHandledOpen", "(I)Z"⟩
abbrev wsK_isHandledOpen : List Cond := Cond.code yK_isHandledOpen cK_isHandledOpen 2 (some .boolean) :: gw
abbrev cK_push : ByteArray := prog_1_method_34_code
abbrev yK_push : MethodName := ⟨RK, "push", "(I)V"⟩
abbrev wsK_push : List Cond := Cond.code yK_push cK_push 3 none :: gw
abbrev cK_pop : ByteArray := prog_1_method_35_code
abbrev yK_pop : MethodName := ⟨RK, "pop", "()I"⟩
abbrev wsK_pop : List Cond := Cond.code yK_pop cK_pop 2 (some .int) :: gw
abbrev cK_read : ByteArray := prog_1_method_36_code
abbrev yK_read : MethodName := ⟨RK, "read", "(I)I"⟩
abbrev wsK_read : List Cond := Cond.code yK_read cK_read 3 (some .int) :: gw
abbrev cK_write : ByteArray := prog_1_method_37_code
abbrev yK_write : MethodName := ⟨RK, "write", "(II)V"⟩
abbrev wsK_write : List Cond := Cond.code yK_write cK_write 4 none :: gw
abbrev cQ_init : ByteArray := prog_2_method_1_code
abbrev yQ_init : MethodName := ⟨RQ, "<init>", "()V"⟩
abbrev wsQ_init : List Cond := Cond.code yQ_init cQ_init 1 none :: gw
abbrev cQ_copy : ByteArray := prog_2_method_2_code
abbrev yQ_copy : MethodName := ⟨RQ, "copy", "(LTwoWorlds$Registers;)V"⟩
abbrev wsQ_copy : List Cond := Cond.code yQ_copy cQ_copy 2 none :: gw
abbrev cQ_stack : ByteArray := prog_2_method_3_code
abbrev yQ_stack : MethodName := ⟨RQ, "stack", "()I"⟩
abbrev wsQ_stack : List Cond := Cond.code yQ_stack cQ_stack 1 (some .int) :: gw
abbrev cQ_setStack : ByteArray := prog_2_method_4_code
abbrev yQ_setStack : MethodName := ⟨RQ, "setStack", "(I)V"⟩
abbrev wsQ_setStack : List Cond := Cond.code yQ_setStack cQ_setStack 2 none :: gw
abbrev cQ_clearForOpen : ByteArray := prog_2_method_5_code
abbrev yQ_clearForOpen : MethodName := ⟨RQ, "clearForOpen", "()V"⟩
abbrev wsQ_clearForOpen : List Cond := Cond.code yQ_clearForOpen cQ_clearForOpen 2 none :: gw
abbrev cM_init : ByteArray := prog_4_method_1_code
abbrev yM_init : MethodName := ⟨RM, "<init>", "()V"⟩
abbrev wsM_init : List Cond := Cond.code yM_init cM_init 1 none :: gw
abbrev cM_poke : ByteArray := prog_4_method_2_code
abbrev yM_poke : MethodName := ⟨RM, "poke", "(II)I"⟩
abbrev wsM_poke : List Cond := Cond.code yM_poke cM_poke 4 (some .int) :: gw
abbrev cM_fill : ByteArray := prog_4_method_3_code
abbrev yM_fill : MethodName := ⟨RM, "fill", "(IJ)Z"⟩
abbrev wsM_fill : List Cond := Cond.code yM_fill cM_fill 5 (some .boolean) :: gw
abbrev cM_isAddress : ByteArray := prog_4_method_4_code
abbrev yM_isAddress : MethodName := ⟨RM, "isAddress", "(I)Z"⟩
abbrev wsM_isAddress : List Cond := Cond.code yM_isAddress cM_isAddress 1 (some .boolean) :: gw
abbrev cM_region : ByteArray := prog_4_method_5_code
abbrev yM_region : MethodName := ⟨RM, "region", "(IIII)Z"⟩
abbrev wsM_region : List Cond := Cond.code yM_region cM_region 5 (some .boolean) :: gw
abbrev cM_settings : ByteArray := prog_4_method_6_code
abbrev yM_settings : MethodName := ⟨RM, "settings", "(ZIII)Z"⟩
abbrev wsM_settings : List Cond := Cond.code yM_settings cM_settings 5 (some .boolean) :: gw
abbrev cM_begin : ByteArray := prog_4_method_7_code
abbrev yM_begin : MethodName := ⟨RM, "begin", "(IZII)Z"⟩
abbrev wsM_begin : List Cond := Cond.code yM_begin cM_begin 5 (some .boolean) :: gw
abbrev cM_set : ByteArray := prog_4_method_8_code
abbrev yM_set : MethodName := ⟨RM, "set", "(II)Z"⟩
abbrev wsM_set : List Cond := Cond.code yM_set cM_set 3 (some .boolean) :: gw
abbrev cM_interrupt : ByteArray := prog_4_method_9_code
abbrev yM_interrupt : MethodName := ⟨RM, "interrupt", "(I)Z"⟩
abbrev wsM_interrupt : List Cond := Cond.code yM_interrupt cM_interrupt 2 (some .boolean) :: gw
abbrev cM_kindAt : ByteArray := prog_4_method_10_code
abbrev yM_kindAt : MethodName := ⟨RM, "kindAt", "(I)I"⟩
abbrev wsM_kindAt : List Cond := Cond.code yM_kindAt cM_kindAt 6 (some .int) :: gw
abbrev cM_isOpenWorld : ByteArray := prog_4_method_11_code
abbrev yM_isOpenWorld : MethodName := ⟨RM, "isOpenWorld", "()Z"⟩
abbrev wsM_isOpenWorld : List Cond := Cond.code yM_isOpenWorld cM_isOpenWorld 1 (some .boolean) :: gw
abbrev cM_speak : ByteArray := prog_4_method_12_code
abbrev yM_speak : MethodName := ⟨RM, "speak", "(I)V"⟩
abbrev wsM_speak : List Cond := Cond.code yM_speak cM_speak 2 none :: gw
abbrev cM_mayUse : ByteArray := prog_4_method_13_code
abbrev yM_mayUse : MethodName := ⟨RM, "mayUse", "(I)Z"⟩
abbrev wsM_mayUse : List Cond := Cond.code yM_mayUse cM_mayUse 2 (some .boolean) :: gw
abbrev cM_read : ByteArray := prog_4_method_14_code
abbrev yM_read : MethodName := ⟨RM, "read", "(I)I"⟩
abbrev wsM_read : List Cond := Cond.code yM_read cM_read 2 (some .int) :: gw
abbrev cM_write : ByteArray := prog_4_method_15_code
abbrev yM_write : MethodName := ⟨RM, "write", "(II)V"⟩
abbrev wsM_write : List Cond := Cond.code yM_write cM_write 3 none :: gw
abbrev cM_stack : ByteArray := prog_4_method_16_code
abbrev yM_stack : MethodName := ⟨RM, "stack", "()I"⟩
abbrev wsM_stack : List Cond := Cond.code yM_stack cM_stack 1 (some .int) :: gw
abbrev cM_push : ByteArray := prog_4_method_17_code
abbrev yM_push : MethodName := ⟨RM, "push", "(I)V"⟩
abbrev wsM_push : List Cond := Cond.code yM_push cM_push 3 none :: gw
abbrev cM_pop : ByteArray := prog_4_method_18_code
abbrev yM_pop : MethodName := ⟨RM, "pop", "()I"⟩
abbrev wsM_pop : List Cond := Cond.code yM_pop cM_pop 3 (some .int) :: gw
abbrev cM_keep : ByteArray := prog_4_method_19_code
abbrev yM_keep : MethodName := ⟨RM, "keep", "()V"⟩
abbrev wsM_keep : List Cond := Cond.code yM_keep cM_keep 2 none :: gw
abbrev cM_takeBack : ByteArray := prog_4_method_20_code
abbrev yM_takeBack : MethodName := ⟨RM, "takeBack", "()V"⟩
abbrev wsM_takeBack : List Cond := Cond.code yM_takeBack cM_takeBack 2 none :: gw
abbrev cM_isClosedOne : ByteArray := prog_4_method_21_code
abbrev yM_isClosedOne : MethodName := ⟨RM, "isClosedOne", "(I)Z"⟩
abbrev wsM_isClosedOne : List Cond := Cond.code yM_isClosedOne cM_isClosedOne 2 (some .boolean) :: gw
abbrev cM_take : ByteArray := prog_4_method_22_code
abbrev yM_take : MethodName := ⟨RM, "take", "(II)V"⟩
abbrev wsM_take : List Cond := Cond.code yM_take cM_take 6 none :: gw
abbrev cM_fault : ByteArray := prog_4_method_23_code
abbrev yM_fault : MethodName := ⟨RM, "fault", "()V"⟩
abbrev wsM_fault : List Cond := Cond.code yM_fault cM_fault 2 none :: gw
abbrev cM_endException : ByteArray := prog_4_method_24_code
abbrev yM_endException : MethodName := ⟨RM, "endException", "()V"⟩
abbrev wsM_endException : List Cond := Cond.code yM_endException cM_endException 5 none :: gw
abbrev cM_returns : ByteArray := prog_4_method_25_code
abbrev yM_returns : MethodName := ⟨RM, "returns", "()V"⟩
abbrev wsM_returns : List Cond := Cond.code yM_returns cM_returns 3 none :: gw
abbrev cM_namesSeven : ByteArray := prog_4_method_26_code
abbrev yM_namesSeven : MethodName := ⟨RM, "namesSeven", "(IIII)Z"⟩
abbrev wsM_namesSeven : List Cond := Cond.code yM_namesSeven cM_namesSeven 6 (some .boolean) :: gw
abbrev cM_outwards : ByteArray := prog_4_method_27_code
abbrev yM_outwards : MethodName := ⟨RM, "outwards", "(IIZ)V"⟩
abbrev wsM_outwards : List Cond := Cond.code yM_outwards cM_outwards 5 none :: gw
abbrev cM_perform : ByteArray := prog_4_method_28_code
abbrev yM_perform : MethodName := ⟨RM, "perform", "(I)V"⟩
abbrev wsM_perform : List Cond := Cond.code yM_perform cM_perform 8 none :: gw
abbrev cM_call : ByteArray := prog_4_method_29_code
abbrev yM_call : MethodName := ⟨RM, "call", "(II)V"⟩
abbrev wsM_call : List Cond := Cond.code yM_call cM_call 4 none :: gw
abbrev cM_instruction : ByteArray := prog_4_method_30_code
abbrev yM_instruction : MethodName := ⟨RM, "instruction", "()V"⟩
abbrev wsM_instruction : List Cond := Cond.code yM_instruction cM_instruction 5 none :: gw
abbrev cM_step : ByteArray := prog_4_method_31_code
abbrev yM_step : MethodName := ⟨RM, "step", "()V"⟩
abbrev wsM_step : List Cond := Cond.code yM_step cM_step 3 none :: gw
abbrev cM_run : ByteArray := prog_4_method_32_code
abbrev yM_run : MethodName := ⟨RM, "run", "(I)I"⟩
abbrev wsM_run : List Cond := Cond.code yM_run cM_run 3 (some .int) :: gw
abbrev cM_word : ByteArray := prog_4_method_33_code
abbrev yM_word : MethodName := ⟨RM, "word", "(I)I"⟩
abbrev wsM_word : List Cond := Cond.code yM_word cM_word 2 (some .int) :: gw
abbrev cM_register : ByteArray := prog_4_method_34_code
abbrev yM_register : MethodName := ⟨RM, "register", "(I)I"⟩
abbrev wsM_register : List Cond := Cond.code yM_register cM_register 2 (some .int) :: gw
abbrev cM_kind : ByteArray := prog_4_method_35_code
abbrev yM_kind : MethodName := ⟨RM, "kind", "(I)I"⟩
abbrev wsM_kind : List Cond := Cond.code yM_kind cM_kind 2 (some .int) :: gw
abbrev cL_law : ByteArray := code
end
section
theorem wK_f9 : Cond.fieldLink RK 9 RK "words" "[I" ∈ gw := gw_m (i := 93) (by decide +kernel) rfl
theorem wK_c39 : Cond.constant RK 39 65535 ∈ gw := gw_m (i := 143) (by decide +kernel) rfl
theorem gK_48 : GoodIn gw (va_wsS RK 48 yK_isBase wsK_isBase) := nm_S (gw_m (i := 163) (by decide +kernel) rfl) (gw_m (i := 164) (by decide +kernel) rfl) (gw_m (i := 45) (by decide +kernel) rfl) (gw_m (i := 165) (by decide +kernel) rfl)
theorem hdK_isBase : yK_isBase.cls ≠ "java/lang/invoke/MethodHandle" ∧ yK_isBase.cls ≠ "java/lang/invoke/VarHandle" ∧ (parseMethodDescriptor yK_isBase.desc).map (fun d => d.parameters.length) = some 1 := by decide +kernel
theorem wK_f35 : Cond.fieldLink RK 35 RK "breachesEnabled" "Z" ∈ gw := gw_m (i := 100) (by decide +kernel) rfl
theorem wK_f51 : Cond.fieldLink RK 51 RK "closedExceptions" "I" ∈ gw := gw_m (i := 101) (by decide +kernel) rfl
theorem wK_f55 : Cond.fieldLink RK 55 RK "closedBase" "I" ∈ gw := gw_m (i := 102) (by decide +kernel) rfl
theorem wK_f58 : Cond.fieldLink RK 58 RK "openBase" "I" ∈ gw := gw_m (i := 103) (by decide +kernel) rfl
theorem gK_40 : GoodIn gw (va_wsS RK 40 yK_isAddress wsK_isAddress) := nm_S (gw_m (i := 152) (by decide +kernel) rfl) (gw_m (i := 153) (by decide +kernel) rfl) (gw_m (i := 45) (by decide +kernel) rfl) (gw_m (i := 154) (by decide +kernel) rfl)
theorem hdK_isAddress : yK_isAddress.cls ≠ "java/lang/invoke/MethodHandle" ∧ yK_isAddress.cls ≠ "java/lang/invoke/VarHandle" ∧ (parseMethodDescriptor yK_isAddress.desc).map (fun d => d.parameters.length) = some 1 := by decide +kernel
theorem wK_f28 : Cond.fieldLink RK 28 RK "now" "LTwoWorlds$Registers;" ∈ gw := gw_m (i := 98) (by decide +kernel) rfl
theorem wK_f61 : Cond.fieldLink RK 61 RQ "pc" "I" ∈ gw := gw_m (i := 70) (by decide +kernel) rfl
theorem wK_f64 : Cond.fieldLink RK 64 RQ "open" "Z" ∈ gw := gw_m (i := 74) (by decide +kernel) rfl
theorem wK_f67 : Cond.fieldLink RK 67 RQ "closedStack" "I" ∈ gw := gw_m (i := 66) (by decide +kernel) rfl
theorem wK_f70 : Cond.fieldLink RK 70 RQ "openStack" "I" ∈ gw := gw_m (i := 68) (by decide +kernel) rfl
theorem wK_f73 : Cond.fieldLink RK 73 RQ "active" "I" ∈ gw := gw_m (i := 76) (by decide +kernel) rfl
theorem wK_f76 : Cond.fieldLink RK 76 RK "state" "I" ∈ gw := gw_m (i := 104) (by decide +kernel) rfl
theorem wK_f79 : Cond.fieldLink RK 79 RK "pending" "I" ∈ gw := gw_m (i := 105) (by decide +kernel) rfl
theorem wK_f82 : Cond.fieldLink RK 82 RQ "\x72" "[I" ∈ gw := gw_m (i := 64) (by decide +kernel) rfl
theorem wK_f88 : Cond.fieldLink RK 88 RQ "zero" "Z" ∈ gw := gw_m (i := 72) (by decide +kernel) rfl
theorem wK_f91 : Cond.fieldLink RK 91 RK "takenLast" "I" ∈ gw := gw_m (i := 106) (by decide +kernel) rfl
theorem wK_f13 : Cond.fieldLink RK 13 RK "kinds" "[I" ∈ gw := gw_m (i := 94) (by decide +kernel) rfl
theorem wK_f22 : Cond.fieldLink RK 22 RK "regionKind" "[I" ∈ gw := gw_m (i := 97) (by decide +kernel) rfl
theorem wK_f16 : Cond.fieldLink RK 16 RK "regionFirst" "[I" ∈ gw := gw_m (i := 95) (by decide +kernel) rfl
theorem wK_f19 : Cond.fieldLink RK 19 RK "regionLast" "[I" ∈ gw := gw_m (i := 96) (by decide +kernel) rfl
theorem wK_f32 : Cond.fieldLink RK 32 RK "before" "LTwoWorlds$Registers;" ∈ gw := gw_m (i := 99) (by decide +kernel) rfl
theorem wQ_f9 : Cond.fieldLink RQ 9 RQ "\x72" "[I" ∈ gw := gw_m (i := 63) (by decide +kernel) rfl
theorem wQ_m22 : Cond.methodLink RQ 22 arraycopyName ∈ gw := gw_m (i := 198) (by decide +kernel) rfl
theorem w_cpn : Cond.native arraycopyName ∈ gw := gw_m (i := 200) (by decide +kernel) rfl
theorem w_cps : Cond.static arraycopyName ∈ gw := gw_m (i := 199) (by decide +kernel) rfl
theorem w_cpi : Cond.initialized "java/lang/System" ∈ gw := gw_m (i := 48) (by decide +kernel) rfl
theorem wQ_f15 : Cond.fieldLink RQ 15 RQ "closedStack" "I" ∈ gw := gw_m (i := 65) (by decide +kernel) rfl
theorem wQ_f19 : Cond.fieldLink RQ 19 RQ "openStack" "I" ∈ gw := gw_m (i := 67) (by decide +kernel) rfl
theorem wQ_f28 : Cond.fieldLink RQ 28 RQ "pc" "I" ∈ gw := gw_m (i := 69) (by decide +kernel) rfl
theorem wQ_f31 : Cond.fieldLink RQ 31 RQ "zero" "Z" ∈ gw := gw_m (i := 71) (by decide +kernel) rfl
theorem wQ_f35 : Cond.fieldLink RQ 35 RQ "open" "Z" ∈ gw := gw_m (i := 73) (by decide +kernel) rfl
theorem wQ_f38 : Cond.fieldLink RQ 38 RQ "active" "I" ∈ gw := gw_m (i := 75) (by decide +kernel) rfl
theorem gK_97 : GoodIn gw (wsV RK 97 RQ yQ_copy wsQ_copy) := nm_V (gw_m (i := 194) (by decide +kernel) rfl) (gw_m (i := 195) (by decide +kernel) rfl) (gw_m (i := 196) (by decide +kernel) rfl) (gw_m (i := 46) (by decide +kernel) rfl) (gw_m (i := 197) (by decide +kernel) rfl)
theorem hdQ_copy : yQ_copy.cls = RQ ∧ yQ_copy.cls ≠ "java/lang/invoke/MethodHandle" ∧ yQ_copy.cls ≠ "java/lang/invoke/VarHandle" ∧ (parseMethodDescriptor yQ_copy.desc).map (fun d => d.parameters.length) = some 1 := by decide +kernel
theorem wK_f101 : Cond.fieldLink RK 101 RK "fault" "I" ∈ gw := gw_m (i := 107) (by decide +kernel) rfl
theorem gK_176 : GoodIn gw (wsV RK 176 RQ yQ_stack wsQ_stack) := nm_V (gw_m (i := 209) (by decide +kernel) rfl) (gw_m (i := 210) (by decide +kernel) rfl) (gw_m (i := 211) (by decide +kernel) rfl) (gw_m (i := 46) (by decide +kernel) rfl) (gw_m (i := 212) (by decide +kernel) rfl)
theorem hdQ_stack : yQ_stack.cls = RQ ∧ yQ_stack.cls ≠ "java/lang/invoke/MethodHandle" ∧ yQ_stack.cls ≠ "java/lang/invoke/VarHandle" ∧ (parseMethodDescriptor yQ_stack.desc).map (fun d => d.parameters.length) = some 0 := by decide +kernel
theorem gK_179 : GoodIn gw (wsV RK 179 RQ yQ_setStack wsQ_setStack) := nm_V (gw_m (i := 213) (by decide +kernel) rfl) (gw_m (i := 214) (by decide +kernel) rfl) (gw_m (i := 215) (by decide +kernel) rfl) (gw_m (i := 46) (by decide +kernel) rfl) (gw_m (i := 216) (by decide +kernel) rfl)
theorem hdQ_setStack : yQ_setStack.cls = RQ ∧ yQ_setStack.cls ≠ "java/lang/invoke/MethodHandle" ∧ yQ_setStack.cls ≠ "java/lang/invoke/VarHandle" ∧ (parseMethodDescriptor yQ_setStack.desc).map (fun d => d.parameters.length) = some 1 := by decide +kernel
theorem gK_134 : GoodIn gw (wsV RK 134 RK yK_write wsK_write) := nm_V (gw_m (i := 217) (by decide +kernel) rfl) (gw_m (i := 219) (by decide +kernel) rfl) (gw_m (i := 6) (by decide +kernel) rfl) (gw_m (i := 45) (by decide +kernel) rfl) (gw_m (i := 220) (by decide +kernel) rfl)
theorem hdK_write : yK_write.cls = RK ∧ yK_write.cls ≠ "java/lang/invoke/MethodHandle" ∧ yK_write.cls ≠ "java/lang/invoke/VarHandle" ∧ (parseMethodDescriptor yK_write.desc).map (fun d => d.parameters.length) = some 2 := by decide +kernel
theorem gK_138 : GoodIn gw (wsV RK 138 RK yK_push wsK_push) := nm_V (gw_m (i := 205) (by decide +kernel) rfl) (gw_m (i := 207) (by decide +kernel) rfl) (gw_m (i := 5) (by decide +kernel) rfl) (gw_m (i := 45) (by decide +kernel) rfl) (gw_m (i := 208) (by decide +kernel) rfl)
theorem hdK_push : yK_push.cls = RK ∧ yK_push.cls ≠ "java/lang/invoke/MethodHandle" ∧ yK_push.cls ≠ "java/lang/invoke/VarHandle" ∧ (parseMethodDescriptor yK_push.desc).map (fun d => d.parameters.length) = some 1 := by decide +kernel
theorem gK_164 : GoodIn gw (wsV RK 164 RK yK_pushFrame wsK_pushFrame) := nm_V (gw_m (i := 201) (by decide +kernel) rfl) (gw_m (i := 203) (by decide +kernel) rfl) (gw_m (i := 4) (by decide +kernel) rfl) (gw_m (i := 45) (by decide +kernel) rfl) (gw_m (i := 204) (by decide +kernel) rfl)
theorem hdK_pushFrame : yK_pushFrame.cls = RK ∧ yK_pushFrame.cls ≠ "java/lang/invoke/MethodHandle" ∧ yK_pushFrame.cls ≠ "java/lang/invoke/VarHandle" ∧ (parseMethodDescriptor yK_pushFrame.desc).map (fun d => d.parameters.length) = some 0 := by decide +kernel
theorem gK_170 : GoodIn gw (wsV RK 170 RK yK_isHandledOpen wsK_isHandledOpen) := nm_V (gw_m (i := 225) (by decide +kernel) rfl) (gw_m (i := 227) (by decide +kernel) rfl) (gw_m (i := 8) (by decide +kernel) rfl) (gw_m (i := 45) (by decide +kernel) rfl) (gw_m (i := 228) (by decide +kernel) rfl)
theorem hdK_isHandledOpen : yK_isHandledOpen.cls = RK ∧ yK_isHandledOpen.cls ≠ "java/lang/invoke/MethodHandle" ∧ yK_isHandledOpen.cls ≠ "java/lang/invoke/VarHandle" ∧ (parseMethodDescriptor yK_isHandledOpen.desc).map (fun d => d.parameters.length) = some 1 := by decide +kernel
theorem wK_c157 : Cond.constant RK 157 65408 ∈ gw := gw_m (i := 229) (by decide +kernel) rfl
theorem gK_111 : GoodIn gw (wsV RK 111 RK yK_goTo wsK_goTo) := nm_V (gw_m (i := 234) (by decide +kernel) rfl) (gw_m (i := 236) (by decide +kernel) rfl) (gw_m (i := 9) (by decide +kernel) rfl) (gw_m (i := 45) (by decide +kernel) rfl) (gw_m (i := 237) (by decide +kernel) rfl)
theorem hdK_goTo : yK_goTo.cls = RK ∧ yK_goTo.cls ≠ "java/lang/invoke/MethodHandle" ∧ yK_goTo.cls ≠ "java/lang/invoke/VarHandle" ∧ (parseMethodDescriptor yK_goTo.desc).map (fun d => d.parameters.length) = some 1 := by decide +kernel
theorem gK_173 : GoodIn gw (wsV RK 173 RQ yQ_clearForOpen wsQ_clearForOpen) := nm_V (gw_m (i := 230) (by decide +kernel) rfl) (gw_m (i := 231) (by decide +kernel) rfl) (gw_m (i := 232) (by decide +kernel) rfl) (gw_m (i := 46) (by decide +kernel) rfl) (gw_m (i := 233) (by decide +kernel) rfl)
theorem hdQ_clearForOpen : yQ_clearForOpen.cls = RQ ∧ yQ_clearForOpen.cls ≠ "java/lang/invoke/MethodHandle" ∧ yQ_clearForOpen.cls ≠ "java/lang/invoke/VarHandle" ∧ (parseMethodDescriptor yQ_clearForOpen.desc).map (fun d => d.parameters.length) = some 0 := by decide +kernel
theorem gK_167 : GoodIn gw (wsV RK 167 RK yK_enter wsK_enter) := nm_V (gw_m (i := 221) (by decide +kernel) rfl) (gw_m (i := 223) (by decide +kernel) rfl) (gw_m (i := 7) (by decide +kernel) rfl) (gw_m (i := 45) (by decide +kernel) rfl) (gw_m (i := 224) (by decide +kernel) rfl)
theorem hdK_enter : yK_enter.cls = RK ∧ yK_enter.cls ≠ "java/lang/invoke/MethodHandle" ∧ yK_enter.cls ≠ "java/lang/invoke/VarHandle" ∧ (parseMethodDescriptor yK_enter.desc).map (fun d => d.parameters.length) = some 1 := by decide +kernel
theorem gK_124 : GoodIn gw (wsV RK 124 RK yK_take wsK_take) := nm_V (gw_m (i := 190) (by decide +kernel) rfl) (gw_m (i := 192) (by decide +kernel) rfl) (gw_m (i := 3) (by decide +kernel) rfl) (gw_m (i := 45) (by decide +kernel) rfl) (gw_m (i := 193) (by decide +kernel) rfl)
theorem hdK_take : yK_take.cls = RK ∧ yK_take.cls ≠ "java/lang/invoke/MethodHandle" ∧ yK_take.cls ≠ "java/lang/invoke/VarHandle" ∧ (parseMethodDescriptor yK_take.desc).map (fun d => d.parameters.length) = some 1 := by decide +kernel
theorem gK_94 : GoodIn gw (wsV RK 94 RK yK_takePending wsK_takePending) := nm_V (gw_m (i := 186) (by decide +kernel) rfl) (gw_m (i := 188) (by decide +kernel) rfl) (gw_m (i := 2) (by decide +kernel) rfl) (gw_m (i := 45) (by decide +kernel) rfl) (gw_m (i := 189) (by decide +kernel) rfl)
theorem hdK_takePending : yK_takePending.cls = RK ∧ yK_takePending.cls ≠ "java/lang/invoke/MethodHandle" ∧ yK_takePending.cls ≠ "java/lang/invoke/VarHandle" ∧ (parseMethodDescriptor yK_takePending.desc).map (fun d => d.parameters.length) = some 0 := by decide +kernel
theorem wK_c127 : Cond.constant RK 127 32768 ∈ gw := gw_m (i := 242) (by decide +kernel) rfl
theorem gK_104 : GoodIn gw (wsV RK 104 RK yK_fetch wsK_fetch) := nm_V (gw_m (i := 238) (by decide +kernel) rfl) (gw_m (i := 240) (by decide +kernel) rfl) (gw_m (i := 10) (by decide +kernel) rfl) (gw_m (i := 45) (by decide +kernel) rfl) (gw_m (i := 241) (by decide +kernel) rfl)
theorem hdK_fetch : yK_fetch.cls = RK ∧ yK_fetch.cls ≠ "java/lang/invoke/MethodHandle" ∧ yK_fetch.cls ≠ "java/lang/invoke/VarHandle" ∧ (parseMethodDescriptor yK_fetch.desc).map (fun d => d.parameters.length) = some 0 := by decide +kernel
theorem gK_121 : GoodIn gw (wsV RK 121 RK yK_answerFault wsK_answerFault) := nm_V (gw_m (i := 290) (by decide +kernel) rfl) (gw_m (i := 292) (by decide +kernel) rfl) (gw_m (i := 22) (by decide +kernel) rfl) (gw_m (i := 45) (by decide +kernel) rfl) (gw_m (i := 293) (by decide +kernel) rfl)
theorem hdK_answerFault : yK_answerFault.cls = RK ∧ yK_answerFault.cls ≠ "java/lang/invoke/MethodHandle" ∧ yK_answerFault.cls ≠ "java/lang/invoke/VarHandle" ∧ (parseMethodDescriptor yK_answerFault.desc).map (fun d => d.parameters.length) = some 0 := by decide +kernel
theorem gK_144 : GoodIn gw (wsV RK 144 RK yK_call wsK_call) := nm_V (gw_m (i := 265) (by decide +kernel) rfl) (gw_m (i := 267) (by decide +kernel) rfl) (gw_m (i := 16) (by decide +kernel) rfl) (gw_m (i := 45) (by decide +kernel) rfl) (gw_m (i := 268) (by decide +kernel) rfl)
theorem hdK_call : yK_call.cls = RK ∧ yK_call.cls ≠ "java/lang/invoke/MethodHandle" ∧ yK_call.cls ≠ "java/lang/invoke/VarHandle" ∧ (parseMethodDescriptor yK_call.desc).map (fun d => d.parameters.length) = some 1 := by decide +kernel
theorem gK_147 : GoodIn gw (wsV RK 147 RK yK_goOut wsK_goOut) := nm_V (gw_m (i := 269) (by decide +kernel) rfl) (gw_m (i := 271) (by decide +kernel) rfl) (gw_m (i := 17) (by decide +kernel) rfl) (gw_m (i := 45) (by decide +kernel) rfl) (gw_m (i := 272) (by decide +kernel) rfl)
theorem hdK_goOut : yK_goOut.cls = RK ∧ yK_goOut.cls ≠ "java/lang/invoke/MethodHandle" ∧ yK_goOut.cls ≠ "java/lang/invoke/VarHandle" ∧ (parseMethodDescriptor yK_goOut.desc).map (fun d => d.parameters.length) = some 1 := by decide +kernel
theorem wK_c156 : Cond.constant RK 156 65520 ∈ gw := gw_m (i := 277) (by decide +kernel) rfl
theorem gK_150 : GoodIn gw (wsV RK 150 RK yK_callOut wsK_callOut) := nm_V (gw_m (i := 273) (by decide +kernel) rfl) (gw_m (i := 275) (by decide +kernel) rfl) (gw_m (i := 18) (by decide +kernel) rfl) (gw_m (i := 45) (by decide +kernel) rfl) (gw_m (i := 276) (by decide +kernel) rfl)
theorem hdK_callOut : yK_callOut.cls = RK ∧ yK_callOut.cls ≠ "java/lang/invoke/MethodHandle" ∧ yK_callOut.cls ≠ "java/lang/invoke/VarHandle" ∧ (parseMethodDescriptor yK_callOut.desc).map (fun d => d.parameters.length) = some 1 := by decide +kernel
theorem gK_131 : GoodIn gw (wsV RK 131 RK yK_read wsK_read) := nm_V (gw_m (i := 253) (by decide +kernel) rfl) (gw_m (i := 255) (by decide +kernel) rfl) (gw_m (i := 13) (by decide +kernel) rfl) (gw_m (i := 45) (by decide +kernel) rfl) (gw_m (i := 256) (by decide +kernel) rfl)
theorem hdK_read : yK_read.cls = RK ∧ yK_read.cls ≠ "java/lang/invoke/MethodHandle" ∧ yK_read.cls ≠ "java/lang/invoke/VarHandle" ∧ (parseMethodDescriptor yK_read.desc).map (fun d => d.parameters.length) = some 1 := by decide +kernel
theorem gK_141 : GoodIn gw (wsV RK 141 RK yK_pop wsK_pop) := nm_V (gw_m (i := 257) (by decide +kernel) rfl) (gw_m (i := 259) (by decide +kernel) rfl) (gw_m (i := 14) (by decide +kernel) rfl) (gw_m (i := 45) (by decide +kernel) rfl) (gw_m (i := 260) (by decide +kernel) rfl)
theorem hdK_pop : yK_pop.cls = RK ∧ yK_pop.cls ≠ "java/lang/invoke/MethodHandle" ∧ yK_pop.cls ≠ "java/lang/invoke/VarHandle" ∧ (parseMethodDescriptor yK_pop.desc).map (fun d => d.parameters.length) = some 0 := by decide +kernel
theorem gK_161 : GoodIn gw (wsV RK 161 RK yK_endException wsK_endException) := nm_V (gw_m (i := 286) (by decide +kernel) rfl) (gw_m (i := 288) (by decide +kernel) rfl) (gw_m (i := 21) (by decide +kernel) rfl) (gw_m (i := 45) (by decide +kernel) rfl) (gw_m (i := 289) (by decide +kernel) rfl)
theorem hdK_endException : yK_endException.cls = RK ∧ yK_endException.cls ≠ "java/lang/invoke/MethodHandle" ∧ yK_endException.cls ≠ "java/lang/invoke/VarHandle" ∧ (parseMethodDescriptor yK_endException.desc).map (fun d => d.parameters.length) = some 1 := by decide +kernel
theorem gK_158 : GoodIn gw (wsV RK 158 RK yK_endOutCall wsK_endOutCall) := nm_V (gw_m (i := 282) (by decide +kernel) rfl) (gw_m (i := 284) (by decide +kernel) rfl) (gw_m (i := 20) (by decide +kernel) rfl) (gw_m (i := 45) (by decide +kernel) rfl) (gw_m (i := 285) (by decide +kernel) rfl)
theorem hdK_endOutCall : yK_endOutCall.cls = RK ∧ yK_endOutCall.cls ≠ "java/lang/invoke/MethodHandle" ∧ yK_endOutCall.cls ≠ "java/lang/invoke/VarHandle" ∧ (parseMethodDescriptor yK_endOutCall.desc).map (fun d => d.parameters.length) = some 0 := by decide +kernel
theorem gK_153 : GoodIn gw (wsV RK 153 RK yK_goBack wsK_goBack) := nm_V (gw_m (i := 278) (by decide +kernel) rfl) (gw_m (i := 280) (by decide +kernel) rfl) (gw_m (i := 19) (by decide +kernel) rfl) (gw_m (i := 45) (by decide +kernel) rfl) (gw_m (i := 281) (by decide +kernel) rfl)
theorem hdK_goBack : yK_goBack.cls = RK ∧ yK_goBack.cls ≠ "java/lang/invoke/MethodHandle" ∧ yK_goBack.cls ≠ "java/lang/invoke/VarHandle" ∧ (parseMethodDescriptor yK_goBack.desc).map (fun d => d.parameters.length) = some 0 := by decide +kernel
theorem gK_118 : GoodIn gw (wsV RK 118 RK yK_changeFlow wsK_changeFlow) := nm_V (gw_m (i := 261) (by decide +kernel) rfl) (gw_m (i := 263) (by decide +kernel) rfl) (gw_m (i := 15) (by decide +kernel) rfl) (gw_m (i := 45) (by decide +kernel) rfl) (gw_m (i := 264) (by decide +kernel) rfl)
theorem hdK_changeFlow : yK_changeFlow.cls = RK ∧ yK_changeFlow.cls ≠ "java/lang/invoke/MethodHandle" ∧ yK_changeFlow.cls ≠ "java/lang/invoke/VarHandle" ∧ (parseMethodDescriptor yK_changeFlow.desc).map (fun d => d.parameters.length) = some 1 := by decide +kernel
theorem gK_115 : GoodIn gw (wsV RK 115 RK yK_moveData wsK_moveData) := nm_V (gw_m (i := 249) (by decide +kernel) rfl) (gw_m (i := 251) (by decide +kernel) rfl) (gw_m (i := 12) (by decide +kernel) rfl) (gw_m (i := 45) (by decide +kernel) rfl) (gw_m (i := 252) (by decide +kernel) rfl)
theorem hdK_moveData : yK_moveData.cls = RK ∧ yK_moveData.cls ≠ "java/lang/invoke/MethodHandle" ∧ yK_moveData.cls ≠ "java/lang/invoke/VarHandle" ∧ (parseMethodDescriptor yK_moveData.desc).map (fun d => d.parameters.length) = some 1 := by decide +kernel
theorem wK_f128 : Cond.fieldLink RK 128 RK "NAMED" "[I" ∈ gw := gw_m (i := 247) (by decide +kernel) rfl
theorem gK_108 : GoodIn gw (wsV RK 108 RK yK_isUnknown wsK_isUnknown) := nm_V (gw_m (i := 243) (by decide +kernel) rfl) (gw_m (i := 245) (by decide +kernel) rfl) (gw_m (i := 11) (by decide +kernel) rfl) (gw_m (i := 45) (by decide +kernel) rfl) (gw_m (i := 246) (by decide +kernel) rfl)
theorem hdK_isUnknown : yK_isUnknown.cls = RK ∧ yK_isUnknown.cls ≠ "java/lang/invoke/MethodHandle" ∧ yK_isUnknown.cls ≠ "java/lang/invoke/VarHandle" ∧ (parseMethodDescriptor yK_isUnknown.desc).map (fun d => d.parameters.length) = some 1 := by decide +kernel
theorem wM_f7 : Cond.fieldLink RM 7 RM "memory" "[I" ∈ gw := gw_m (i := 312) (by decide +kernel) rfl
theorem wM_c32 : Cond.constant RM 32 65535 ∈ gw := gw_m (i := 362) (by decide +kernel) rfl
theorem wM_l33 : Cond.constantLong RM 33 65535 ∈ gw := gw_m (i := 367) (by decide +kernel) rfl
theorem gM_35 : GoodIn gw (va_wsS RM 35 yM_isAddress wsM_isAddress) := nm_S (gw_m (i := 372) (by decide +kernel) rfl) (gw_m (i := 373) (by decide +kernel) rfl) (gw_m (i := 47) (by decide +kernel) rfl) (gw_m (i := 374) (by decide +kernel) rfl)
theorem hdM_isAddress : yM_isAddress.cls ≠ "java/lang/invoke/MethodHandle" ∧ yM_isAddress.cls ≠ "java/lang/invoke/VarHandle" ∧ (parseMethodDescriptor yM_isAddress.desc).map (fun d => d.parameters.length) = some 1 := by decide +kernel
theorem wM_f13 : Cond.fieldLink RM 13 RM "first" "[I" ∈ gw := gw_m (i := 313) (by decide +kernel) rfl
theorem wM_f16 : Cond.fieldLink RM 16 RM "last" "[I" ∈ gw := gw_m (i := 314) (by decide +kernel) rfl
theorem wM_f19 : Cond.fieldLink RM 19 RM "kinds" "[I" ∈ gw := gw_m (i := 315) (by decide +kernel) rfl
theorem wM_f22 : Cond.fieldLink RM 22 RM "enabled" "Z" ∈ gw := gw_m (i := 316) (by decide +kernel) rfl
theorem wM_f39 : Cond.fieldLink RM 39 RM "closedOnes" "I" ∈ gw := gw_m (i := 317) (by decide +kernel) rfl
theorem wM_f43 : Cond.fieldLink RM 43 RM "closedBase" "I" ∈ gw := gw_m (i := 318) (by decide +kernel) rfl
theorem wM_f46 : Cond.fieldLink RM 46 RM "openBase" "I" ∈ gw := gw_m (i := 319) (by decide +kernel) rfl
theorem wM_f26 : Cond.fieldLink RM 26 RM "\x72" "[I" ∈ gw := gw_m (i := 320) (by decide +kernel) rfl
theorem wM_f49 : Cond.fieldLink RM 49 RM "state" "I" ∈ gw := gw_m (i := 323) (by decide +kernel) rfl
theorem wM_f52 : Cond.fieldLink RM 52 RM "active" "I" ∈ gw := gw_m (i := 322) (by decide +kernel) rfl
theorem wM_f55 : Cond.fieldLink RM 55 RM "pending" "I" ∈ gw := gw_m (i := 324) (by decide +kernel) rfl
theorem wM_f58 : Cond.fieldLink RM 58 RM "against" "I" ∈ gw := gw_m (i := 326) (by decide +kernel) rfl
theorem gM_61 : GoodIn gw (wsV RM 61 RM yM_isOpenWorld wsM_isOpenWorld) := nm_V (gw_m (i := 415) (by decide +kernel) rfl) (gw_m (i := 417) (by decide +kernel) rfl) (gw_m (i := 28) (by decide +kernel) rfl) (gw_m (i := 47) (by decide +kernel) rfl) (gw_m (i := 418) (by decide +kernel) rfl)
theorem hdM_isOpenWorld : yM_isOpenWorld.cls = RM ∧ yM_isOpenWorld.cls ≠ "java/lang/invoke/MethodHandle" ∧ yM_isOpenWorld.cls ≠ "java/lang/invoke/VarHandle" ∧ (parseMethodDescriptor yM_isOpenWorld.desc).map (fun d => d.parameters.length) = some 0 := by decide +kernel
theorem gM_65 : GoodIn gw (wsV RM 65 RM yM_kindAt wsM_kindAt) := nm_V (gw_m (i := 427) (by decide +kernel) rfl) (gw_m (i := 429) (by decide +kernel) rfl) (gw_m (i := 31) (by decide +kernel) rfl) (gw_m (i := 47) (by decide +kernel) rfl) (gw_m (i := 430) (by decide +kernel) rfl)
theorem hdM_kindAt : yM_kindAt.cls = RM ∧ yM_kindAt.cls ≠ "java/lang/invoke/MethodHandle" ∧ yM_kindAt.cls ≠ "java/lang/invoke/VarHandle" ∧ (parseMethodDescriptor yM_kindAt.desc).map (fun d => d.parameters.length) = some 1 := by decide +kernel
theorem gM_69 : GoodIn gw (wsV RM 69 RM yM_mayUse wsM_mayUse) := nm_V (gw_m (i := 423) (by decide +kernel) rfl) (gw_m (i := 425) (by decide +kernel) rfl) (gw_m (i := 30) (by decide +kernel) rfl) (gw_m (i := 47) (by decide +kernel) rfl) (gw_m (i := 426) (by decide +kernel) rfl)
theorem hdM_mayUse : yM_mayUse.cls = RM ∧ yM_mayUse.cls ≠ "java/lang/invoke/MethodHandle" ∧ yM_mayUse.cls ≠ "java/lang/invoke/VarHandle" ∧ (parseMethodDescriptor yM_mayUse.desc).map (fun d => d.parameters.length) = some 1 := by decide +kernel
theorem gM_72 : GoodIn gw (wsV RM 72 RM yM_speak wsM_speak) := nm_V (gw_m (i := 431) (by decide +kernel) rfl) (gw_m (i := 433) (by decide +kernel) rfl) (gw_m (i := 32) (by decide +kernel) rfl) (gw_m (i := 47) (by decide +kernel) rfl) (gw_m (i := 434) (by decide +kernel) rfl)
theorem hdM_speak : yM_speak.cls = RM ∧ yM_speak.cls ≠ "java/lang/invoke/MethodHandle" ∧ yM_speak.cls ≠ "java/lang/invoke/VarHandle" ∧ (parseMethodDescriptor yM_speak.desc).map (fun d => d.parameters.length) = some 1 := by decide +kernel
theorem gM_76 : GoodIn gw (wsV RM 76 RM yM_stack wsM_stack) := nm_V (gw_m (i := 411) (by decide +kernel) rfl) (gw_m (i := 413) (by decide +kernel) rfl) (gw_m (i := 27) (by decide +kernel) rfl) (gw_m (i := 47) (by decide +kernel) rfl) (gw_m (i := 414) (by decide +kernel) rfl)
theorem hdM_stack : yM_stack.cls = RM ∧ yM_stack.cls ≠ "java/lang/invoke/MethodHandle" ∧ yM_stack.cls ≠ "java/lang/invoke/VarHandle" ∧ (parseMethodDescriptor yM_stack.desc).map (fun d => d.parameters.length) = some 0 := by decide +kernel
theorem gM_80 : GoodIn gw (wsV RM 80 RM yM_write wsM_write) := nm_V (gw_m (i := 419) (by decide +kernel) rfl) (gw_m (i := 421) (by decide +kernel) rfl) (gw_m (i := 29) (by decide +kernel) rfl) (gw_m (i := 47) (by decide +kernel) rfl) (gw_m (i := 422) (by decide +kernel) rfl)
theorem hdM_write : yM_write.cls = RM ∧ yM_write.cls ≠ "java/lang/invoke/MethodHandle" ∧ yM_write.cls ≠ "java/lang/invoke/VarHandle" ∧ (parseMethodDescriptor yM_write.desc).map (fun d => d.parameters.length) = some 2 := by decide +kernel
theorem gM_84 : GoodIn gw (wsV RM 84 RM yM_read wsM_read) := nm_V (gw_m (i := 456) (by decide +kernel) rfl) (gw_m (i := 458) (by decide +kernel) rfl) (gw_m (i := 37) (by decide +kernel) rfl) (gw_m (i := 47) (by decide +kernel) rfl) (gw_m (i := 459) (by decide +kernel) rfl)
theorem hdM_read : yM_read.cls = RM ∧ yM_read.cls ≠ "java/lang/invoke/MethodHandle" ∧ yM_read.cls ≠ "java/lang/invoke/VarHandle" ∧ (parseMethodDescriptor yM_read.desc).map (fun d => d.parameters.length) = some 1 := by decide +kernel
theorem wM_f29 : Cond.fieldLink RM 29 RM "kept" "[I" ∈ gw := gw_m (i := 321) (by decide +kernel) rfl
theorem gM_87 : GoodIn gw (wsV RM 87 RM yM_keep wsM_keep) := nm_V (gw_m (i := 403) (by decide +kernel) rfl) (gw_m (i := 405) (by decide +kernel) rfl) (gw_m (i := 25) (by decide +kernel) rfl) (gw_m (i := 47) (by decide +kernel) rfl) (gw_m (i := 406) (by decide +kernel) rfl)
theorem hdM_keep : yM_keep.cls = RM ∧ yM_keep.cls ≠ "java/lang/invoke/MethodHandle" ∧ yM_keep.cls ≠ "java/lang/invoke/VarHandle" ∧ (parseMethodDescriptor yM_keep.desc).map (fun d => d.parameters.length) = some 0 := by decide +kernel
theorem gM_90 : GoodIn gw (wsV RM 90 RM yM_push wsM_push) := nm_V (gw_m (i := 407) (by decide +kernel) rfl) (gw_m (i := 409) (by decide +kernel) rfl) (gw_m (i := 26) (by decide +kernel) rfl) (gw_m (i := 47) (by decide +kernel) rfl) (gw_m (i := 410) (by decide +kernel) rfl)
theorem hdM_push : yM_push.cls = RM ∧ yM_push.cls ≠ "java/lang/invoke/MethodHandle" ∧ yM_push.cls ≠ "java/lang/invoke/VarHandle" ∧ (parseMethodDescriptor yM_push.desc).map (fun d => d.parameters.length) = some 1 := by decide +kernel
theorem gM_96 : GoodIn gw (wsV RM 96 RM yM_isClosedOne wsM_isClosedOne) := nm_V (gw_m (i := 439) (by decide +kernel) rfl) (gw_m (i := 441) (by decide +kernel) rfl) (gw_m (i := 34) (by decide +kernel) rfl) (gw_m (i := 47) (by decide +kernel) rfl) (gw_m (i := 442) (by decide +kernel) rfl)
theorem hdM_isClosedOne : yM_isClosedOne.cls = RM ∧ yM_isClosedOne.cls ≠ "java/lang/invoke/MethodHandle" ∧ yM_isClosedOne.cls ≠ "java/lang/invoke/VarHandle" ∧ (parseMethodDescriptor yM_isClosedOne.desc).map (fun d => d.parameters.length) = some 1 := by decide +kernel
theorem wM_c99 : Cond.constant RM 99 65408 ∈ gw := gw_m (i := 443) (by decide +kernel) rfl
theorem wM_f100 : Cond.fieldLink RM 100 RM "latest" "I" ∈ gw := gw_m (i := 325) (by decide +kernel) rfl
theorem gM_93 : GoodIn gw (wsV RM 93 RM yM_takeBack wsM_takeBack) := nm_V (gw_m (i := 435) (by decide +kernel) rfl) (gw_m (i := 437) (by decide +kernel) rfl) (gw_m (i := 33) (by decide +kernel) rfl) (gw_m (i := 47) (by decide +kernel) rfl) (gw_m (i := 438) (by decide +kernel) rfl)
theorem hdM_takeBack : yM_takeBack.cls = RM ∧ yM_takeBack.cls ≠ "java/lang/invoke/MethodHandle" ∧ yM_takeBack.cls ≠ "java/lang/invoke/VarHandle" ∧ (parseMethodDescriptor yM_takeBack.desc).map (fun d => d.parameters.length) = some 0 := by decide +kernel
theorem gM_103 : GoodIn gw (wsV RM 103 RM yM_take wsM_take) := nm_V (gw_m (i := 399) (by decide +kernel) rfl) (gw_m (i := 401) (by decide +kernel) rfl) (gw_m (i := 24) (by decide +kernel) rfl) (gw_m (i := 47) (by decide +kernel) rfl) (gw_m (i := 402) (by decide +kernel) rfl)
theorem hdM_take : yM_take.cls = RM ∧ yM_take.cls ≠ "java/lang/invoke/MethodHandle" ∧ yM_take.cls ≠ "java/lang/invoke/VarHandle" ∧ (parseMethodDescriptor yM_take.desc).map (fun d => d.parameters.length) = some 2 := by decide +kernel
theorem gM_106 : GoodIn gw (wsV RM 106 RM yM_pop wsM_pop) := nm_V (gw_m (i := 460) (by decide +kernel) rfl) (gw_m (i := 462) (by decide +kernel) rfl) (gw_m (i := 38) (by decide +kernel) rfl) (gw_m (i := 47) (by decide +kernel) rfl) (gw_m (i := 463) (by decide +kernel) rfl)
theorem hdM_pop : yM_pop.cls = RM ∧ yM_pop.cls ≠ "java/lang/invoke/MethodHandle" ∧ yM_pop.cls ≠ "java/lang/invoke/VarHandle" ∧ (parseMethodDescriptor yM_pop.desc).map (fun d => d.parameters.length) = some 0 := by decide +kernel
theorem wM_c109 : Cond.constant RM 109 32768 ∈ gw := gw_m (i := 448) (by decide +kernel) rfl
theorem wM_c110 : Cond.constant RM 110 65520 ∈ gw := gw_m (i := 472) (by decide +kernel) rfl
theorem gM_111 : GoodIn gw (wsV RM 111 RM yM_endException wsM_endException) := nm_V (gw_m (i := 477) (by decide +kernel) rfl) (gw_m (i := 479) (by decide +kernel) rfl) (gw_m (i := 42) (by decide +kernel) rfl) (gw_m (i := 47) (by decide +kernel) rfl) (gw_m (i := 480) (by decide +kernel) rfl)
theorem hdM_endException : yM_endException.cls = RM ∧ yM_endException.cls ≠ "java/lang/invoke/MethodHandle" ∧ yM_endException.cls ≠ "java/lang/invoke/VarHandle" ∧ (parseMethodDescriptor yM_endException.desc).map (fun d => d.parameters.length) = some 0 := by decide +kernel
theorem gM_114 : GoodIn gw (va_wsS RM 114 yM_namesSeven wsM_namesSeven) := nm_S (gw_m (i := 453) (by decide +kernel) rfl) (gw_m (i := 454) (by decide +kernel) rfl) (gw_m (i := 47) (by decide +kernel) rfl) (gw_m (i := 455) (by decide +kernel) rfl)
theorem hdM_namesSeven : yM_namesSeven.cls ≠ "java/lang/invoke/MethodHandle" ∧ yM_namesSeven.cls ≠ "java/lang/invoke/VarHandle" ∧ (parseMethodDescriptor yM_namesSeven.desc).map (fun d => d.parameters.length) = some 4 := by decide +kernel
theorem gM_118 : GoodIn gw (wsV RM 118 RM yM_call wsM_call) := nm_V (gw_m (i := 464) (by decide +kernel) rfl) (gw_m (i := 466) (by decide +kernel) rfl) (gw_m (i := 39) (by decide +kernel) rfl) (gw_m (i := 47) (by decide +kernel) rfl) (gw_m (i := 467) (by decide +kernel) rfl)
theorem hdM_call : yM_call.cls = RM ∧ yM_call.cls ≠ "java/lang/invoke/MethodHandle" ∧ yM_call.cls ≠ "java/lang/invoke/VarHandle" ∧ (parseMethodDescriptor yM_call.desc).map (fun d => d.parameters.length) = some 2 := by decide +kernel
theorem gM_121 : GoodIn gw (wsV RM 121 RM yM_outwards wsM_outwards) := nm_V (gw_m (i := 468) (by decide +kernel) rfl) (gw_m (i := 470) (by decide +kernel) rfl) (gw_m (i := 40) (by decide +kernel) rfl) (gw_m (i := 47) (by decide +kernel) rfl) (gw_m (i := 471) (by decide +kernel) rfl)
theorem hdM_outwards : yM_outwards.cls = RM ∧ yM_outwards.cls ≠ "java/lang/invoke/MethodHandle" ∧ yM_outwards.cls ≠ "java/lang/invoke/VarHandle" ∧ (parseMethodDescriptor yM_outwards.desc).map (fun d => d.parameters.length) = some 3 := by decide +kernel
theorem gM_125 : GoodIn gw (wsV RM 125 RM yM_returns wsM_returns) := nm_V (gw_m (i := 473) (by decide +kernel) rfl) (gw_m (i := 475) (by decide +kernel) rfl) (gw_m (i := 41) (by decide +kernel) rfl) (gw_m (i := 47) (by decide +kernel) rfl) (gw_m (i := 476) (by decide +kernel) rfl)
theorem hdM_returns : yM_returns.cls = RM ∧ yM_returns.cls ≠ "java/lang/invoke/MethodHandle" ∧ yM_returns.cls ≠ "java/lang/invoke/VarHandle" ∧ (parseMethodDescriptor yM_returns.desc).map (fun d => d.parameters.length) = some 0 := by decide +kernel
theorem gM_131 : GoodIn gw (wsV RM 131 RM yM_fault wsM_fault) := nm_V (gw_m (i := 481) (by decide +kernel) rfl) (gw_m (i := 483) (by decide +kernel) rfl) (gw_m (i := 43) (by decide +kernel) rfl) (gw_m (i := 47) (by decide +kernel) rfl) (gw_m (i := 484) (by decide +kernel) rfl)
theorem hdM_fault : yM_fault.cls = RM ∧ yM_fault.cls ≠ "java/lang/invoke/MethodHandle" ∧ yM_fault.cls ≠ "java/lang/invoke/VarHandle" ∧ (parseMethodDescriptor yM_fault.desc).map (fun d => d.parameters.length) = some 0 := by decide +kernel
theorem gM_128 : GoodIn gw (wsV RM 128 RM yM_perform wsM_perform) := nm_V (gw_m (i := 449) (by decide +kernel) rfl) (gw_m (i := 451) (by decide +kernel) rfl) (gw_m (i := 36) (by decide +kernel) rfl) (gw_m (i := 47) (by decide +kernel) rfl) (gw_m (i := 452) (by decide +kernel) rfl)
theorem hdM_perform : yM_perform.cls = RM ∧ yM_perform.cls ≠ "java/lang/invoke/MethodHandle" ∧ yM_perform.cls ≠ "java/lang/invoke/VarHandle" ∧ (parseMethodDescriptor yM_perform.desc).map (fun d => d.parameters.length) = some 1 := by decide +kernel
theorem gM_134 : GoodIn gw (wsV RM 134 RM yM_instruction wsM_instruction) := nm_V (gw_m (i := 444) (by decide +kernel) rfl) (gw_m (i := 446) (by decide +kernel) rfl) (gw_m (i := 35) (by decide +kernel) rfl) (gw_m (i := 47) (by decide +kernel) rfl) (gw_m (i := 447) (by decide +kernel) rfl)
theorem hdM_instruction : yM_instruction.cls = RM ∧ yM_instruction.cls ≠ "java/lang/invoke/MethodHandle" ∧ yM_instruction.cls ≠ "java/lang/invoke/VarHandle" ∧ (parseMethodDescriptor yM_instruction.desc).map (fun d => d.parameters.length) = some 0 := by decide +kernel
theorem gK_44 : GoodIn gw (wsV RK 44 RK yK_kindByRegions wsK_kindByRegions) := nm_V (gw_m (i := 155) (by decide +kernel) rfl) (gw_m (i := 157) (by decide +kernel) rfl) (gw_m (i := 0) (by decide +kernel) rfl) (gw_m (i := 45) (by decide +kernel) rfl) (gw_m (i := 158) (by decide +kernel) rfl)
theorem hdK_kindByRegions : yK_kindByRegions.cls = RK ∧ yK_kindByRegions.cls ≠ "java/lang/invoke/MethodHandle" ∧ yK_kindByRegions.cls ≠ "java/lang/invoke/VarHandle" ∧ (parseMethodDescriptor yK_kindByRegions.desc).map (fun d => d.parameters.length) = some 1 := by decide +kernel
theorem gK_85 : GoodIn gw (wsV RK 85 RK yK_step wsK_step) := nm_V (gw_m (i := 182) (by decide +kernel) rfl) (gw_m (i := 184) (by decide +kernel) rfl) (gw_m (i := 1) (by decide +kernel) rfl) (gw_m (i := 45) (by decide +kernel) rfl) (gw_m (i := 185) (by decide +kernel) rfl)
theorem hdK_step : yK_step.cls = RK ∧ yK_step.cls ≠ "java/lang/invoke/MethodHandle" ∧ yK_step.cls ≠ "java/lang/invoke/VarHandle" ∧ (parseMethodDescriptor yK_step.desc).map (fun d => d.parameters.length) = some 0 := by decide +kernel
theorem gM_137 : GoodIn gw (wsV RM 137 RM yM_step wsM_step) := nm_V (gw_m (i := 395) (by decide +kernel) rfl) (gw_m (i := 397) (by decide +kernel) rfl) (gw_m (i := 23) (by decide +kernel) rfl) (gw_m (i := 47) (by decide +kernel) rfl) (gw_m (i := 398) (by decide +kernel) rfl)
theorem hdM_step : yM_step.cls = RM ∧ yM_step.cls ≠ "java/lang/invoke/MethodHandle" ∧ yM_step.cls ≠ "java/lang/invoke/VarHandle" ∧ (parseMethodDescriptor yM_step.desc).map (fun d => d.parameters.length) = some 0 := by decide +kernel
theorem wQ_m3 : Cond.methodLink RQ 3 objectInit ∈ gw := gw_m (i := 62) (by decide +kernel) rfl
theorem w_oi : Cond.instanceMethod objectInit ∈ gw := gw_m (i := 55) (by decide +kernel) rfl
theorem w_oc : Cond.code objectInit ⟨#[0xb1]⟩ 1 none ∈ gw := gw_m (i := 56) (by decide +kernel) rfl
theorem w_ai : Cond.arrayClass .int ∈ gw := gw_m (i := 92) (by decide +kernel) rfl
theorem wK_m1 : Cond.methodLink RK 1 objectInit ∈ gw := gw_m (i := 54) (by decide +kernel) rfl
theorem wK_k25 : Cond.classLink RK 25 RQ ∈ gw := gw_m (i := 57) (by decide +kernel) rfl
theorem w_inQ : Cond.instantiable RQ 7 ∈ gw := gw_m (i := 58) (by decide +kernel) rfl
theorem w_iiQ : Cond.initialized RQ ∈ gw := gw_m (i := 46) (by decide +kernel) rfl
theorem w_cdQ : Cond.code yQ_init cQ_init 1 none ∈ gw := gw_m (i := 61) (by decide +kernel) rfl
theorem wK_m27 : Cond.methodLink RK 27 yQ_init ∈ gw := gw_m (i := 59) (by decide +kernel) rfl
theorem w_imQ : Cond.instanceMethod yQ_init ∈ gw := gw_m (i := 60) (by decide +kernel) rfl
theorem wM_m1 : Cond.methodLink RM 1 objectInit ∈ gw := gw_m (i := 311) (by decide +kernel) rfl
theorem w_inK : Cond.instantiable RK 15 ∈ gw := gw_m (i := 50) (by decide +kernel) rfl
theorem w_inM : Cond.instantiable RM 15 ∈ gw := gw_m (i := 307) (by decide +kernel) rfl
theorem wL_k7 : Cond.classLink RL 7 RK ∈ gw := gw_m (i := 49) (by decide +kernel) rfl
theorem w_iiK : Cond.initialized RK ∈ gw := gw_m (i := 45) (by decide +kernel) rfl
theorem w_cdK : Cond.code yK_init cK_init 1 none ∈ gw := gw_m (i := 53) (by decide +kernel) rfl
theorem wL_m9 : Cond.methodLink RL 9 yK_init ∈ gw := gw_m (i := 51) (by decide +kernel) rfl
theorem w_imK : Cond.instanceMethod yK_init ∈ gw := gw_m (i := 52) (by decide +kernel) rfl
theorem wL_k10 : Cond.classLink RL 10 RM ∈ gw := gw_m (i := 306) (by decide +kernel) rfl
theorem w_iiM : Cond.initialized RM ∈ gw := gw_m (i := 47) (by decide +kernel) rfl
theorem w_cdM : Cond.code yM_init cM_init 1 none ∈ gw := gw_m (i := 310) (by decide +kernel) rfl
theorem wL_m12 : Cond.methodLink RL 12 yM_init ∈ gw := gw_m (i := 308) (by decide +kernel) rfl
theorem w_imM : Cond.instanceMethod yM_init ∈ gw := gw_m (i := 309) (by decide +kernel) rfl
theorem gL_13 : GoodIn gw (wsV RL 13 RK yK_poke wsK_poke) := nm_V (gw_m (i := 139) (by decide +kernel) rfl) (gw_m (i := 140) (by decide +kernel) rfl) (gw_m (i := 141) (by decide +kernel) rfl) (gw_m (i := 45) (by decide +kernel) rfl) (gw_m (i := 142) (by decide +kernel) rfl)
theorem hdK_poke : yK_poke.cls = RK ∧ yK_poke.cls ≠ "java/lang/invoke/MethodHandle" ∧ yK_poke.cls ≠ "java/lang/invoke/VarHandle" ∧ (parseMethodDescriptor yK_poke.desc).map (fun d => d.parameters.length) = some 2 := by decide +kernel
theorem gL_17 : GoodIn gw (wsV RL 17 RM yM_poke wsM_poke) := nm_V (gw_m (i := 358) (by decide +kernel) rfl) (gw_m (i := 359) (by decide +kernel) rfl) (gw_m (i := 360) (by decide +kernel) rfl) (gw_m (i := 47) (by decide +kernel) rfl) (gw_m (i := 361) (by decide +kernel) rfl)
theorem hdM_poke : yM_poke.cls = RM ∧ yM_poke.cls ≠ "java/lang/invoke/MethodHandle" ∧ yM_poke.cls ≠ "java/lang/invoke/VarHandle" ∧ (parseMethodDescriptor yM_poke.desc).map (fun d => d.parameters.length) = some 2 := by decide +kernel
theorem wL_l18 : Cond.constantLong RL 18 4294967295 ∈ gw := gw_m (i := 497) (by decide +kernel) rfl
theorem gL_20 : GoodIn gw (wsV RL 20 RK yK_fill wsK_fill) := nm_V (gw_m (i := 144) (by decide +kernel) rfl) (gw_m (i := 145) (by decide +kernel) rfl) (gw_m (i := 146) (by decide +kernel) rfl) (gw_m (i := 45) (by decide +kernel) rfl) (gw_m (i := 147) (by decide +kernel) rfl)
theorem hdK_fill : yK_fill.cls = RK ∧ yK_fill.cls ≠ "java/lang/invoke/MethodHandle" ∧ yK_fill.cls ≠ "java/lang/invoke/VarHandle" ∧ (parseMethodDescriptor yK_fill.desc).map (fun d => d.parameters.length) = some 2 := by decide +kernel
theorem gL_24 : GoodIn gw (wsV RL 24 RM yM_fill wsM_fill) := nm_V (gw_m (i := 363) (by decide +kernel) rfl) (gw_m (i := 364) (by decide +kernel) rfl) (gw_m (i := 365) (by decide +kernel) rfl) (gw_m (i := 47) (by decide +kernel) rfl) (gw_m (i := 366) (by decide +kernel) rfl)
theorem hdM_fill : yM_fill.cls = RM ∧ yM_fill.cls ≠ "java/lang/invoke/MethodHandle" ∧ yM_fill.cls ≠ "java/lang/invoke/VarHandle" ∧ (parseMethodDescriptor yM_fill.desc).map (fun d => d.parameters.length) = some 2 := by decide +kernel
theorem gL_25 : GoodIn gw (wsV RL 25 RK yK_region wsK_region) := nm_V (gw_m (i := 148) (by decide +kernel) rfl) (gw_m (i := 149) (by decide +kernel) rfl) (gw_m (i := 150) (by decide +kernel) rfl) (gw_m (i := 45) (by decide +kernel) rfl) (gw_m (i := 151) (by decide +kernel) rfl)
theorem hdK_region : yK_region.cls = RK ∧ yK_region.cls ≠ "java/lang/invoke/MethodHandle" ∧ yK_region.cls ≠ "java/lang/invoke/VarHandle" ∧ (parseMethodDescriptor yK_region.desc).map (fun d => d.parameters.length) = some 4 := by decide +kernel
theorem gL_29 : GoodIn gw (wsV RL 29 RM yM_region wsM_region) := nm_V (gw_m (i := 368) (by decide +kernel) rfl) (gw_m (i := 369) (by decide +kernel) rfl) (gw_m (i := 370) (by decide +kernel) rfl) (gw_m (i := 47) (by decide +kernel) rfl) (gw_m (i := 371) (by decide +kernel) rfl)
theorem hdM_region : yM_region.cls = RM ∧ yM_region.cls ≠ "java/lang/invoke/MethodHandle" ∧ yM_region.cls ≠ "java/lang/invoke/VarHandle" ∧ (parseMethodDescriptor yM_region.desc).map (fun d => d.parameters.length) = some 4 := by decide +kernel
theorem gL_30 : GoodIn gw (wsV RL 30 RK yK_settings wsK_settings) := nm_V (gw_m (i := 159) (by decide +kernel) rfl) (gw_m (i := 160) (by decide +kernel) rfl) (gw_m (i := 161) (by decide +kernel) rfl) (gw_m (i := 45) (by decide +kernel) rfl) (gw_m (i := 162) (by decide +kernel) rfl)
theorem hdK_settings : yK_settings.cls = RK ∧ yK_settings.cls ≠ "java/lang/invoke/MethodHandle" ∧ yK_settings.cls ≠ "java/lang/invoke/VarHandle" ∧ (parseMethodDescriptor yK_settings.desc).map (fun d => d.parameters.length) = some 4 := by decide +kernel
theorem gL_34 : GoodIn gw (wsV RL 34 RM yM_settings wsM_settings) := nm_V (gw_m (i := 375) (by decide +kernel) rfl) (gw_m (i := 376) (by decide +kernel) rfl) (gw_m (i := 377) (by decide +kernel) rfl) (gw_m (i := 47) (by decide +kernel) rfl) (gw_m (i := 378) (by decide +kernel) rfl)
theorem hdM_settings : yM_settings.cls = RM ∧ yM_settings.cls ≠ "java/lang/invoke/MethodHandle" ∧ yM_settings.cls ≠ "java/lang/invoke/VarHandle" ∧ (parseMethodDescriptor yM_settings.desc).map (fun d => d.parameters.length) = some 4 := by decide +kernel
theorem gL_35 : GoodIn gw (wsV RL 35 RK yK_begin wsK_begin) := nm_V (gw_m (i := 166) (by decide +kernel) rfl) (gw_m (i := 167) (by decide +kernel) rfl) (gw_m (i := 168) (by decide +kernel) rfl) (gw_m (i := 45) (by decide +kernel) rfl) (gw_m (i := 169) (by decide +kernel) rfl)
theorem hdK_begin : yK_begin.cls = RK ∧ yK_begin.cls ≠ "java/lang/invoke/MethodHandle" ∧ yK_begin.cls ≠ "java/lang/invoke/VarHandle" ∧ (parseMethodDescriptor yK_begin.desc).map (fun d => d.parameters.length) = some 4 := by decide +kernel
theorem gL_39 : GoodIn gw (wsV RL 39 RM yM_begin wsM_begin) := nm_V (gw_m (i := 379) (by decide +kernel) rfl) (gw_m (i := 380) (by decide +kernel) rfl) (gw_m (i := 381) (by decide +kernel) rfl) (gw_m (i := 47) (by decide +kernel) rfl) (gw_m (i := 382) (by decide +kernel) rfl)
theorem hdM_begin : yM_begin.cls = RM ∧ yM_begin.cls ≠ "java/lang/invoke/MethodHandle" ∧ yM_begin.cls ≠ "java/lang/invoke/VarHandle" ∧ (parseMethodDescriptor yM_begin.desc).map (fun d => d.parameters.length) = some 4 := by decide +kernel
theorem gL_40 : GoodIn gw (wsV RL 40 RK yK_set wsK_set) := nm_V (gw_m (i := 170) (by decide +kernel) rfl) (gw_m (i := 171) (by decide +kernel) rfl) (gw_m (i := 172) (by decide +kernel) rfl) (gw_m (i := 45) (by decide +kernel) rfl) (gw_m (i := 173) (by decide +kernel) rfl)
theorem hdK_set : yK_set.cls = RK ∧ yK_set.cls ≠ "java/lang/invoke/MethodHandle" ∧ yK_set.cls ≠ "java/lang/invoke/VarHandle" ∧ (parseMethodDescriptor yK_set.desc).map (fun d => d.parameters.length) = some 2 := by decide +kernel
theorem gL_44 : GoodIn gw (wsV RL 44 RM yM_set wsM_set) := nm_V (gw_m (i := 383) (by decide +kernel) rfl) (gw_m (i := 384) (by decide +kernel) rfl) (gw_m (i := 385) (by decide +kernel) rfl) (gw_m (i := 47) (by decide +kernel) rfl) (gw_m (i := 386) (by decide +kernel) rfl)
theorem hdM_set : yM_set.cls = RM ∧ yM_set.cls ≠ "java/lang/invoke/MethodHandle" ∧ yM_set.cls ≠ "java/lang/invoke/VarHandle" ∧ (parseMethodDescriptor yM_set.desc).map (fun d => d.parameters.length) = some 2 := by decide +kernel
theorem gL_45 : GoodIn gw (wsV RL 45 RK yK_interrupt wsK_interrupt) := nm_V (gw_m (i := 174) (by decide +kernel) rfl) (gw_m (i := 175) (by decide +kernel) rfl) (gw_m (i := 176) (by decide +kernel) rfl) (gw_m (i := 45) (by decide +kernel) rfl) (gw_m (i := 177) (by decide +kernel) rfl)
theorem hdK_interrupt : yK_interrupt.cls = RK ∧ yK_interrupt.cls ≠ "java/lang/invoke/MethodHandle" ∧ yK_interrupt.cls ≠ "java/lang/invoke/VarHandle" ∧ (parseMethodDescriptor yK_interrupt.desc).map (fun d => d.parameters.length) = some 1 := by decide +kernel
theorem gL_49 : GoodIn gw (wsV RL 49 RM yM_interrupt wsM_interrupt) := nm_V (gw_m (i := 387) (by decide +kernel) rfl) (gw_m (i := 388) (by decide +kernel) rfl) (gw_m (i := 389) (by decide +kernel) rfl) (gw_m (i := 47) (by decide +kernel) rfl) (gw_m (i := 390) (by decide +kernel) rfl)
theorem hdM_interrupt : yM_interrupt.cls = RM ∧ yM_interrupt.cls ≠ "java/lang/invoke/MethodHandle" ∧ yM_interrupt.cls ≠ "java/lang/invoke/VarHandle" ∧ (parseMethodDescriptor yM_interrupt.desc).map (fun d => d.parameters.length) = some 1 := by decide +kernel
theorem gL_50 : GoodIn gw (wsV RL 50 RK yK_run wsK_run) := nm_V (gw_m (i := 178) (by decide +kernel) rfl) (gw_m (i := 179) (by decide +kernel) rfl) (gw_m (i := 180) (by decide +kernel) rfl) (gw_m (i := 45) (by decide +kernel) rfl) (gw_m (i := 181) (by decide +kernel) rfl)
theorem hdK_run : yK_run.cls = RK ∧ yK_run.cls ≠ "java/lang/invoke/MethodHandle" ∧ yK_run.cls ≠ "java/lang/invoke/VarHandle" ∧ (parseMethodDescriptor yK_run.desc).map (fun d => d.parameters.length) = some 1 := by decide +kernel
theorem gL_54 : GoodIn gw (wsV RL 54 RM yM_run wsM_run) := nm_V (gw_m (i := 391) (by decide +kernel) rfl) (gw_m (i := 392) (by decide +kernel) rfl) (gw_m (i := 393) (by decide +kernel) rfl) (gw_m (i := 47) (by decide +kernel) rfl) (gw_m (i := 394) (by decide +kernel) rfl)
theorem hdM_run : yM_run.cls = RM ∧ yM_run.cls ≠ "java/lang/invoke/MethodHandle" ∧ yM_run.cls ≠ "java/lang/invoke/VarHandle" ∧ (parseMethodDescriptor yM_run.desc).map (fun d => d.parameters.length) = some 1 := by decide +kernel
theorem gL_55 : GoodIn gw (wsV RL 55 RK yK_word wsK_word) := nm_V (gw_m (i := 294) (by decide +kernel) rfl) (gw_m (i := 295) (by decide +kernel) rfl) (gw_m (i := 296) (by decide +kernel) rfl) (gw_m (i := 45) (by decide +kernel) rfl) (gw_m (i := 297) (by decide +kernel) rfl)
theorem hdK_word : yK_word.cls = RK ∧ yK_word.cls ≠ "java/lang/invoke/MethodHandle" ∧ yK_word.cls ≠ "java/lang/invoke/VarHandle" ∧ (parseMethodDescriptor yK_word.desc).map (fun d => d.parameters.length) = some 1 := by decide +kernel
theorem gL_58 : GoodIn gw (wsV RL 58 RM yM_word wsM_word) := nm_V (gw_m (i := 485) (by decide +kernel) rfl) (gw_m (i := 486) (by decide +kernel) rfl) (gw_m (i := 487) (by decide +kernel) rfl) (gw_m (i := 47) (by decide +kernel) rfl) (gw_m (i := 488) (by decide +kernel) rfl)
theorem hdM_word : yM_word.cls = RM ∧ yM_word.cls ≠ "java/lang/invoke/MethodHandle" ∧ yM_word.cls ≠ "java/lang/invoke/VarHandle" ∧ (parseMethodDescriptor yM_word.desc).map (fun d => d.parameters.length) = some 1 := by decide +kernel
theorem gL_59 : GoodIn gw (wsV RL 59 RK yK_register wsK_register) := nm_V (gw_m (i := 298) (by decide +kernel) rfl) (gw_m (i := 299) (by decide +kernel) rfl) (gw_m (i := 300) (by decide +kernel) rfl) (gw_m (i := 45) (by decide +kernel) rfl) (gw_m (i := 301) (by decide +kernel) rfl)
theorem hdK_register : yK_register.cls = RK ∧ yK_register.cls ≠ "java/lang/invoke/MethodHandle" ∧ yK_register.cls ≠ "java/lang/invoke/VarHandle" ∧ (parseMethodDescriptor yK_register.desc).map (fun d => d.parameters.length) = some 1 := by decide +kernel
theorem gL_62 : GoodIn gw (wsV RL 62 RM yM_register wsM_register) := nm_V (gw_m (i := 489) (by decide +kernel) rfl) (gw_m (i := 490) (by decide +kernel) rfl) (gw_m (i := 491) (by decide +kernel) rfl) (gw_m (i := 47) (by decide +kernel) rfl) (gw_m (i := 492) (by decide +kernel) rfl)
theorem hdM_register : yM_register.cls = RM ∧ yM_register.cls ≠ "java/lang/invoke/MethodHandle" ∧ yM_register.cls ≠ "java/lang/invoke/VarHandle" ∧ (parseMethodDescriptor yM_register.desc).map (fun d => d.parameters.length) = some 1 := by decide +kernel
theorem gL_63 : GoodIn gw (wsV RL 63 RK yK_kind wsK_kind) := nm_V (gw_m (i := 302) (by decide +kernel) rfl) (gw_m (i := 303) (by decide +kernel) rfl) (gw_m (i := 304) (by decide +kernel) rfl) (gw_m (i := 45) (by decide +kernel) rfl) (gw_m (i := 305) (by decide +kernel) rfl)
theorem hdK_kind : yK_kind.cls = RK ∧ yK_kind.cls ≠ "java/lang/invoke/MethodHandle" ∧ yK_kind.cls ≠ "java/lang/invoke/VarHandle" ∧ (parseMethodDescriptor yK_kind.desc).map (fun d => d.parameters.length) = some 1 := by decide +kernel
theorem gL_66 : GoodIn gw (wsV RL 66 RM yM_kind wsM_kind) := nm_V (gw_m (i := 493) (by decide +kernel) rfl) (gw_m (i := 494) (by decide +kernel) rfl) (gw_m (i := 495) (by decide +kernel) rfl) (gw_m (i := 47) (by decide +kernel) rfl) (gw_m (i := 496) (by decide +kernel) rfl)
theorem hdM_kind : yM_kind.cls = RM ∧ yM_kind.cls ≠ "java/lang/invoke/MethodHandle" ∧ yM_kind.cls ≠ "java/lang/invoke/VarHandle" ∧ (parseMethodDescriptor yM_kind.desc).map (fun d => d.parameters.length) = some 1 := by decide +kernel
end
section
abbrev St : Type := Nat → Nat → Int32
def up2 (σ : St) (c k : Nat) (v : Int32) : St := fun d => if d = c then upd (σ c) k v else σ d
def bd {α β : Type} (x : α) (f : α → β) : β := f x
def bd2 {β : Type} (x : St × Int32) (f : St → Int32 → β) : β := f x.1 x.2
theorem bd_e {α β : Type} {x y : α} {f : α → β} (h : y = x) : bd x f = f y := by subst h; rfl
theorem bd2_e {β : Type} {x : St × Int32} {u : St} {v : Int32} {f : St → Int32 → β} (h : (u, v) = x) : bd2 x f = f u v := by subst h; rfl
abbrev ix (x : Int32) : Nat := x.toNatClampNeg
def cp8 (σ : St) (a b : Nat) : St := fun d => if d = b then va_cpy (σ a) (σ b) 0 0 8 else σ d
def named (k : Nat) : Int32 := ([1, 7, 7, 3, 3, 1, 1, 0, 0, 2, 0, 2, 2, 0, 0, 0] : List Int32).getD k 0
abbrev zb (x : Int32) : Prop := x = 0 ∨ x = 1
abbrev bt0 (x n : Int32) : Prop := ¬ x < 0 ∧ x ≤ n
theorem zb_n {v : Int32} (h : zb v) : narrow .boolean (.int v) = .int v ∧ fits .boolean (.int v) = true := by
  rcases h with rfl | rfl <;> exact ⟨rfl, rfl⟩
theorem vin_c {x : Int32} {n : Nat} (h : 0 ≤ x.toInt ∧ x.toInt < n) : vp_in x n := vp_in_iff.mpr h
theorem vin_w {x : Int32} {n m : Nat} (h : vp_in x n) (hm : n ≤ m) : vp_in x m := vp_in_iff.mpr ⟨(vp_in_iff.mp h).1, by have := (vp_in_iff.mp h).2; omega⟩
theorem vin_m {x m : Int32} {n : Nat} (k : Nat) (hm : m.toBitVec.toNat = 2 ^ k - 1) (hk : k ≤ 30) (hn : 2 ^ k ≤ n) : vp_in (x &&& m) n := vin_w (pk_andIn x k hm hk) hn
theorem nn_i {x : Int32} (h : ¬ x < 0) : 0 ≤ x.toInt := by
  have h1 := Int32.le_iff_toInt_le.mp (Int32.not_lt.mp h)
  simpa using h1
theorem vin_le {x m : Int32} {n : Nat} (lo : ¬ x < 0) (h : x ≤ m) (hm : m.toInt < n) : vp_in x n := vp_in_iff.mpr ⟨nn_i lo, by have := Int32.le_iff_toInt_le.mp h; omega⟩
theorem vin_ngt {x m : Int32} {n : Nat} (lo : ¬ x < 0) (h : ¬ m < x) (hm : m.toInt < n) : vp_in x n := vin_le lo (Int32.not_lt.mp h) hm
theorem vin_nge {x m : Int32} {n : Nat} (lo : ¬ x < 0) (h : ¬ m ≤ x) (hm : m.toInt ≤ n) : vp_in x n := vp_in_iff.mpr ⟨nn_i lo, by have := Int32.lt_iff_toInt_lt.mp (Int32.not_le.mp h); omega⟩
theorem vin_add {x j : Int32} (h : bt0 x 252) (hj : bt0 j 3) : vp_in (x + j) 256 := by
  obtain ⟨a, ha, rfl⟩ := nI_of2 (M := 252) (n := 252) (by decide) h.1 h.2
  obtain ⟨b, hb, rfl⟩ := nI_of2 (M := 3) (n := 3) (by decide) hj.1 hj.2
  rw [nI_add]
  exact vp_in_nI (by omega) (by decide)
theorem ne_t {x : Int32} (k : Int32) (z : Int) (hz : k.toInt = z) (h : ¬ x = k) : x.toInt ≠ z := fun e => h (Int32.toInt_inj.mp (e.trans hz.symm))
-- the world of the side K
def wsK (q : Nat → Nat) (cA : ClassId) (σ : St) : va_W := [(q 0, .inr (0, [.ref (q 1), .ref (q 2), .ref (q 3), .ref (q 4), .ref (q 5), .ref (q 6), .ref (q 7), .int (σ 0 7), .int (σ 0 8), .int (σ 0 9), .int (σ 0 10), .int (σ 0 11), .int (σ 0 12), .int (σ 0 13), .int (σ 0 14)])), (q 1, .inl (cA, 256, .inl (σ 1))), (q 2, .inl (cA, 256, .inl (σ 2))), (q 3, .inl (cA, 4, .inl (σ 3))), (q 4, .inl (cA, 4, .inl (σ 4))), (q 5, .inl (cA, 4, .inl (σ 5))), (q 6, .inr (1, [.ref (q 8), .int (σ 6 1), .int (σ 6 2), .int (σ 6 3), .int (σ 6 4), .int (σ 6 5), .int (σ 6 6)])), (q 7, .inr (1, [.ref (q 9), .int (σ 7 1), .int (σ 7 2), .int (σ 7 3), .int (σ 7 4), .int (σ 7 5), .int (σ 7 6)])), (q 8, .inl (cA, 8, .inl (σ 8))), (q 9, .inl (cA, 8, .inl (σ 9)))]
def KA (q : Nat → Nat) : Nat → Prop := fun a => ∃ k, k < 10 ∧ a = q k
def KB (σ : St) : Prop := zb (σ 0 7) ∧ zb (σ 6 4) ∧ zb (σ 6 5) ∧ zb (σ 7 4) ∧ zb (σ 7 5)
theorem KB_0_7 {σ : St} (h : KB σ) : zb (σ 0 7) := h.1
theorem KB_0_7s {σ : St} {v : Int32} (h : KB σ) (hv : zb v) : KB (up2 σ 0 7 v) := ⟨hv, h.2.1, h.2.2.1, h.2.2.2.1, h.2.2.2.2⟩
theorem KB_6_4 {σ : St} (h : KB σ) : zb (σ 6 4) := h.2.1
theorem KB_6_4s {σ : St} {v : Int32} (h : KB σ) (hv : zb v) : KB (up2 σ 6 4 v) := ⟨h.1, hv, h.2.2.1, h.2.2.2.1, h.2.2.2.2⟩
theorem KB_6_5 {σ : St} (h : KB σ) : zb (σ 6 5) := h.2.2.1
theorem KB_6_5s {σ : St} {v : Int32} (h : KB σ) (hv : zb v) : KB (up2 σ 6 5 v) := ⟨h.1, h.2.1, hv, h.2.2.2.1, h.2.2.2.2⟩
theorem KB_7_4 {σ : St} (h : KB σ) : zb (σ 7 4) := h.2.2.2.1
theorem KB_7_4s {σ : St} {v : Int32} (h : KB σ) (hv : zb v) : KB (up2 σ 7 4 v) := ⟨h.1, h.2.1, h.2.2.1, hv, h.2.2.2.2⟩
theorem KB_7_5 {σ : St} (h : KB σ) : zb (σ 7 5) := h.2.2.2.2
theorem KB_7_5s {σ : St} {v : Int32} (h : KB σ) (hv : zb v) : KB (up2 σ 7 5 v) := ⟨h.1, h.2.1, h.2.2.1, h.2.2.2.1, hv⟩
def KC (D : va_G) (q : Nat → Nat) (cA : ClassId) (tN : Nat) (U : State) (H : Heap) : Prop := va_K D vwCl [(cA, .int)] U ∧ (∀ i j, i < 10 → j < 10 → q i = q j → i = j) ∧ va_Z RK "NAMED" "[I" (.ref tN) (KA q) U H ∧ va_T .int tN 16 (fun j => .int (named j)) (KA q) U H
def KPre (D : va_G) (q : Nat → Nat) (cA : ClassId) (tN : Nat) (σ : St) : State → Prop := fun U => va_P D vwCl (wsK q cA σ) U.heap ∧ KB σ ∧ KC D q cA tN U U.heap
def KPost (D : va_G) (q : Nat → Nat) (cA : ClassId) : St → State → Prop := fun u t => va_P D vwCl (wsK q cA u) t.heap ∧ KB u
theorem KC.next {D : va_G} {q : Nat → Nat} {cA : ClassId} {tN : Nat} {s U : State} {H : Heap} {locs : List Loc} (h : KC D q cA tN s s.heap) (hS : va_S (KA q) s.heap H locs) (hU : U.heap = H) (hW : s.vm.Alike U.vm) : KC D q cA tN U U.heap :=
  ⟨va_K.moved hW h.1, h.2.1, by rw [hU]; exact (va_Z.moved hW h.2.2.1).kept (fun a h1 h2 => hS.2.1 a h1 h2), by rw [hU]; exact (va_T.moved hW h.2.2.2).kept (fun a h1 h2 => hS.2.1 a h1 h2)⟩
theorem KPre_blind {D : va_G} {q : Nat → Nat} {cA : ClassId} {tN : Nat} {σ : St} {av : List Value} : FrameBlind (va_Pc av (KPre D q cA tN σ)) := fun a U g mk h => ⟨h.1, h.2.1, h.2.2.1, ⟨va_K.moved (u := U) (U := U.calling g mk a) (Vm.Alike.refl U.vm) h.2.2.2.1, h.2.2.2.2.1, va_Z.moved (u := U) (U := U.calling g mk a) (Vm.Alike.refl U.vm) h.2.2.2.2.2.1, va_T.moved (u := U) (U := U.calling g mk a) (Vm.Alike.refl U.vm) h.2.2.2.2.2.2⟩⟩
theorem wsK_at {q : Nat → Nat} {cA : ClassId} {σ : St} : ∀ (i : Nat) (p : Nat × va_E), (wsK q cA σ)[i]? = some p → i < 10 ∧ p.1 = q i := by
  intro i p h
  match i, h with
  | 0, h => cases h; exact ⟨by decide, rfl⟩
  | 1, h => cases h; exact ⟨by decide, rfl⟩
  | 2, h => cases h; exact ⟨by decide, rfl⟩
  | 3, h => cases h; exact ⟨by decide, rfl⟩
  | 4, h => cases h; exact ⟨by decide, rfl⟩
  | 5, h => cases h; exact ⟨by decide, rfl⟩
  | 6, h => cases h; exact ⟨by decide, rfl⟩
  | 7, h => cases h; exact ⟨by decide, rfl⟩
  | 8, h => cases h; exact ⟨by decide, rfl⟩
  | 9, h => cases h; exact ⟨by decide, rfl⟩
  | i + 10, h => simp [wsK] at h
theorem wsK_D {q : Nat → Nat} {cA : ClassId} (σ : St) (hq : ∀ i j, i < 10 → j < 10 → q i = q j → i = j) : va_D (KA q) (wsK q cA σ) := by
  refine ⟨fun i j a b ha hb hab => ?_, fun k a ha => ?_⟩
  · obtain ⟨h1, h2⟩ := wsK_at i a ha
    obtain ⟨h3, h4⟩ := wsK_at j b hb
    exact hq i j h1 h3 (by rw [← h2, ← h4]; exact hab)
  · obtain ⟨h1, h2⟩ := wsK_at k a ha
    exact ⟨k, h1, h2⟩
section Kside
variable {p : Program} {l : Launch} {e : Env} {R : Room} {s : State} {m : MethodId} {args : Array Value} {below : List Frame} {meth : Method} {c : Code} {H H0 : Heap} {locs : List Loc} {cells slots : Nat} {Q : State → Prop}
variable {cc bytes : ByteArray} {pc nL maxL n index : Nat} {ls : Array Slot} {rest : List Value} {D : va_G} {q : Nat → Nat} {cA : ClassId} {tN : Nat} {σ : St} {Ts wsC : List Cond} {own C : String} {y : MethodName} {ret : Option FieldType} {rm : Room} {As st0 : List Value} {b : Addr}
theorem kget_0_0 (hexec : p.tables.exec = Jvm.exec) (hb : c.code = cc) (hts : ∀ w ∈ Ts, w.before args s = true) (hin : ∀ w ∈ u_ws RK TK 15, w ∈ Ts) (hown : s.vm.findClass own = some m.cls) (hC : KC D q cA tN s s.heap) (hP : va_P D vwCl (wsK q cA σ) H) (hlink : (Cond.fieldLink own index "TwoWorlds" "words" "[I").before args s = true) (hdg : decode cc pc = .ok (.getfield index, 3)) (kk : W p l e R s m args below meth c H locs cells slots Q (F0 m (pc + 3) ls (.ref (q 1) :: rest))) : W p l e R s m args below meth c H locs cells slots Q (F0 m pc ls (.ref (q 0) :: rest)) := va_get hexec hb hts hin hown hC.1 hP 0 rfl rfl 0 (by decide) hlink (fun _ h => h) rfl hdg kk
theorem kget_0_1 (hexec : p.tables.exec = Jvm.exec) (hb : c.code = cc) (hts : ∀ w ∈ Ts, w.before args s = true) (hin : ∀ w ∈ u_ws RK TK 15, w ∈ Ts) (hown : s.vm.findClass own = some m.cls) (hC : KC D q cA tN s s.heap) (hP : va_P D vwCl (wsK q cA σ) H) (hlink : (Cond.fieldLink own index "TwoWorlds" "kinds" "[I").before args s = true) (hdg : decode cc pc = .ok (.getfield index, 3)) (kk : W p l e R s m args below meth c H locs cells slots Q (F0 m (pc + 3) ls (.ref (q 2) :: rest))) : W p l e R s m args below meth c H locs cells slots Q (F0 m pc ls (.ref (q 0) :: rest)) := va_get hexec hb hts hin hown hC.1 hP 0 rfl rfl 1 (by decide) hlink (fun _ h => h) rfl hdg kk
theorem kget_0_2 (hexec : p.tables.exec = Jvm.exec) (hb : c.code = cc) (hts : ∀ w ∈ Ts, w.before args s = true) (hin : ∀ w ∈ u_ws RK TK 15, w ∈ Ts) (hown : s.vm.findClass own = some m.cls) (hC : KC D q cA tN s s.heap) (hP : va_P D vwCl (wsK q cA σ) H) (hlink : (Cond.fieldLink own index "TwoWorlds" "regionFirst" "[I").before args s = true) (hdg : decode cc pc = .ok (.getfield index, 3)) (kk : W p l e R s m args below meth c H locs cells slots Q (F0 m (pc + 3) ls (.ref (q 3) :: rest))) : W p l e R s m args below meth c H locs cells slots Q (F0 m pc ls (.ref (q 0) :: rest)) := va_get hexec hb hts hin hown hC.1 hP 0 rfl rfl 2 (by decide) hlink (fun _ h => h) rfl hdg kk
theorem kget_0_3 (hexec : p.tables.exec = Jvm.exec) (hb : c.code = cc) (hts : ∀ w ∈ Ts, w.before args s = true) (hin : ∀ w ∈ u_ws RK TK 15, w ∈ Ts) (hown : s.vm.findClass own = some m.cls) (hC : KC D q cA tN s s.heap) (hP : va_P D vwCl (wsK q cA σ) H) (hlink : (Cond.fieldLink own index "TwoWorlds" "regionLast" "[I").before args s = true) (hdg : decode cc pc = .ok (.getfield index, 3)) (kk : W p l e R s m args below meth c H locs cells slots Q (F0 m (pc + 3) ls (.ref (q 4) :: rest))) : W p l e R s m args below meth c H locs cells slots Q (F0 m pc ls (.ref (q 0) :: rest)) := va_get hexec hb hts hin hown hC.1 hP 0 rfl rfl 3 (by decide) hlink (fun _ h => h) rfl hdg kk
theorem kget_0_4 (hexec : p.tables.exec = Jvm.exec) (hb : c.code = cc) (hts : ∀ w ∈ Ts, w.before args s = true) (hin : ∀ w ∈ u_ws RK TK 15, w ∈ Ts) (hown : s.vm.findClass own = some m.cls) (hC : KC D q cA tN s s.heap) (hP : va_P D vwCl (wsK q cA σ) H) (hlink : (Cond.fieldLink own index "TwoWorlds" "regionKind" "[I").before args s = true) (hdg : decode cc pc = .ok (.getfield index, 3)) (kk : W p l e R s m args below meth c H locs cells slots Q (F0 m (pc + 3) ls (.ref (q 5) :: rest))) : W p l e R s m args below meth c H locs cells slots Q (F0 m pc ls (.ref (q 0) :: rest)) := va_get hexec hb hts hin hown hC.1 hP 0 rfl rfl 4 (by decide) hlink (fun _ h => h) rfl hdg kk
theorem kget_0_5 (hexec : p.tables.exec = Jvm.exec) (hb : c.code = cc) (hts : ∀ w ∈ Ts, w.before args s = true) (hin : ∀ w ∈ u_ws RK TK 15, w ∈ Ts) (hown : s.vm.findClass own = some m.cls) (hC : KC D q cA tN s s.heap) (hP : va_P D vwCl (wsK q cA σ) H) (hlink : (Cond.fieldLink own index "TwoWorlds" "now" "LTwoWorlds$Registers;").before args s = true) (hdg : decode cc pc = .ok (.getfield index, 3)) (kk : W p l e R s m args below meth c H locs cells slots Q (F0 m (pc + 3) ls (.ref (q 6) :: rest))) : W p l e R s m args below meth c H locs cells slots Q (F0 m pc ls (.ref (q 0) :: rest)) := va_get hexec hb hts hin hown hC.1 hP 0 rfl rfl 5 (by decide) hlink (fun _ h => h) rfl hdg kk
theorem kget_0_6 (hexec : p.tables.exec = Jvm.exec) (hb : c.code = cc) (hts : ∀ w ∈ Ts, w.before args s = true) (hin : ∀ w ∈ u_ws RK TK 15, w ∈ Ts) (hown : s.vm.findClass own = some m.cls) (hC : KC D q cA tN s s.heap) (hP : va_P D vwCl (wsK q cA σ) H) (hlink : (Cond.fieldLink own index "TwoWorlds" "before" "LTwoWorlds$Registers;").before args s = true) (hdg : decode cc pc = .ok (.getfield index, 3)) (kk : W p l e R s m args below meth c H locs cells slots Q (F0 m (pc + 3) ls (.ref (q 7) :: rest))) : W p l e R s m args below meth c H locs cells slots Q (F0 m pc ls (.ref (q 0) :: rest)) := va_get hexec hb hts hin hown hC.1 hP 0 rfl rfl 6 (by decide) hlink (fun _ h => h) rfl hdg kk
theorem kget_0_7 (hexec : p.tables.exec = Jvm.exec) (hb : c.code = cc) (hts : ∀ w ∈ Ts, w.before args s = true) (hin : ∀ w ∈ u_ws RK TK 15, w ∈ Ts) (hown : s.vm.findClass own = some m.cls) (hC : KC D q cA tN s s.heap) (hP : va_P D vwCl (wsK q cA σ) H) (hlink : (Cond.fieldLink own index "TwoWorlds" "breachesEnabled" "Z").before args s = true) (hdg : decode cc pc = .ok (.getfield index, 3)) (kk : W p l e R s m args below meth c H locs cells slots Q (F0 m (pc + 3) ls (.int (σ 0 7) :: rest))) : W p l e R s m args below meth c H locs cells slots Q (F0 m pc ls (.ref (q 0) :: rest)) := va_get hexec hb hts hin hown hC.1 hP 0 rfl rfl 7 (by decide) hlink (fun _ h => h) rfl hdg kk
theorem kput_0_7 {v : Int32} (hexec : p.tables.exec = Jvm.exec) (hb : c.code = cc) (hts : ∀ w ∈ Ts, w.before args s = true) (hin : ∀ w ∈ u_ws RK TK 15, w ∈ Ts) (hown : s.vm.findClass own = some m.cls) (hC : KC D q cA tN s s.heap) (hP : va_P D vwCl (wsK q cA σ) H) (hlink : (Cond.fieldLink own index "TwoWorlds" "breachesEnabled" "Z").before args s = true) (hS : va_S (KA q) H0 H locs) (hz : zb v) (hdg : decode cc pc = .ok (.putfield index, 3)) (kk : ∀ (u : St) (H1 : Heap) (locs1 : List Loc), u = up2 σ 0 7 v → va_P D vwCl (wsK q cA u) H1 → va_S (KA q) H0 H1 locs1 → W p l e R s m args below meth c H1 locs1 cells slots Q (F0 m (pc + 3) ls rest)) : W p l e R s m args below meth c H locs cells slots Q (F0 m pc ls (.int v :: .ref (q 0) :: rest)) := va_put (ty := .boolean) (v := .int v) hexec hb hts hin tyK tyK_ok nmK hown hC.1 hP (wsK_D σ hC.2.1) hS 0 rfl rfl 7 (by decide) hlink (fun _ h => h) rfl (by decide +kernel) (zb_n hz).1 (zb_n hz).2 (Nat.le_of_ble_eq_true rfl) hdg (fun H1 l1 hP1 _ hS1 => kk _ H1 l1 rfl hP1 hS1)
theorem kget_0_8 (hexec : p.tables.exec = Jvm.exec) (hb : c.code = cc) (hts : ∀ w ∈ Ts, w.before args s = true) (hin : ∀ w ∈ u_ws RK TK 15, w ∈ Ts) (hown : s.vm.findClass own = some m.cls) (hC : KC D q cA tN s s.heap) (hP : va_P D vwCl (wsK q cA σ) H) (hlink : (Cond.fieldLink own index "TwoWorlds" "closedExceptions" "I").before args s = true) (hdg : decode cc pc = .ok (.getfield index, 3)) (kk : W p l e R s m args below meth c H locs cells slots Q (F0 m (pc + 3) ls (.int (σ 0 8) :: rest))) : W p l e R s m args below meth c H locs cells slots Q (F0 m pc ls (.ref (q 0) :: rest)) := va_get hexec hb hts hin hown hC.1 hP 0 rfl rfl 8 (by decide) hlink (fun _ h => h) rfl hdg kk
theorem kput_0_8 {v : Int32} (hexec : p.tables.exec = Jvm.exec) (hb : c.code = cc) (hts : ∀ w ∈ Ts, w.before args s = true) (hin : ∀ w ∈ u_ws RK TK 15, w ∈ Ts) (hown : s.vm.findClass own = some m.cls) (hC : KC D q cA tN s s.heap) (hP : va_P D vwCl (wsK q cA σ) H) (hlink : (Cond.fieldLink own index "TwoWorlds" "closedExceptions" "I").before args s = true) (hS : va_S (KA q) H0 H locs) (hdg : decode cc pc = .ok (.putfield index, 3)) (kk : ∀ (u : St) (H1 : Heap) (locs1 : List Loc), u = up2 σ 0 8 v → va_P D vwCl (wsK q cA u) H1 → va_S (KA q) H0 H1 locs1 → W p l e R s m args below meth c H1 locs1 cells slots Q (F0 m (pc + 3) ls rest)) : W p l e R s m args below meth c H locs cells slots Q (F0 m pc ls (.int v :: .ref (q 0) :: rest)) := va_put (ty := .int) (v := .int v) hexec hb hts hin tyK tyK_ok nmK hown hC.1 hP (wsK_D σ hC.2.1) hS 0 rfl rfl 8 (by decide) hlink (fun _ h => h) rfl (by decide +kernel) rfl rfl (Nat.le_of_ble_eq_true rfl) hdg (fun H1 l1 hP1 _ hS1 => kk _ H1 l1 rfl hP1 hS1)
theorem kget_0_9 (hexec : p.tables.exec = Jvm.exec) (hb : c.code = cc) (hts : ∀ w ∈ Ts, w.before args s = true) (hin : ∀ w ∈ u_ws RK TK 15, w ∈ Ts) (hown : s.vm.findClass own = some m.cls) (hC : KC D q cA tN s s.heap) (hP : va_P D vwCl (wsK q cA σ) H) (hlink : (Cond.fieldLink own index "TwoWorlds" "closedBase" "I").before args s = true) (hdg : decode cc pc = .ok (.getfield index, 3)) (kk : W p l e R s m args below meth c H locs cells slots Q (F0 m (pc + 3) ls (.int (σ 0 9) :: rest))) : W p l e R s m args below meth c H locs cells slots Q (F0 m pc ls (.ref (q 0) :: rest)) := va_get hexec hb hts hin hown hC.1 hP 0 rfl rfl 9 (by decide) hlink (fun _ h => h) rfl hdg kk
theorem kput_0_9 {v : Int32} (hexec : p.tables.exec = Jvm.exec) (hb : c.code = cc) (hts : ∀ w ∈ Ts, w.before args s = true) (hin : ∀ w ∈ u_ws RK TK 15, w ∈ Ts) (hown : s.vm.findClass own = some m.cls) (hC : KC D q cA tN s s.heap) (hP : va_P D vwCl (wsK q cA σ) H) (hlink : (Cond.fieldLink own index "TwoWorlds" "closedBase" "I").before args s = true) (hS : va_S (KA q) H0 H locs) (hdg : decode cc pc = .ok (.putfield index, 3)) (kk : ∀ (u : St) (H1 : Heap) (locs1 : List Loc), u = up2 σ 0 9 v → va_P D vwCl (wsK q cA u) H1 → va_S (KA q) H0 H1 locs1 → W p l e R s m args below meth c H1 locs1 cells slots Q (F0 m (pc + 3) ls rest)) : W p l e R s m args below meth c H locs cells slots Q (F0 m pc ls (.int v :: .ref (q 0) :: rest)) := va_put (ty := .int) (v := .int v) hexec hb hts hin tyK tyK_ok nmK hown hC.1 hP (wsK_D σ hC.2.1) hS 0 rfl rfl 9 (by decide) hlink (fun _ h => h) rfl (by decide +kernel) rfl rfl (Nat.le_of_ble_eq_true rfl) hdg (fun H1 l1 hP1 _ hS1 => kk _ H1 l1 rfl hP1 hS1)
theorem kget_0_10 (hexec : p.tables.exec = Jvm.exec) (hb : c.code = cc) (hts : ∀ w ∈ Ts, w.before args s = true) (hin : ∀ w ∈ u_ws RK TK 15, w ∈ Ts) (hown : s.vm.findClass own = some m.cls) (hC : KC D q cA tN s s.heap) (hP : va_P D vwCl (wsK q cA σ) H) (hlink : (Cond.fieldLink own index "TwoWorlds" "openBase" "I").before args s = true) (hdg : decode cc pc = .ok (.getfield index, 3)) (kk : W p l e R s m args below meth c H locs cells slots Q (F0 m (pc + 3) ls (.int (σ 0 10) :: rest))) : W p l e R s m args below meth c H locs cells slots Q (F0 m pc ls (.ref (q 0) :: rest)) := va_get hexec hb hts hin hown hC.1 hP 0 rfl rfl 10 (by decide) hlink (fun _ h => h) rfl hdg kk
theorem kput_0_10 {v : Int32} (hexec : p.tables.exec = Jvm.exec) (hb : c.code = cc) (hts : ∀ w ∈ Ts, w.before args s = true) (hin : ∀ w ∈ u_ws RK TK 15, w ∈ Ts) (hown : s.vm.findClass own = some m.cls) (hC : KC D q cA tN s s.heap) (hP : va_P D vwCl (wsK q cA σ) H) (hlink : (Cond.fieldLink own index "TwoWorlds" "openBase" "I").before args s = true) (hS : va_S (KA q) H0 H locs) (hdg : decode cc pc = .ok (.putfield index, 3)) (kk : ∀ (u : St) (H1 : Heap) (locs1 : List Loc), u = up2 σ 0 10 v → va_P D vwCl (wsK q cA u) H1 → va_S (KA q) H0 H1 locs1 → W p l e R s m args below meth c H1 locs1 cells slots Q (F0 m (pc + 3) ls rest)) : W p l e R s m args below meth c H locs cells slots Q (F0 m pc ls (.int v :: .ref (q 0) :: rest)) := va_put (ty := .int) (v := .int v) hexec hb hts hin tyK tyK_ok nmK hown hC.1 hP (wsK_D σ hC.2.1) hS 0 rfl rfl 10 (by decide) hlink (fun _ h => h) rfl (by decide +kernel) rfl rfl (Nat.le_of_ble_eq_true rfl) hdg (fun H1 l1 hP1 _ hS1 => kk _ H1 l1 rfl hP1 hS1)
theorem kget_0_11 (hexec : p.tables.exec = Jvm.exec) (hb : c.code = cc) (hts : ∀ w ∈ Ts, w.before args s = true) (hin : ∀ w ∈ u_ws RK TK 15, w ∈ Ts) (hown : s.vm.findClass own = some m.cls) (hC : KC D q cA tN s s.heap) (hP : va_P D vwCl (wsK q cA σ) H) (hlink : (Cond.fieldLink own index "TwoWorlds" "state" "I").before args s = true) (hdg : decode cc pc = .ok (.getfield index, 3)) (kk : W p l e R s m args below meth c H locs cells slots Q (F0 m (pc + 3) ls (.int (σ 0 11) :: rest))) : W p l e R s m args below meth c H locs cells slots Q (F0 m pc ls (.ref (q 0) :: rest)) := va_get hexec hb hts hin hown hC.1 hP 0 rfl rfl 11 (by decide) hlink (fun _ h => h) rfl hdg kk
theorem kput_0_11 {v : Int32} (hexec : p.tables.exec = Jvm.exec) (hb : c.code = cc) (hts : ∀ w ∈ Ts, w.before args s = true) (hin : ∀ w ∈ u_ws RK TK 15, w ∈ Ts) (hown : s.vm.findClass own = some m.cls) (hC : KC D q cA tN s s.heap) (hP : va_P D vwCl (wsK q cA σ) H) (hlink : (Cond.fieldLink own index "TwoWorlds" "state" "I").before args s = true) (hS : va_S (KA q) H0 H locs) (hdg : decode cc pc = .ok (.putfield index, 3)) (kk : ∀ (u : St) (H1 : Heap) (locs1 : List Loc), u = up2 σ 0 11 v → va_P D vwCl (wsK q cA u) H1 → va_S (KA q) H0 H1 locs1 → W p l e R s m args below meth c H1 locs1 cells slots Q (F0 m (pc + 3) ls rest)) : W p l e R s m args below meth c H locs cells slots Q (F0 m pc ls (.int v :: .ref (q 0) :: rest)) := va_put (ty := .int) (v := .int v) hexec hb hts hin tyK tyK_ok nmK hown hC.1 hP (wsK_D σ hC.2.1) hS 0 rfl rfl 11 (by decide) hlink (fun _ h => h) rfl (by decide +kernel) rfl rfl (Nat.le_of_ble_eq_true rfl) hdg (fun H1 l1 hP1 _ hS1 => kk _ H1 l1 rfl hP1 hS1)
theorem kget_0_12 (hexec : p.tables.exec = Jvm.exec) (hb : c.code = cc) (hts : ∀ w ∈ Ts, w.before args s = true) (hin : ∀ w ∈ u_ws RK TK 15, w ∈ Ts) (hown : s.vm.findClass own = some m.cls) (hC : KC D q cA tN s s.heap) (hP : va_P D vwCl (wsK q cA σ) H) (hlink : (Cond.fieldLink own index "TwoWorlds" "pending" "I").before args s = true) (hdg : decode cc pc = .ok (.getfield index, 3)) (kk : W p l e R s m args below meth c H locs cells slots Q (F0 m (pc + 3) ls (.int (σ 0 12) :: rest))) : W p l e R s m args below meth c H locs cells slots Q (F0 m pc ls (.ref (q 0) :: rest)) := va_get hexec hb hts hin hown hC.1 hP 0 rfl rfl 12 (by decide) hlink (fun _ h => h) rfl hdg kk
theorem kput_0_12 {v : Int32} (hexec : p.tables.exec = Jvm.exec) (hb : c.code = cc) (hts : ∀ w ∈ Ts, w.before args s = true) (hin : ∀ w ∈ u_ws RK TK 15, w ∈ Ts) (hown : s.vm.findClass own = some m.cls) (hC : KC D q cA tN s s.heap) (hP : va_P D vwCl (wsK q cA σ) H) (hlink : (Cond.fieldLink own index "TwoWorlds" "pending" "I").before args s = true) (hS : va_S (KA q) H0 H locs) (hdg : decode cc pc = .ok (.putfield index, 3)) (kk : ∀ (u : St) (H1 : Heap) (locs1 : List Loc), u = up2 σ 0 12 v → va_P D vwCl (wsK q cA u) H1 → va_S (KA q) H0 H1 locs1 → W p l e R s m args below meth c H1 locs1 cells slots Q (F0 m (pc + 3) ls rest)) : W p l e R s m args below meth c H locs cells slots Q (F0 m pc ls (.int v :: .ref (q 0) :: rest)) := va_put (ty := .int) (v := .int v) hexec hb hts hin tyK tyK_ok nmK hown hC.1 hP (wsK_D σ hC.2.1) hS 0 rfl rfl 12 (by decide) hlink (fun _ h => h) rfl (by decide +kernel) rfl rfl (Nat.le_of_ble_eq_true rfl) hdg (fun H1 l1 hP1 _ hS1 => kk _ H1 l1 rfl hP1 hS1)
theorem kget_0_13 (hexec : p.tables.exec = Jvm.exec) (hb : c.code = cc) (hts : ∀ w ∈ Ts, w.before args s = true) (hin : ∀ w ∈ u_ws RK TK 15, w ∈ Ts) (hown : s.vm.findClass own = some m.cls) (hC : KC D q cA tN s s.heap) (hP : va_P D vwCl (wsK q cA σ) H) (hlink : (Cond.fieldLink own index "TwoWorlds" "takenLast" "I").before args s = true) (hdg : decode cc pc = .ok (.getfield index, 3)) (kk : W p l e R s m args below meth c H locs cells slots Q (F0 m (pc + 3) ls (.int (σ 0 13) :: rest))) : W p l e R s m args below meth c H locs cells slots Q (F0 m pc ls (.ref (q 0) :: rest)) := va_get hexec hb hts hin hown hC.1 hP 0 rfl rfl 13 (by decide) hlink (fun _ h => h) rfl hdg kk
theorem kput_0_13 {v : Int32} (hexec : p.tables.exec = Jvm.exec) (hb : c.code = cc) (hts : ∀ w ∈ Ts, w.before args s = true) (hin : ∀ w ∈ u_ws RK TK 15, w ∈ Ts) (hown : s.vm.findClass own = some m.cls) (hC : KC D q cA tN s s.heap) (hP : va_P D vwCl (wsK q cA σ) H) (hlink : (Cond.fieldLink own index "TwoWorlds" "takenLast" "I").before args s = true) (hS : va_S (KA q) H0 H locs) (hdg : decode cc pc = .ok (.putfield index, 3)) (kk : ∀ (u : St) (H1 : Heap) (locs1 : List Loc), u = up2 σ 0 13 v → va_P D vwCl (wsK q cA u) H1 → va_S (KA q) H0 H1 locs1 → W p l e R s m args below meth c H1 locs1 cells slots Q (F0 m (pc + 3) ls rest)) : W p l e R s m args below meth c H locs cells slots Q (F0 m pc ls (.int v :: .ref (q 0) :: rest)) := va_put (ty := .int) (v := .int v) hexec hb hts hin tyK tyK_ok nmK hown hC.1 hP (wsK_D σ hC.2.1) hS 0 rfl rfl 13 (by decide) hlink (fun _ h => h) rfl (by decide +kernel) rfl rfl (Nat.le_of_ble_eq_true rfl) hdg (fun H1 l1 hP1 _ hS1 => kk _ H1 l1 rfl hP1 hS1)
theorem kget_0_14 (hexec : p.tables.exec = Jvm.exec) (hb : c.code = cc) (hts : ∀ w ∈ Ts, w.before args s = true) (hin : ∀ w ∈ u_ws RK TK 15, w ∈ Ts) (hown : s.vm.findClass own = some m.cls) (hC : KC D q cA tN s s.heap) (hP : va_P D vwCl (wsK q cA σ) H) (hlink : (Cond.fieldLink own index "TwoWorlds" "fault" "I").before args s = true) (hdg : decode cc pc = .ok (.getfield index, 3)) (kk : W p l e R s m args below meth c H locs cells slots Q (F0 m (pc + 3) ls (.int (σ 0 14) :: rest))) : W p l e R s m args below meth c H locs cells slots Q (F0 m pc ls (.ref (q 0) :: rest)) := va_get hexec hb hts hin hown hC.1 hP 0 rfl rfl 14 (by decide) hlink (fun _ h => h) rfl hdg kk
theorem kput_0_14 {v : Int32} (hexec : p.tables.exec = Jvm.exec) (hb : c.code = cc) (hts : ∀ w ∈ Ts, w.before args s = true) (hin : ∀ w ∈ u_ws RK TK 15, w ∈ Ts) (hown : s.vm.findClass own = some m.cls) (hC : KC D q cA tN s s.heap) (hP : va_P D vwCl (wsK q cA σ) H) (hlink : (Cond.fieldLink own index "TwoWorlds" "fault" "I").before args s = true) (hS : va_S (KA q) H0 H locs) (hdg : decode cc pc = .ok (.putfield index, 3)) (kk : ∀ (u : St) (H1 : Heap) (locs1 : List Loc), u = up2 σ 0 14 v → va_P D vwCl (wsK q cA u) H1 → va_S (KA q) H0 H1 locs1 → W p l e R s m args below meth c H1 locs1 cells slots Q (F0 m (pc + 3) ls rest)) : W p l e R s m args below meth c H locs cells slots Q (F0 m pc ls (.int v :: .ref (q 0) :: rest)) := va_put (ty := .int) (v := .int v) hexec hb hts hin tyK tyK_ok nmK hown hC.1 hP (wsK_D σ hC.2.1) hS 0 rfl rfl 14 (by decide) hlink (fun _ h => h) rfl (by decide +kernel) rfl rfl (Nat.le_of_ble_eq_true rfl) hdg (fun H1 l1 hP1 _ hS1 => kk _ H1 l1 rfl hP1 hS1)
theorem kget_6_0 (hexec : p.tables.exec = Jvm.exec) (hb : c.code = cc) (hts : ∀ w ∈ Ts, w.before args s = true) (hin : ∀ w ∈ u_ws RQ TQ 7, w ∈ Ts) (hown : s.vm.findClass own = some m.cls) (hC : KC D q cA tN s s.heap) (hP : va_P D vwCl (wsK q cA σ) H) (hlink : (Cond.fieldLink own index "TwoWorlds$Registers" "\x72" "[I").before args s = true) (hdg : decode cc pc = .ok (.getfield index, 3)) (kk : W p l e R s m args below meth c H locs cells slots Q (F0 m (pc + 3) ls (.ref (q 8) :: rest))) : W p l e R s m args below meth c H locs cells slots Q (F0 m pc ls (.ref (q 6) :: rest)) := va_get hexec hb hts hin hown hC.1 hP 6 rfl rfl 0 (by decide) hlink (fun _ h => h) rfl hdg kk
theorem kget_6_1 (hexec : p.tables.exec = Jvm.exec) (hb : c.code = cc) (hts : ∀ w ∈ Ts, w.before args s = true) (hin : ∀ w ∈ u_ws RQ TQ 7, w ∈ Ts) (hown : s.vm.findClass own = some m.cls) (hC : KC D q cA tN s s.heap) (hP : va_P D vwCl (wsK q cA σ) H) (hlink : (Cond.fieldLink own index "TwoWorlds$Registers" "closedStack" "I").before args s = true) (hdg : decode cc pc = .ok (.getfield index, 3)) (kk : W p l e R s m args below meth c H locs cells slots Q (F0 m (pc + 3) ls (.int (σ 6 1) :: rest))) : W p l e R s m args below meth c H locs cells slots Q (F0 m pc ls (.ref (q 6) :: rest)) := va_get hexec hb hts hin hown hC.1 hP 6 rfl rfl 1 (by decide) hlink (fun _ h => h) rfl hdg kk
theorem kput_6_1 {v : Int32} (hexec : p.tables.exec = Jvm.exec) (hb : c.code = cc) (hts : ∀ w ∈ Ts, w.before args s = true) (hin : ∀ w ∈ u_ws RQ TQ 7, w ∈ Ts) (hown : s.vm.findClass own = some m.cls) (hC : KC D q cA tN s s.heap) (hP : va_P D vwCl (wsK q cA σ) H) (hlink : (Cond.fieldLink own index "TwoWorlds$Registers" "closedStack" "I").before args s = true) (hS : va_S (KA q) H0 H locs) (hdg : decode cc pc = .ok (.putfield index, 3)) (kk : ∀ (u : St) (H1 : Heap) (locs1 : List Loc), u = up2 σ 6 1 v → va_P D vwCl (wsK q cA u) H1 → va_S (KA q) H0 H1 locs1 → W p l e R s m args below meth c H1 locs1 cells slots Q (F0 m (pc + 3) ls rest)) : W p l e R s m args below meth c H locs cells slots Q (F0 m pc ls (.int v :: .ref (q 6) :: rest)) := va_put (ty := .int) (v := .int v) hexec hb hts hin tyQ tyQ_ok nmQ hown hC.1 hP (wsK_D σ hC.2.1) hS 6 rfl rfl 1 (by decide) hlink (fun _ h => h) rfl (by decide +kernel) rfl rfl (Nat.le_of_ble_eq_true rfl) hdg (fun H1 l1 hP1 _ hS1 => kk _ H1 l1 rfl hP1 hS1)
theorem kget_6_2 (hexec : p.tables.exec = Jvm.exec) (hb : c.code = cc) (hts : ∀ w ∈ Ts, w.before args s = true) (hin : ∀ w ∈ u_ws RQ TQ 7, w ∈ Ts) (hown : s.vm.findClass own = some m.cls) (hC : KC D q cA tN s s.heap) (hP : va_P D vwCl (wsK q cA σ) H) (hlink : (Cond.fieldLink own index "TwoWorlds$Registers" "openStack" "I").before args s = true) (hdg : decode cc pc = .ok (.getfield index, 3)) (kk : W p l e R s m args below meth c H locs cells slots Q (F0 m (pc + 3) ls (.int (σ 6 2) :: rest))) : W p l e R s m args below meth c H locs cells slots Q (F0 m pc ls (.ref (q 6) :: rest)) := va_get hexec hb hts hin hown hC.1 hP 6 rfl rfl 2 (by decide) hlink (fun _ h => h) rfl hdg kk
theorem kput_6_2 {v : Int32} (hexec : p.tables.exec = Jvm.exec) (hb : c.code = cc) (hts : ∀ w ∈ Ts, w.before args s = true) (hin : ∀ w ∈ u_ws RQ TQ 7, w ∈ Ts) (hown : s.vm.findClass own = some m.cls) (hC : KC D q cA tN s s.heap) (hP : va_P D vwCl (wsK q cA σ) H) (hlink : (Cond.fieldLink own index "TwoWorlds$Registers" "openStack" "I").before args s = true) (hS : va_S (KA q) H0 H locs) (hdg : decode cc pc = .ok (.putfield index, 3)) (kk : ∀ (u : St) (H1 : Heap) (locs1 : List Loc), u = up2 σ 6 2 v → va_P D vwCl (wsK q cA u) H1 → va_S (KA q) H0 H1 locs1 → W p l e R s m args below meth c H1 locs1 cells slots Q (F0 m (pc + 3) ls rest)) : W p l e R s m args below meth c H locs cells slots Q (F0 m pc ls (.int v :: .ref (q 6) :: rest)) := va_put (ty := .int) (v := .int v) hexec hb hts hin tyQ tyQ_ok nmQ hown hC.1 hP (wsK_D σ hC.2.1) hS 6 rfl rfl 2 (by decide) hlink (fun _ h => h) rfl (by decide +kernel) rfl rfl (Nat.le_of_ble_eq_true rfl) hdg (fun H1 l1 hP1 _ hS1 => kk _ H1 l1 rfl hP1 hS1)
theorem kget_6_3 (hexec : p.tables.exec = Jvm.exec) (hb : c.code = cc) (hts : ∀ w ∈ Ts, w.before args s = true) (hin : ∀ w ∈ u_ws RQ TQ 7, w ∈ Ts) (hown : s.vm.findClass own = some m.cls) (hC : KC D q cA tN s s.heap) (hP : va_P D vwCl (wsK q cA σ) H) (hlink : (Cond.fieldLink own index "TwoWorlds$Registers" "pc" "I").before args s = true) (hdg : decode cc pc = .ok (.getfield index, 3)) (kk : W p l e R s m args below meth c H locs cells slots Q (F0 m (pc + 3) ls (.int (σ 6 3) :: rest))) : W p l e R s m args below meth c H locs cells slots Q (F0 m pc ls (.ref (q 6) :: rest)) := va_get hexec hb hts hin hown hC.1 hP 6 rfl rfl 3 (by decide) hlink (fun _ h => h) rfl hdg kk
theorem kput_6_3 {v : Int32} (hexec : p.tables.exec = Jvm.exec) (hb : c.code = cc) (hts : ∀ w ∈ Ts, w.before args s = true) (hin : ∀ w ∈ u_ws RQ TQ 7, w ∈ Ts) (hown : s.vm.findClass own = some m.cls) (hC : KC D q cA tN s s.heap) (hP : va_P D vwCl (wsK q cA σ) H) (hlink : (Cond.fieldLink own index "TwoWorlds$Registers" "pc" "I").before args s = true) (hS : va_S (KA q) H0 H locs) (hdg : decode cc pc = .ok (.putfield index, 3)) (kk : ∀ (u : St) (H1 : Heap) (locs1 : List Loc), u = up2 σ 6 3 v → va_P D vwCl (wsK q cA u) H1 → va_S (KA q) H0 H1 locs1 → W p l e R s m args below meth c H1 locs1 cells slots Q (F0 m (pc + 3) ls rest)) : W p l e R s m args below meth c H locs cells slots Q (F0 m pc ls (.int v :: .ref (q 6) :: rest)) := va_put (ty := .int) (v := .int v) hexec hb hts hin tyQ tyQ_ok nmQ hown hC.1 hP (wsK_D σ hC.2.1) hS 6 rfl rfl 3 (by decide) hlink (fun _ h => h) rfl (by decide +kernel) rfl rfl (Nat.le_of_ble_eq_true rfl) hdg (fun H1 l1 hP1 _ hS1 => kk _ H1 l1 rfl hP1 hS1)
theorem kget_6_4 (hexec : p.tables.exec = Jvm.exec) (hb : c.code = cc) (hts : ∀ w ∈ Ts, w.before args s = true) (hin : ∀ w ∈ u_ws RQ TQ 7, w ∈ Ts) (hown : s.vm.findClass own = some m.cls) (hC : KC D q cA tN s s.heap) (hP : va_P D vwCl (wsK q cA σ) H) (hlink : (Cond.fieldLink own index "TwoWorlds$Registers" "zero" "Z").before args s = true) (hdg : decode cc pc = .ok (.getfield index, 3)) (kk : W p l e R s m args below meth c H locs cells slots Q (F0 m (pc + 3) ls (.int (σ 6 4) :: rest))) : W p l e R s m args below meth c H locs cells slots Q (F0 m pc ls (.ref (q 6) :: rest)) := va_get hexec hb hts hin hown hC.1 hP 6 rfl rfl 4 (by decide) hlink (fun _ h => h) rfl hdg kk
theorem kput_6_4 {v : Int32} (hexec : p.tables.exec = Jvm.exec) (hb : c.code = cc) (hts : ∀ w ∈ Ts, w.before args s = true) (hin : ∀ w ∈ u_ws RQ TQ 7, w ∈ Ts) (hown : s.vm.findClass own = some m.cls) (hC : KC D q cA tN s s.heap) (hP : va_P D vwCl (wsK q cA σ) H) (hlink : (Cond.fieldLink own index "TwoWorlds$Registers" "zero" "Z").before args s = true) (hS : va_S (KA q) H0 H locs) (hz : zb v) (hdg : decode cc pc = .ok (.putfield index, 3)) (kk : ∀ (u : St) (H1 : Heap) (locs1 : List Loc), u = up2 σ 6 4 v → va_P D vwCl (wsK q cA u) H1 → va_S (KA q) H0 H1 locs1 → W p l e R s m args below meth c H1 locs1 cells slots Q (F0 m (pc + 3) ls rest)) : W p l e R s m args below meth c H locs cells slots Q (F0 m pc ls (.int v :: .ref (q 6) :: rest)) := va_put (ty := .boolean) (v := .int v) hexec hb hts hin tyQ tyQ_ok nmQ hown hC.1 hP (wsK_D σ hC.2.1) hS 6 rfl rfl 4 (by decide) hlink (fun _ h => h) rfl (by decide +kernel) (zb_n hz).1 (zb_n hz).2 (Nat.le_of_ble_eq_true rfl) hdg (fun H1 l1 hP1 _ hS1 => kk _ H1 l1 rfl hP1 hS1)
theorem kget_6_5 (hexec : p.tables.exec = Jvm.exec) (hb : c.code = cc) (hts : ∀ w ∈ Ts, w.before args s = true) (hin : ∀ w ∈ u_ws RQ TQ 7, w ∈ Ts) (hown : s.vm.findClass own = some m.cls) (hC : KC D q cA tN s s.heap) (hP : va_P D vwCl (wsK q cA σ) H) (hlink : (Cond.fieldLink own index "TwoWorlds$Registers" "open" "Z").before args s = true) (hdg : decode cc pc = .ok (.getfield index, 3)) (kk : W p l e R s m args below meth c H locs cells slots Q (F0 m (pc + 3) ls (.int (σ 6 5) :: rest))) : W p l e R s m args below meth c H locs cells slots Q (F0 m pc ls (.ref (q 6) :: rest)) := va_get hexec hb hts hin hown hC.1 hP 6 rfl rfl 5 (by decide) hlink (fun _ h => h) rfl hdg kk
theorem kput_6_5 {v : Int32} (hexec : p.tables.exec = Jvm.exec) (hb : c.code = cc) (hts : ∀ w ∈ Ts, w.before args s = true) (hin : ∀ w ∈ u_ws RQ TQ 7, w ∈ Ts) (hown : s.vm.findClass own = some m.cls) (hC : KC D q cA tN s s.heap) (hP : va_P D vwCl (wsK q cA σ) H) (hlink : (Cond.fieldLink own index "TwoWorlds$Registers" "open" "Z").before args s = true) (hS : va_S (KA q) H0 H locs) (hz : zb v) (hdg : decode cc pc = .ok (.putfield index, 3)) (kk : ∀ (u : St) (H1 : Heap) (locs1 : List Loc), u = up2 σ 6 5 v → va_P D vwCl (wsK q cA u) H1 → va_S (KA q) H0 H1 locs1 → W p l e R s m args below meth c H1 locs1 cells slots Q (F0 m (pc + 3) ls rest)) : W p l e R s m args below meth c H locs cells slots Q (F0 m pc ls (.int v :: .ref (q 6) :: rest)) := va_put (ty := .boolean) (v := .int v) hexec hb hts hin tyQ tyQ_ok nmQ hown hC.1 hP (wsK_D σ hC.2.1) hS 6 rfl rfl 5 (by decide) hlink (fun _ h => h) rfl (by decide +kernel) (zb_n hz).1 (zb_n hz).2 (Nat.le_of_ble_eq_true rfl) hdg (fun H1 l1 hP1 _ hS1 => kk _ H1 l1 rfl hP1 hS1)
theorem kget_6_6 (hexec : p.tables.exec = Jvm.exec) (hb : c.code = cc) (hts : ∀ w ∈ Ts, w.before args s = true) (hin : ∀ w ∈ u_ws RQ TQ 7, w ∈ Ts) (hown : s.vm.findClass own = some m.cls) (hC : KC D q cA tN s s.heap) (hP : va_P D vwCl (wsK q cA σ) H) (hlink : (Cond.fieldLink own index "TwoWorlds$Registers" "active" "I").before args s = true) (hdg : decode cc pc = .ok (.getfield index, 3)) (kk : W p l e R s m args below meth c H locs cells slots Q (F0 m (pc + 3) ls (.int (σ 6 6) :: rest))) : W p l e R s m args below meth c H locs cells slots Q (F0 m pc ls (.ref (q 6) :: rest)) := va_get hexec hb hts hin hown hC.1 hP 6 rfl rfl 6 (by decide) hlink (fun _ h => h) rfl hdg kk
theorem kput_6_6 {v : Int32} (hexec : p.tables.exec = Jvm.exec) (hb : c.code = cc) (hts : ∀ w ∈ Ts, w.before args s = true) (hin : ∀ w ∈ u_ws RQ TQ 7, w ∈ Ts) (hown : s.vm.findClass own = some m.cls) (hC : KC D q cA tN s s.heap) (hP : va_P D vwCl (wsK q cA σ) H) (hlink : (Cond.fieldLink own index "TwoWorlds$Registers" "active" "I").before args s = true) (hS : va_S (KA q) H0 H locs) (hdg : decode cc pc = .ok (.putfield index, 3)) (kk : ∀ (u : St) (H1 : Heap) (locs1 : List Loc), u = up2 σ 6 6 v → va_P D vwCl (wsK q cA u) H1 → va_S (KA q) H0 H1 locs1 → W p l e R s m args below meth c H1 locs1 cells slots Q (F0 m (pc + 3) ls rest)) : W p l e R s m args below meth c H locs cells slots Q (F0 m pc ls (.int v :: .ref (q 6) :: rest)) := va_put (ty := .int) (v := .int v) hexec hb hts hin tyQ tyQ_ok nmQ hown hC.1 hP (wsK_D σ hC.2.1) hS 6 rfl rfl 6 (by decide) hlink (fun _ h => h) rfl (by decide +kernel) rfl rfl (Nat.le_of_ble_eq_true rfl) hdg (fun H1 l1 hP1 _ hS1 => kk _ H1 l1 rfl hP1 hS1)
theorem kget_7_0 (hexec : p.tables.exec = Jvm.exec) (hb : c.code = cc) (hts : ∀ w ∈ Ts, w.before args s = true) (hin : ∀ w ∈ u_ws RQ TQ 7, w ∈ Ts) (hown : s.vm.findClass own = some m.cls) (hC : KC D q cA tN s s.heap) (hP : va_P D vwCl (wsK q cA σ) H) (hlink : (Cond.fieldLink own index "TwoWorlds$Registers" "\x72" "[I").before args s = true) (hdg : decode cc pc = .ok (.getfield index, 3)) (kk : W p l e R s m args below meth c H locs cells slots Q (F0 m (pc + 3) ls (.ref (q 9) :: rest))) : W p l e R s m args below meth c H locs cells slots Q (F0 m pc ls (.ref (q 7) :: rest)) := va_get hexec hb hts hin hown hC.1 hP 7 rfl rfl 0 (by decide) hlink (fun _ h => h) rfl hdg kk
theorem kget_7_1 (hexec : p.tables.exec = Jvm.exec) (hb : c.code = cc) (hts : ∀ w ∈ Ts, w.before args s = true) (hin : ∀ w ∈ u_ws RQ TQ 7, w ∈ Ts) (hown : s.vm.findClass own = some m.cls) (hC : KC D q cA tN s s.heap) (hP : va_P D vwCl (wsK q cA σ) H) (hlink : (Cond.fieldLink own index "TwoWorlds$Registers" "closedStack" "I").before args s = true) (hdg : decode cc pc = .ok (.getfield index, 3)) (kk : W p l e R s m args below meth c H locs cells slots Q (F0 m (pc + 3) ls (.int (σ 7 1) :: rest))) : W p l e R s m args below meth c H locs cells slots Q (F0 m pc ls (.ref (q 7) :: rest)) := va_get hexec hb hts hin hown hC.1 hP 7 rfl rfl 1 (by decide) hlink (fun _ h => h) rfl hdg kk
theorem kput_7_1 {v : Int32} (hexec : p.tables.exec = Jvm.exec) (hb : c.code = cc) (hts : ∀ w ∈ Ts, w.before args s = true) (hin : ∀ w ∈ u_ws RQ TQ 7, w ∈ Ts) (hown : s.vm.findClass own = some m.cls) (hC : KC D q cA tN s s.heap) (hP : va_P D vwCl (wsK q cA σ) H) (hlink : (Cond.fieldLink own index "TwoWorlds$Registers" "closedStack" "I").before args s = true) (hS : va_S (KA q) H0 H locs) (hdg : decode cc pc = .ok (.putfield index, 3)) (kk : ∀ (u : St) (H1 : Heap) (locs1 : List Loc), u = up2 σ 7 1 v → va_P D vwCl (wsK q cA u) H1 → va_S (KA q) H0 H1 locs1 → W p l e R s m args below meth c H1 locs1 cells slots Q (F0 m (pc + 3) ls rest)) : W p l e R s m args below meth c H locs cells slots Q (F0 m pc ls (.int v :: .ref (q 7) :: rest)) := va_put (ty := .int) (v := .int v) hexec hb hts hin tyQ tyQ_ok nmQ hown hC.1 hP (wsK_D σ hC.2.1) hS 7 rfl rfl 1 (by decide) hlink (fun _ h => h) rfl (by decide +kernel) rfl rfl (Nat.le_of_ble_eq_true rfl) hdg (fun H1 l1 hP1 _ hS1 => kk _ H1 l1 rfl hP1 hS1)
theorem kget_7_2 (hexec : p.tables.exec = Jvm.exec) (hb : c.code = cc) (hts : ∀ w ∈ Ts, w.before args s = true) (hin : ∀ w ∈ u_ws RQ TQ 7, w ∈ Ts) (hown : s.vm.findClass own = some m.cls) (hC : KC D q cA tN s s.heap) (hP : va_P D vwCl (wsK q cA σ) H) (hlink : (Cond.fieldLink own index "TwoWorlds$Registers" "openStack" "I").before args s = true) (hdg : decode cc pc = .ok (.getfield index, 3)) (kk : W p l e R s m args below meth c H locs cells slots Q (F0 m (pc + 3) ls (.int (σ 7 2) :: rest))) : W p l e R s m args below meth c H locs cells slots Q (F0 m pc ls (.ref (q 7) :: rest)) := va_get hexec hb hts hin hown hC.1 hP 7 rfl rfl 2 (by decide) hlink (fun _ h => h) rfl hdg kk
theorem kput_7_2 {v : Int32} (hexec : p.tables.exec = Jvm.exec) (hb : c.code = cc) (hts : ∀ w ∈ Ts, w.before args s = true) (hin : ∀ w ∈ u_ws RQ TQ 7, w ∈ Ts) (hown : s.vm.findClass own = some m.cls) (hC : KC D q cA tN s s.heap) (hP : va_P D vwCl (wsK q cA σ) H) (hlink : (Cond.fieldLink own index "TwoWorlds$Registers" "openStack" "I").before args s = true) (hS : va_S (KA q) H0 H locs) (hdg : decode cc pc = .ok (.putfield index, 3)) (kk : ∀ (u : St) (H1 : Heap) (locs1 : List Loc), u = up2 σ 7 2 v → va_P D vwCl (wsK q cA u) H1 → va_S (KA q) H0 H1 locs1 → W p l e R s m args below meth c H1 locs1 cells slots Q (F0 m (pc + 3) ls rest)) : W p l e R s m args below meth c H locs cells slots Q (F0 m pc ls (.int v :: .ref (q 7) :: rest)) := va_put (ty := .int) (v := .int v) hexec hb hts hin tyQ tyQ_ok nmQ hown hC.1 hP (wsK_D σ hC.2.1) hS 7 rfl rfl 2 (by decide) hlink (fun _ h => h) rfl (by decide +kernel) rfl rfl (Nat.le_of_ble_eq_true rfl) hdg (fun H1 l1 hP1 _ hS1 => kk _ H1 l1 rfl hP1 hS1)
theorem kget_7_3 (hexec : p.tables.exec = Jvm.exec) (hb : c.code = cc) (hts : ∀ w ∈ Ts, w.before args s = true) (hin : ∀ w ∈ u_ws RQ TQ 7, w ∈ Ts) (hown : s.vm.findClass own = some m.cls) (hC : KC D q cA tN s s.heap) (hP : va_P D vwCl (wsK q cA σ) H) (hlink : (Cond.fieldLink own index "TwoWorlds$Registers" "pc" "I").before args s = true) (hdg : decode cc pc = .ok (.getfield index, 3)) (kk : W p l e R s m args below meth c H locs cells slots Q (F0 m (pc + 3) ls (.int (σ 7 3) :: rest))) : W p l e R s m args below meth c H locs cells slots Q (F0 m pc ls (.ref (q 7) :: rest)) := va_get hexec hb hts hin hown hC.1 hP 7 rfl rfl 3 (by decide) hlink (fun _ h => h) rfl hdg kk
theorem kput_7_3 {v : Int32} (hexec : p.tables.exec = Jvm.exec) (hb : c.code = cc) (hts : ∀ w ∈ Ts, w.before args s = true) (hin : ∀ w ∈ u_ws RQ TQ 7, w ∈ Ts) (hown : s.vm.findClass own = some m.cls) (hC : KC D q cA tN s s.heap) (hP : va_P D vwCl (wsK q cA σ) H) (hlink : (Cond.fieldLink own index "TwoWorlds$Registers" "pc" "I").before args s = true) (hS : va_S (KA q) H0 H locs) (hdg : decode cc pc = .ok (.putfield index, 3)) (kk : ∀ (u : St) (H1 : Heap) (locs1 : List Loc), u = up2 σ 7 3 v → va_P D vwCl (wsK q cA u) H1 → va_S (KA q) H0 H1 locs1 → W p l e R s m args below meth c H1 locs1 cells slots Q (F0 m (pc + 3) ls rest)) : W p l e R s m args below meth c H locs cells slots Q (F0 m pc ls (.int v :: .ref (q 7) :: rest)) := va_put (ty := .int) (v := .int v) hexec hb hts hin tyQ tyQ_ok nmQ hown hC.1 hP (wsK_D σ hC.2.1) hS 7 rfl rfl 3 (by decide) hlink (fun _ h => h) rfl (by decide +kernel) rfl rfl (Nat.le_of_ble_eq_true rfl) hdg (fun H1 l1 hP1 _ hS1 => kk _ H1 l1 rfl hP1 hS1)
theorem kget_7_4 (hexec : p.tables.exec = Jvm.exec) (hb : c.code = cc) (hts : ∀ w ∈ Ts, w.before args s = true) (hin : ∀ w ∈ u_ws RQ TQ 7, w ∈ Ts) (hown : s.vm.findClass own = some m.cls) (hC : KC D q cA tN s s.heap) (hP : va_P D vwCl (wsK q cA σ) H) (hlink : (Cond.fieldLink own index "TwoWorlds$Registers" "zero" "Z").before args s = true) (hdg : decode cc pc = .ok (.getfield index, 3)) (kk : W p l e R s m args below meth c H locs cells slots Q (F0 m (pc + 3) ls (.int (σ 7 4) :: rest))) : W p l e R s m args below meth c H locs cells slots Q (F0 m pc ls (.ref (q 7) :: rest)) := va_get hexec hb hts hin hown hC.1 hP 7 rfl rfl 4 (by decide) hlink (fun _ h => h) rfl hdg kk
theorem kput_7_4 {v : Int32} (hexec : p.tables.exec = Jvm.exec) (hb : c.code = cc) (hts : ∀ w ∈ Ts, w.before args s = true) (hin : ∀ w ∈ u_ws RQ TQ 7, w ∈ Ts) (hown : s.vm.findClass own = some m.cls) (hC : KC D q cA tN s s.heap) (hP : va_P D vwCl (wsK q cA σ) H) (hlink : (Cond.fieldLink own index "TwoWorlds$Registers" "zero" "Z").before args s = true) (hS : va_S (KA q) H0 H locs) (hz : zb v) (hdg : decode cc pc = .ok (.putfield index, 3)) (kk : ∀ (u : St) (H1 : Heap) (locs1 : List Loc), u = up2 σ 7 4 v → va_P D vwCl (wsK q cA u) H1 → va_S (KA q) H0 H1 locs1 → W p l e R s m args below meth c H1 locs1 cells slots Q (F0 m (pc + 3) ls rest)) : W p l e R s m args below meth c H locs cells slots Q (F0 m pc ls (.int v :: .ref (q 7) :: rest)) := va_put (ty := .boolean) (v := .int v) hexec hb hts hin tyQ tyQ_ok nmQ hown hC.1 hP (wsK_D σ hC.2.1) hS 7 rfl rfl 4 (by decide) hlink (fun _ h => h) rfl (by decide +kernel) (zb_n hz).1 (zb_n hz).2 (Nat.le_of_ble_eq_true rfl) hdg (fun H1 l1 hP1 _ hS1 => kk _ H1 l1 rfl hP1 hS1)
theorem kget_7_5 (hexec : p.tables.exec = Jvm.exec) (hb : c.code = cc) (hts : ∀ w ∈ Ts, w.before args s = true) (hin : ∀ w ∈ u_ws RQ TQ 7, w ∈ Ts) (hown : s.vm.findClass own = some m.cls) (hC : KC D q cA tN s s.heap) (hP : va_P D vwCl (wsK q cA σ) H) (hlink : (Cond.fieldLink own index "TwoWorlds$Registers" "open" "Z").before args s = true) (hdg : decode cc pc = .ok (.getfield index, 3)) (kk : W p l e R s m args below meth c H locs cells slots Q (F0 m (pc + 3) ls (.int (σ 7 5) :: rest))) : W p l e R s m args below meth c H locs cells slots Q (F0 m pc ls (.ref (q 7) :: rest)) := va_get hexec hb hts hin hown hC.1 hP 7 rfl rfl 5 (by decide) hlink (fun _ h => h) rfl hdg kk
theorem kput_7_5 {v : Int32} (hexec : p.tables.exec = Jvm.exec) (hb : c.code = cc) (hts : ∀ w ∈ Ts, w.before args s = true) (hin : ∀ w ∈ u_ws RQ TQ 7, w ∈ Ts) (hown : s.vm.findClass own = some m.cls) (hC : KC D q cA tN s s.heap) (hP : va_P D vwCl (wsK q cA σ) H) (hlink : (Cond.fieldLink own index "TwoWorlds$Registers" "open" "Z").before args s = true) (hS : va_S (KA q) H0 H locs) (hz : zb v) (hdg : decode cc pc = .ok (.putfield index, 3)) (kk : ∀ (u : St) (H1 : Heap) (locs1 : List Loc), u = up2 σ 7 5 v → va_P D vwCl (wsK q cA u) H1 → va_S (KA q) H0 H1 locs1 → W p l e R s m args below meth c H1 locs1 cells slots Q (F0 m (pc + 3) ls rest)) : W p l e R s m args below meth c H locs cells slots Q (F0 m pc ls (.int v :: .ref (q 7) :: rest)) := va_put (ty := .boolean) (v := .int v) hexec hb hts hin tyQ tyQ_ok nmQ hown hC.1 hP (wsK_D σ hC.2.1) hS 7 rfl rfl 5 (by decide) hlink (fun _ h => h) rfl (by decide +kernel) (zb_n hz).1 (zb_n hz).2 (Nat.le_of_ble_eq_true rfl) hdg (fun H1 l1 hP1 _ hS1 => kk _ H1 l1 rfl hP1 hS1)
theorem kget_7_6 (hexec : p.tables.exec = Jvm.exec) (hb : c.code = cc) (hts : ∀ w ∈ Ts, w.before args s = true) (hin : ∀ w ∈ u_ws RQ TQ 7, w ∈ Ts) (hown : s.vm.findClass own = some m.cls) (hC : KC D q cA tN s s.heap) (hP : va_P D vwCl (wsK q cA σ) H) (hlink : (Cond.fieldLink own index "TwoWorlds$Registers" "active" "I").before args s = true) (hdg : decode cc pc = .ok (.getfield index, 3)) (kk : W p l e R s m args below meth c H locs cells slots Q (F0 m (pc + 3) ls (.int (σ 7 6) :: rest))) : W p l e R s m args below meth c H locs cells slots Q (F0 m pc ls (.ref (q 7) :: rest)) := va_get hexec hb hts hin hown hC.1 hP 7 rfl rfl 6 (by decide) hlink (fun _ h => h) rfl hdg kk
theorem kput_7_6 {v : Int32} (hexec : p.tables.exec = Jvm.exec) (hb : c.code = cc) (hts : ∀ w ∈ Ts, w.before args s = true) (hin : ∀ w ∈ u_ws RQ TQ 7, w ∈ Ts) (hown : s.vm.findClass own = some m.cls) (hC : KC D q cA tN s s.heap) (hP : va_P D vwCl (wsK q cA σ) H) (hlink : (Cond.fieldLink own index "TwoWorlds$Registers" "active" "I").before args s = true) (hS : va_S (KA q) H0 H locs) (hdg : decode cc pc = .ok (.putfield index, 3)) (kk : ∀ (u : St) (H1 : Heap) (locs1 : List Loc), u = up2 σ 7 6 v → va_P D vwCl (wsK q cA u) H1 → va_S (KA q) H0 H1 locs1 → W p l e R s m args below meth c H1 locs1 cells slots Q (F0 m (pc + 3) ls rest)) : W p l e R s m args below meth c H locs cells slots Q (F0 m pc ls (.int v :: .ref (q 7) :: rest)) := va_put (ty := .int) (v := .int v) hexec hb hts hin tyQ tyQ_ok nmQ hown hC.1 hP (wsK_D σ hC.2.1) hS 7 rfl rfl 6 (by decide) hlink (fun _ h => h) rfl (by decide +kernel) rfl rfl (Nat.le_of_ble_eq_true rfl) hdg (fun H1 l1 hP1 _ hS1 => kk _ H1 l1 rfl hP1 hS1)
theorem kald_1 {i : Int32} (hexec : p.tables.exec = Jvm.exec) (hb : c.code = cc) (hC : KC D q cA tN s s.heap) (hP : va_P D vwCl (wsK q cA σ) H) (hin : vp_in i 256) (hdg : decode cc pc = .ok (.iaload, 1)) (kk : W p l e R s m args below meth c H locs cells slots Q (F0 m (pc + 1) ls (.int (σ 1 (ix i)) :: rest))) : W p l e R s m args below meth c H locs cells slots Q (F0 m pc ls (.int i :: .ref (q 1) :: rest)) := va_iald hexec hb hC.1 hP 1 0 (n := 256) (f := σ 1) rfl rfl hin hdg kk
theorem kast_1 {i v : Int32} (hexec : p.tables.exec = Jvm.exec) (hb : c.code = cc) (hC : KC D q cA tN s s.heap) (hP : va_P D vwCl (wsK q cA σ) H) (hS : va_S (KA q) H0 H locs) (hin : vp_in i 256) (hdg : decode cc pc = .ok (.iastore, 1)) (kk : ∀ (u : St) (H1 : Heap) (locs1 : List Loc), u = up2 σ 1 (ix i) v → va_P D vwCl (wsK q cA u) H1 → va_S (KA q) H0 H1 locs1 → W p l e R s m args below meth c H1 locs1 cells slots Q (F0 m (pc + 1) ls rest)) : W p l e R s m args below meth c H locs cells slots Q (F0 m pc ls (.int v :: .int i :: .ref (q 1) :: rest)) := va_iast hexec hb hC.1 hP (wsK_D σ hC.2.1) hS 1 0 (n := 256) (f := σ 1) rfl rfl hin hdg (fun H1 l1 hP1 _ hS1 => kk _ H1 l1 rfl hP1 hS1)
theorem kald_2 {i : Int32} (hexec : p.tables.exec = Jvm.exec) (hb : c.code = cc) (hC : KC D q cA tN s s.heap) (hP : va_P D vwCl (wsK q cA σ) H) (hin : vp_in i 256) (hdg : decode cc pc = .ok (.iaload, 1)) (kk : W p l e R s m args below meth c H locs cells slots Q (F0 m (pc + 1) ls (.int (σ 2 (ix i)) :: rest))) : W p l e R s m args below meth c H locs cells slots Q (F0 m pc ls (.int i :: .ref (q 2) :: rest)) := va_iald hexec hb hC.1 hP 2 0 (n := 256) (f := σ 2) rfl rfl hin hdg kk
theorem kast_2 {i v : Int32} (hexec : p.tables.exec = Jvm.exec) (hb : c.code = cc) (hC : KC D q cA tN s s.heap) (hP : va_P D vwCl (wsK q cA σ) H) (hS : va_S (KA q) H0 H locs) (hin : vp_in i 256) (hdg : decode cc pc = .ok (.iastore, 1)) (kk : ∀ (u : St) (H1 : Heap) (locs1 : List Loc), u = up2 σ 2 (ix i) v → va_P D vwCl (wsK q cA u) H1 → va_S (KA q) H0 H1 locs1 → W p l e R s m args below meth c H1 locs1 cells slots Q (F0 m (pc + 1) ls rest)) : W p l e R s m args below meth c H locs cells slots Q (F0 m pc ls (.int v :: .int i :: .ref (q 2) :: rest)) := va_iast hexec hb hC.1 hP (wsK_D σ hC.2.1) hS 2 0 (n := 256) (f := σ 2) rfl rfl hin hdg (fun H1 l1 hP1 _ hS1 => kk _ H1 l1 rfl hP1 hS1)
theorem kald_3 {i : Int32} (hexec : p.tables.exec = Jvm.exec) (hb : c.code = cc) (hC : KC D q cA tN s s.heap) (hP : va_P D vwCl (wsK q cA σ) H) (hin : vp_in i 4) (hdg : decode cc pc = .ok (.iaload, 1)) (kk : W p l e R s m args below meth c H locs cells slots Q (F0 m (pc + 1) ls (.int (σ 3 (ix i)) :: rest))) : W p l e R s m args below meth c H locs cells slots Q (F0 m pc ls (.int i :: .ref (q 3) :: rest)) := va_iald hexec hb hC.1 hP 3 0 (n := 4) (f := σ 3) rfl rfl hin hdg kk
theorem kast_3 {i v : Int32} (hexec : p.tables.exec = Jvm.exec) (hb : c.code = cc) (hC : KC D q cA tN s s.heap) (hP : va_P D vwCl (wsK q cA σ) H) (hS : va_S (KA q) H0 H locs) (hin : vp_in i 4) (hdg : decode cc pc = .ok (.iastore, 1)) (kk : ∀ (u : St) (H1 : Heap) (locs1 : List Loc), u = up2 σ 3 (ix i) v → va_P D vwCl (wsK q cA u) H1 → va_S (KA q) H0 H1 locs1 → W p l e R s m args below meth c H1 locs1 cells slots Q (F0 m (pc + 1) ls rest)) : W p l e R s m args below meth c H locs cells slots Q (F0 m pc ls (.int v :: .int i :: .ref (q 3) :: rest)) := va_iast hexec hb hC.1 hP (wsK_D σ hC.2.1) hS 3 0 (n := 4) (f := σ 3) rfl rfl hin hdg (fun H1 l1 hP1 _ hS1 => kk _ H1 l1 rfl hP1 hS1)
theorem kald_4 {i : Int32} (hexec : p.tables.exec = Jvm.exec) (hb : c.code = cc) (hC : KC D q cA tN s s.heap) (hP : va_P D vwCl (wsK q cA σ) H) (hin : vp_in i 4) (hdg : decode cc pc = .ok (.iaload, 1)) (kk : W p l e R s m args below meth c H locs cells slots Q (F0 m (pc + 1) ls (.int (σ 4 (ix i)) :: rest))) : W p l e R s m args below meth c H locs cells slots Q (F0 m pc ls (.int i :: .ref (q 4) :: rest)) := va_iald hexec hb hC.1 hP 4 0 (n := 4) (f := σ 4) rfl rfl hin hdg kk
theorem kast_4 {i v : Int32} (hexec : p.tables.exec = Jvm.exec) (hb : c.code = cc) (hC : KC D q cA tN s s.heap) (hP : va_P D vwCl (wsK q cA σ) H) (hS : va_S (KA q) H0 H locs) (hin : vp_in i 4) (hdg : decode cc pc = .ok (.iastore, 1)) (kk : ∀ (u : St) (H1 : Heap) (locs1 : List Loc), u = up2 σ 4 (ix i) v → va_P D vwCl (wsK q cA u) H1 → va_S (KA q) H0 H1 locs1 → W p l e R s m args below meth c H1 locs1 cells slots Q (F0 m (pc + 1) ls rest)) : W p l e R s m args below meth c H locs cells slots Q (F0 m pc ls (.int v :: .int i :: .ref (q 4) :: rest)) := va_iast hexec hb hC.1 hP (wsK_D σ hC.2.1) hS 4 0 (n := 4) (f := σ 4) rfl rfl hin hdg (fun H1 l1 hP1 _ hS1 => kk _ H1 l1 rfl hP1 hS1)
theorem kald_5 {i : Int32} (hexec : p.tables.exec = Jvm.exec) (hb : c.code = cc) (hC : KC D q cA tN s s.heap) (hP : va_P D vwCl (wsK q cA σ) H) (hin : vp_in i 4) (hdg : decode cc pc = .ok (.iaload, 1)) (kk : W p l e R s m args below meth c H locs cells slots Q (F0 m (pc + 1) ls (.int (σ 5 (ix i)) :: rest))) : W p l e R s m args below meth c H locs cells slots Q (F0 m pc ls (.int i :: .ref (q 5) :: rest)) := va_iald hexec hb hC.1 hP 5 0 (n := 4) (f := σ 5) rfl rfl hin hdg kk
theorem kast_5 {i v : Int32} (hexec : p.tables.exec = Jvm.exec) (hb : c.code = cc) (hC : KC D q cA tN s s.heap) (hP : va_P D vwCl (wsK q cA σ) H) (hS : va_S (KA q) H0 H locs) (hin : vp_in i 4) (hdg : decode cc pc = .ok (.iastore, 1)) (kk : ∀ (u : St) (H1 : Heap) (locs1 : List Loc), u = up2 σ 5 (ix i) v → va_P D vwCl (wsK q cA u) H1 → va_S (KA q) H0 H1 locs1 → W p l e R s m args below meth c H1 locs1 cells slots Q (F0 m (pc + 1) ls rest)) : W p l e R s m args below meth c H locs cells slots Q (F0 m pc ls (.int v :: .int i :: .ref (q 5) :: rest)) := va_iast hexec hb hC.1 hP (wsK_D σ hC.2.1) hS 5 0 (n := 4) (f := σ 5) rfl rfl hin hdg (fun H1 l1 hP1 _ hS1 => kk _ H1 l1 rfl hP1 hS1)
theorem kald_8 {i : Int32} (hexec : p.tables.exec = Jvm.exec) (hb : c.code = cc) (hC : KC D q cA tN s s.heap) (hP : va_P D vwCl (wsK q cA σ) H) (hin : vp_in i 8) (hdg : decode cc pc = .ok (.iaload, 1)) (kk : W p l e R s m args below meth c H locs cells slots Q (F0 m (pc + 1) ls (.int (σ 8 (ix i)) :: rest))) : W p l e R s m args below meth c H locs cells slots Q (F0 m pc ls (.int i :: .ref (q 8) :: rest)) := va_iald hexec hb hC.1 hP 8 0 (n := 8) (f := σ 8) rfl rfl hin hdg kk
theorem kast_8 {i v : Int32} (hexec : p.tables.exec = Jvm.exec) (hb : c.code = cc) (hC : KC D q cA tN s s.heap) (hP : va_P D vwCl (wsK q cA σ) H) (hS : va_S (KA q) H0 H locs) (hin : vp_in i 8) (hdg : decode cc pc = .ok (.iastore, 1)) (kk : ∀ (u : St) (H1 : Heap) (locs1 : List Loc), u = up2 σ 8 (ix i) v → va_P D vwCl (wsK q cA u) H1 → va_S (KA q) H0 H1 locs1 → W p l e R s m args below meth c H1 locs1 cells slots Q (F0 m (pc + 1) ls rest)) : W p l e R s m args below meth c H locs cells slots Q (F0 m pc ls (.int v :: .int i :: .ref (q 8) :: rest)) := va_iast hexec hb hC.1 hP (wsK_D σ hC.2.1) hS 8 0 (n := 8) (f := σ 8) rfl rfl hin hdg (fun H1 l1 hP1 _ hS1 => kk _ H1 l1 rfl hP1 hS1)
theorem kald_9 {i : Int32} (hexec : p.tables.exec = Jvm.exec) (hb : c.code = cc) (hC : KC D q cA tN s s.heap) (hP : va_P D vwCl (wsK q cA σ) H) (hin : vp_in i 8) (hdg : decode cc pc = .ok (.iaload, 1)) (kk : W p l e R s m args below meth c H locs cells slots Q (F0 m (pc + 1) ls (.int (σ 9 (ix i)) :: rest))) : W p l e R s m args below meth c H locs cells slots Q (F0 m pc ls (.int i :: .ref (q 9) :: rest)) := va_iald hexec hb hC.1 hP 9 0 (n := 8) (f := σ 9) rfl rfl hin hdg kk
theorem kast_9 {i v : Int32} (hexec : p.tables.exec = Jvm.exec) (hb : c.code = cc) (hC : KC D q cA tN s s.heap) (hP : va_P D vwCl (wsK q cA σ) H) (hS : va_S (KA q) H0 H locs) (hin : vp_in i 8) (hdg : decode cc pc = .ok (.iastore, 1)) (kk : ∀ (u : St) (H1 : Heap) (locs1 : List Loc), u = up2 σ 9 (ix i) v → va_P D vwCl (wsK q cA u) H1 → va_S (KA q) H0 H1 locs1 → W p l e R s m args below meth c H1 locs1 cells slots Q (F0 m (pc + 1) ls rest)) : W p l e R s m args below meth c H locs cells slots Q (F0 m pc ls (.int v :: .int i :: .ref (q 9) :: rest)) := va_iast hexec hb hC.1 hP (wsK_D σ hC.2.1) hS 9 0 (n := 8) (f := σ 9) rfl rfl hin hdg (fun H1 l1 hP1 _ hS1 => kk _ H1 l1 rfl hP1 hS1)
theorem kcallv {post : St → Prop} (S : CallFix p m c cc nL s args Ts own) (hC : KC D q cA tN s s.heap) (hP : va_P D vwCl (wsK q cA σ) H) (hB : KB σ) (hS : va_S (KA q) s.heap H locs)
    (hM : Met l y wsC rm (va_Pc (.ref b :: As) (KPre D q cA tN σ)) (va_Qv post (KPost D q cA) (KA q)) 0 0 (KA q)) (cw : CallW R s args own C index y bytes maxL ret wsC rm 0 0 n) (hrv : ∃ cellB : Cell, H[b]? = some cellB ∧ cellB.vm.isStatics = false ∧ s.vm.findClass C = some cellB.cls)
    (hn : As.length = n) (hsz : ls.size = nL) (hst : st0 = As.reverse ++ .ref b :: rest) (hrm : (rest.map fun v => v.category).sum ≤ 8) (hdg : decode cc pc = .ok (.invokevirtual index, 3))
    (kk : ∀ (u : St) (H1 : Heap) (locs1 : List Loc), post u → va_P D vwCl (wsK q cA u) H1 → KB u → va_S (KA q) s.heap H1 locs1 → W p l e R s m args below meth c H1 locs1 0 0 Q (F0 m (pc + 3) ls rest)) : W p l e R s m args below meth c H locs 0 0 Q (F0 m pc ls st0) :=
  va_callv (va_runV S hM cw ⟨KPre_blind, hrv, fun U hU hW => ⟨rfl, by rw [hU]; exact hP, hB, hC.next hS hU hW.alike⟩⟩ rfl hn hsz hst (lv_room hrm) hdg ⟨Nat.zero_le _, Nat.zero_le _⟩) hS (fun _ _ h => h) (fun _ h => h) (fun u t H1 locs1 ht _ hx hb _ _ hS1 => kk u H1 locs1 hx (by rw [← ht]; exact hb.1) hb.2 hS1)
theorem kscallv {post : St → Prop} (S : CallFix p m c cc nL s args Ts own) (hC : KC D q cA tN s s.heap) (hP : va_P D vwCl (wsK q cA σ) H) (hB : KB σ) (hS : va_S (KA q) s.heap H locs)
    (hM : Met l y wsC rm (va_Pc As (KPre D q cA tN σ)) (va_Qv post (KPost D q cA) (KA q)) 0 0 (KA q)) (cw : CallB R s args own index y bytes maxL ret wsC rm 0 0 n ∧ (Cond.static y).before args s = true)
    (hn : As.length = n) (hsz : ls.size = nL) (hst : st0 = As.reverse ++ rest) (hrm : (rest.map fun v => v.category).sum ≤ 8) (hdg : decode cc pc = .ok (.invokestatic index, 3))
    (kk : ∀ (u : St) (H1 : Heap) (locs1 : List Loc), post u → va_P D vwCl (wsK q cA u) H1 → KB u → va_S (KA q) s.heap H1 locs1 → W p l e R s m args below meth c H1 locs1 0 0 Q (F0 m (pc + 3) ls rest)) : W p l e R s m args below meth c H locs 0 0 Q (F0 m pc ls st0) :=
  va_callv (va_runS S hM cw ⟨KPre_blind, fun U hU hW => ⟨rfl, by rw [hU]; exact hP, hB, hC.next hS hU hW.alike⟩⟩ rfl hn hsz hst (lv_room hrm) hdg ⟨Nat.zero_le _, Nat.zero_le _⟩) hS (fun _ _ h => h) (fun _ h => h) (fun u t H1 locs1 ht _ hx hb _ _ hS1 => kk u H1 locs1 hx (by rw [← ht]; exact hb.1) hb.2 hS1)
theorem kcalli {post : Int32 → St → Prop} (S : CallFix p m c cc nL s args Ts own) (hC : KC D q cA tN s s.heap) (hP : va_P D vwCl (wsK q cA σ) H) (hB : KB σ) (hS : va_S (KA q) s.heap H locs)
    (hM : Met l y wsC rm (va_Pc (.ref b :: As) (KPre D q cA tN σ)) (va_Qi post (KPost D q cA) (KA q)) 0 0 (KA q)) (cw : CallW R s args own C index y bytes maxL ret wsC rm 0 0 n) (hrv : ∃ cellB : Cell, H[b]? = some cellB ∧ cellB.vm.isStatics = false ∧ s.vm.findClass C = some cellB.cls)
    (hn : As.length = n) (hsz : ls.size = nL) (hst : st0 = As.reverse ++ .ref b :: rest) (hrm : (rest.map fun v => v.category).sum ≤ 8) (hdg : decode cc pc = .ok (.invokevirtual index, 3))
    (kk : ∀ (u : St) (r : Int32) (H1 : Heap) (locs1 : List Loc), post r u → va_P D vwCl (wsK q cA u) H1 → KB u → va_S (KA q) s.heap H1 locs1 → W p l e R s m args below meth c H1 locs1 0 0 Q (F0 m (pc + 3) ls (.int r :: rest))) : W p l e R s m args below meth c H locs 0 0 Q (F0 m pc ls st0) :=
  va_calli (va_runV S hM cw ⟨KPre_blind, hrv, fun U hU hW => ⟨rfl, by rw [hU]; exact hP, hB, hC.next hS hU hW.alike⟩⟩ rfl hn hsz hst (lv_room hrm) hdg ⟨Nat.zero_le _, Nat.zero_le _⟩) hS (fun _ _ h => h) (fun _ h => h) (fun r u t H1 locs1 ht _ hx hb _ _ hS1 => kk u r H1 locs1 hx (by rw [← ht]; exact hb.1) hb.2 hS1)
theorem kscalli {post : Int32 → St → Prop} (S : CallFix p m c cc nL s args Ts own) (hC : KC D q cA tN s s.heap) (hP : va_P D vwCl (wsK q cA σ) H) (hB : KB σ) (hS : va_S (KA q) s.heap H locs)
    (hM : Met l y wsC rm (va_Pc As (KPre D q cA tN σ)) (va_Qi post (KPost D q cA) (KA q)) 0 0 (KA q)) (cw : CallB R s args own index y bytes maxL ret wsC rm 0 0 n ∧ (Cond.static y).before args s = true)
    (hn : As.length = n) (hsz : ls.size = nL) (hst : st0 = As.reverse ++ rest) (hrm : (rest.map fun v => v.category).sum ≤ 8) (hdg : decode cc pc = .ok (.invokestatic index, 3))
    (kk : ∀ (u : St) (r : Int32) (H1 : Heap) (locs1 : List Loc), post r u → va_P D vwCl (wsK q cA u) H1 → KB u → va_S (KA q) s.heap H1 locs1 → W p l e R s m args below meth c H1 locs1 0 0 Q (F0 m (pc + 3) ls (.int r :: rest))) : W p l e R s m args below meth c H locs 0 0 Q (F0 m pc ls st0) :=
  va_calli (va_runS S hM cw ⟨KPre_blind, fun U hU hW => ⟨rfl, by rw [hU]; exact hP, hB, hC.next hS hU hW.alike⟩⟩ rfl hn hsz hst (lv_room hrm) hdg ⟨Nat.zero_le _, Nat.zero_le _⟩) hS (fun _ _ h => h) (fun _ h => h) (fun r u t H1 locs1 ht _ hx hb _ _ hS1 => kk u r H1 locs1 hx (by rw [← ht]; exact hb.1) hb.2 hS1)
theorem krv_0 (hC : KC D q cA tN s s.heap) (hP : va_P D vwCl (wsK q cA σ) H) : ∃ cellB : Cell, H[q 0]? = some cellB ∧ cellB.vm.isStatics = false ∧ s.vm.findClass RK = some cellB.cls := va_recv hC.1 hP (ci := 0) (q0 := 0) rfl rfl
theorem krv_6 (hC : KC D q cA tN s s.heap) (hP : va_P D vwCl (wsK q cA σ) H) : ∃ cellB : Cell, H[q 6]? = some cellB ∧ cellB.vm.isStatics = false ∧ s.vm.findClass RQ = some cellB.cls := va_recv hC.1 hP (ci := 1) (q0 := 6) rfl rfl
theorem krv_7 (hC : KC D q cA tN s s.heap) (hP : va_P D vwCl (wsK q cA σ) H) : ∃ cellB : Cell, H[q 7]? = some cellB ∧ cellB.vm.isStatics = false ∧ s.vm.findClass RQ = some cellB.cls := va_recv hC.1 hP (ci := 1) (q0 := 7) rfl rfl
theorem kgets (hexec : p.tables.exec = Jvm.exec) (hb : c.code = cc) (hC : KC D q cA tN s s.heap) (hS : va_S (KA q) s.heap H locs) (hown : s.vm.findClass own = some m.cls) (hlink : (Cond.fieldLink own index RK "NAMED" "[I").before args s = true) (hdg : decode cc pc = .ok (.getstatic index, 3)) (kk : W p l e R s m args below meth c H locs cells slots Q (F0 m (pc + 3) ls (.ref tN :: rest))) : W p l e R s m args below meth c H locs cells slots Q (F0 m pc ls rest) := va_gets hexec hb hC.2.2.1 hS hown hlink (fun _ h => h) hdg kk
theorem knald {i : Int32} (hexec : p.tables.exec = Jvm.exec) (hb : c.code = cc) (hC : KC D q cA tN s s.heap) (hS : va_S (KA q) s.heap H locs) (hin : vp_in i 16) (hdg : decode cc pc = .ok (.iaload, 1)) (kk : W p l e R s m args below meth c H locs cells slots Q (F0 m (pc + 1) ls (.int (named (ix i)) :: rest))) : W p l e R s m args below meth c H locs cells slots Q (F0 m pc ls (.int i :: .ref tN :: rest)) := va_ti (v := .int (named (ix i))) hexec hb hC.2.2.2 hS hin rfl hdg kk
theorem kcopy_8_9 (hexec : p.tables.exec = Jvm.exec) (hb : c.code = cc) (hml : c.maxLocals = ls.size) (hC : KC D q cA tN s s.heap) (hP : va_P D vwCl (wsK q cA σ) H) (hS : va_S (KA q) H0 H locs) (hown : s.vm.findClass own = some m.cls) (hlink : (Cond.methodLink own index arraycopyName).before args s = true) (hnat : (Cond.native arraycopyName).before args s = true) (hstat : (Cond.static arraycopyName).before args s = true) (hini : (Cond.initialized "java/lang/System").before args s = true) (hframes : 1 ≤ R.frames) (hlocals : (rest.map fun v => v.category).sum + (nativeFrameWords "java/lang/System" "arraycopy" 5 + 11) ≤ R.locals) (hdg : decode cc pc = .ok (.invokestatic index, 3)) (kk : ∀ (u : St) (H1 : Heap) (locs1 : List Loc), u = cp8 σ 8 9 → va_P D vwCl (wsK q cA u) H1 → va_S (KA q) H0 H1 locs1 → W p l e R s m args below meth c H1 locs1 cells slots Q (F0 m (pc + 3) ls rest)) : W p l e R s m args below meth c H locs cells slots Q (F0 m pc ls (.int 8 :: .int 0 :: .ref (q 9) :: .int 0 :: .ref (q 8) :: rest)) := va_copyi (f := σ 8) (g := σ 9) hexec hb hml hown hlink hnat hstat hini hC.1 hP (wsK_D σ hC.2.1) hS 8 9 0 0 rfl rfl rfl rfl rfl (by decide) (by decide) (by decide) (by decide) (by decide) (fun _ _ => rfl) hframes hlocals hdg (fun H1 l1 hP1 _ hS1 => kk _ H1 l1 rfl hP1 hS1)
theorem kcopy_9_8 (hexec : p.tables.exec = Jvm.exec) (hb : c.code = cc) (hml : c.maxLocals = ls.size) (hC : KC D q cA tN s s.heap) (hP : va_P D vwCl (wsK q cA σ) H) (hS : va_S (KA q) H0 H locs) (hown : s.vm.findClass own = some m.cls) (hlink : (Cond.methodLink own index arraycopyName).before args s = true) (hnat : (Cond.native arraycopyName).before args s = true) (hstat : (Cond.static arraycopyName).before args s = true) (hini : (Cond.initialized "java/lang/System").before args s = true) (hframes : 1 ≤ R.frames) (hlocals : (rest.map fun v => v.category).sum + (nativeFrameWords "java/lang/System" "arraycopy" 5 + 11) ≤ R.locals) (hdg : decode cc pc = .ok (.invokestatic index, 3)) (kk : ∀ (u : St) (H1 : Heap) (locs1 : List Loc), u = cp8 σ 9 8 → va_P D vwCl (wsK q cA u) H1 → va_S (KA q) H0 H1 locs1 → W p l e R s m args below meth c H1 locs1 cells slots Q (F0 m (pc + 3) ls rest)) : W p l e R s m args below meth c H locs cells slots Q (F0 m pc ls (.int 8 :: .int 0 :: .ref (q 8) :: .int 0 :: .ref (q 9) :: rest)) := va_copyi (f := σ 9) (g := σ 8) hexec hb hml hown hlink hnat hstat hini hC.1 hP (wsK_D σ hC.2.1) hS 9 8 0 0 rfl rfl rfl rfl rfl (by decide) (by decide) (by decide) (by decide) (by decide) (fun _ _ => rfl) hframes hlocals hdg (fun H1 l1 hP1 _ hS1 => kk _ H1 l1 rfl hP1 hS1)
end Kside
-- the world of the side M
def wsM (q : Nat → Nat) (cA : ClassId) (σ : St) : va_W := [(q 0, .inr (2, [.ref (q 1), .ref (q 2), .ref (q 3), .ref (q 4), .int (σ 0 4), .int (σ 0 5), .int (σ 0 6), .int (σ 0 7), .ref (q 5), .ref (q 6), .int (σ 0 10), .int (σ 0 11), .int (σ 0 12), .int (σ 0 13), .int (σ 0 14)])), (q 1, .inl (cA, 256, .inl (σ 1))), (q 2, .inl (cA, 4, .inl (σ 2))), (q 3, .inl (cA, 4, .inl (σ 3))), (q 4, .inl (cA, 4, .inl (σ 4))), (q 5, .inl (cA, 12, .inl (σ 5))), (q 6, .inl (cA, 12, .inl (σ 6)))]
def MA (q : Nat → Nat) : Nat → Prop := fun a => ∃ k, k < 7 ∧ a = q k
def MB (σ : St) : Prop := zb (σ 0 4)
theorem MB_0_4 {σ : St} (h : MB σ) : zb (σ 0 4) := h
theorem MB_0_4s {σ : St} {v : Int32} (h : MB σ) (hv : zb v) : MB (up2 σ 0 4 v) := hv
def MC (D : va_G) (q : Nat → Nat) (cA : ClassId) (U : State) (H : Heap) : Prop := va_K D vwCl [(cA, .int)] U ∧ (∀ i j, i < 7 → j < 7 → q i = q j → i = j)
def MPre (D : va_G) (q : Nat → Nat) (cA : ClassId) (σ : St) : State → Prop := fun U => va_P D vwCl (wsM q cA σ) U.heap ∧ MB σ ∧ MC D q cA U U.heap
def MPost (D : va_G) (q : Nat → Nat) (cA : ClassId) : St → State → Prop := fun u t => va_P D vwCl (wsM q cA u) t.heap ∧ MB u
theorem MC.next {D : va_G} {q : Nat → Nat} {cA : ClassId} {s U : State} {H : Heap} {locs : List Loc} (h : MC D q cA s s.heap) (_ : va_S (MA q) s.heap H locs) (_ : U.heap = H) (hW : s.vm.Alike U.vm) : MC D q cA U U.heap := ⟨va_K.moved hW h.1, h.2⟩
theorem MPre_blind {D : va_G} {q : Nat → Nat} {cA : ClassId} {σ : St} {av : List Value} : FrameBlind (va_Pc av (MPre D q cA σ)) := fun a U g mk h => ⟨h.1, h.2.1, h.2.2.1, ⟨va_K.moved (u := U) (U := U.calling g mk a) (Vm.Alike.refl U.vm) h.2.2.2.1, h.2.2.2.2⟩⟩
theorem wsM_at {q : Nat → Nat} {cA : ClassId} {σ : St} : ∀ (i : Nat) (p : Nat × va_E), (wsM q cA σ)[i]? = some p → i < 7 ∧ p.1 = q i := by
  intro i p h
  match i, h with
  | 0, h => cases h; exact ⟨by decide, rfl⟩
  | 1, h => cases h; exact ⟨by decide, rfl⟩
  | 2, h => cases h; exact ⟨by decide, rfl⟩
  | 3, h => cases h; exact ⟨by decide, rfl⟩
  | 4, h => cases h; exact ⟨by decide, rfl⟩
  | 5, h => cases h; exact ⟨by decide, rfl⟩
  | 6, h => cases h; exact ⟨by decide, rfl⟩
  | i + 7, h => simp [wsM] at h
theorem wsM_D {q : Nat → Nat} {cA : ClassId} (σ : St) (hq : ∀ i j, i < 7 → j < 7 → q i = q j → i = j) : va_D (MA q) (wsM q cA σ) := by
  refine ⟨fun i j a b ha hb hab => ?_, fun k a ha => ?_⟩
  · obtain ⟨h1, h2⟩ := wsM_at i a ha
    obtain ⟨h3, h4⟩ := wsM_at j b hb
    exact hq i j h1 h3 (by rw [← h2, ← h4]; exact hab)
  · obtain ⟨h1, h2⟩ := wsM_at k a ha
    exact ⟨k, h1, h2⟩
section Mside
variable {p : Program} {l : Launch} {e : Env} {R : Room} {s : State} {m : MethodId} {args : Array Value} {below : List Frame} {meth : Method} {c : Code} {H H0 : Heap} {locs : List Loc} {cells slots : Nat} {Q : State → Prop}
variable {cc bytes : ByteArray} {pc nL maxL n index : Nat} {ls : Array Slot} {rest : List Value} {D : va_G} {q : Nat → Nat} {cA : ClassId} {σ : St} {Ts wsC : List Cond} {own C : String} {y : MethodName} {ret : Option FieldType} {rm : Room} {As st0 : List Value} {b : Addr}
theorem mget_0_0 (hexec : p.tables.exec = Jvm.exec) (hb : c.code = cc) (hts : ∀ w ∈ Ts, w.before args s = true) (hin : ∀ w ∈ u_ws RM TM 15, w ∈ Ts) (hown : s.vm.findClass own = some m.cls) (hC : MC D q cA s s.heap) (hP : va_P D vwCl (wsM q cA σ) H) (hlink : (Cond.fieldLink own index "TwoWorldsModel" "memory" "[I").before args s = true) (hdg : decode cc pc = .ok (.getfield index, 3)) (kk : W p l e R s m args below meth c H locs cells slots Q (F0 m (pc + 3) ls (.ref (q 1) :: rest))) : W p l e R s m args below meth c H locs cells slots Q (F0 m pc ls (.ref (q 0) :: rest)) := va_get hexec hb hts hin hown hC.1 hP 0 rfl rfl 0 (by decide) hlink (fun _ h => h) rfl hdg kk
theorem mget_0_1 (hexec : p.tables.exec = Jvm.exec) (hb : c.code = cc) (hts : ∀ w ∈ Ts, w.before args s = true) (hin : ∀ w ∈ u_ws RM TM 15, w ∈ Ts) (hown : s.vm.findClass own = some m.cls) (hC : MC D q cA s s.heap) (hP : va_P D vwCl (wsM q cA σ) H) (hlink : (Cond.fieldLink own index "TwoWorldsModel" "first" "[I").before args s = true) (hdg : decode cc pc = .ok (.getfield index, 3)) (kk : W p l e R s m args below meth c H locs cells slots Q (F0 m (pc + 3) ls (.ref (q 2) :: rest))) : W p l e R s m args below meth c H locs cells slots Q (F0 m pc ls (.ref (q 0) :: rest)) := va_get hexec hb hts hin hown hC.1 hP 0 rfl rfl 1 (by decide) hlink (fun _ h => h) rfl hdg kk
theorem mget_0_2 (hexec : p.tables.exec = Jvm.exec) (hb : c.code = cc) (hts : ∀ w ∈ Ts, w.before args s = true) (hin : ∀ w ∈ u_ws RM TM 15, w ∈ Ts) (hown : s.vm.findClass own = some m.cls) (hC : MC D q cA s s.heap) (hP : va_P D vwCl (wsM q cA σ) H) (hlink : (Cond.fieldLink own index "TwoWorldsModel" "last" "[I").before args s = true) (hdg : decode cc pc = .ok (.getfield index, 3)) (kk : W p l e R s m args below meth c H locs cells slots Q (F0 m (pc + 3) ls (.ref (q 3) :: rest))) : W p l e R s m args below meth c H locs cells slots Q (F0 m pc ls (.ref (q 0) :: rest)) := va_get hexec hb hts hin hown hC.1 hP 0 rfl rfl 2 (by decide) hlink (fun _ h => h) rfl hdg kk
theorem mget_0_3 (hexec : p.tables.exec = Jvm.exec) (hb : c.code = cc) (hts : ∀ w ∈ Ts, w.before args s = true) (hin : ∀ w ∈ u_ws RM TM 15, w ∈ Ts) (hown : s.vm.findClass own = some m.cls) (hC : MC D q cA s s.heap) (hP : va_P D vwCl (wsM q cA σ) H) (hlink : (Cond.fieldLink own index "TwoWorldsModel" "kinds" "[I").before args s = true) (hdg : decode cc pc = .ok (.getfield index, 3)) (kk : W p l e R s m args below meth c H locs cells slots Q (F0 m (pc + 3) ls (.ref (q 4) :: rest))) : W p l e R s m args below meth c H locs cells slots Q (F0 m pc ls (.ref (q 0) :: rest)) := va_get hexec hb hts hin hown hC.1 hP 0 rfl rfl 3 (by decide) hlink (fun _ h => h) rfl hdg kk
theorem mget_0_4 (hexec : p.tables.exec = Jvm.exec) (hb : c.code = cc) (hts : ∀ w ∈ Ts, w.before args s = true) (hin : ∀ w ∈ u_ws RM TM 15, w ∈ Ts) (hown : s.vm.findClass own = some m.cls) (hC : MC D q cA s s.heap) (hP : va_P D vwCl (wsM q cA σ) H) (hlink : (Cond.fieldLink own index "TwoWorldsModel" "enabled" "Z").before args s = true) (hdg : decode cc pc = .ok (.getfield index, 3)) (kk : W p l e R s m args below meth c H locs cells slots Q (F0 m (pc + 3) ls (.int (σ 0 4) :: rest))) : W p l e R s m args below meth c H locs cells slots Q (F0 m pc ls (.ref (q 0) :: rest)) := va_get hexec hb hts hin hown hC.1 hP 0 rfl rfl 4 (by decide) hlink (fun _ h => h) rfl hdg kk
theorem mput_0_4 {v : Int32} (hexec : p.tables.exec = Jvm.exec) (hb : c.code = cc) (hts : ∀ w ∈ Ts, w.before args s = true) (hin : ∀ w ∈ u_ws RM TM 15, w ∈ Ts) (hown : s.vm.findClass own = some m.cls) (hC : MC D q cA s s.heap) (hP : va_P D vwCl (wsM q cA σ) H) (hlink : (Cond.fieldLink own index "TwoWorldsModel" "enabled" "Z").before args s = true) (hS : va_S (MA q) H0 H locs) (hz : zb v) (hdg : decode cc pc = .ok (.putfield index, 3)) (kk : ∀ (u : St) (H1 : Heap) (locs1 : List Loc), u = up2 σ 0 4 v → va_P D vwCl (wsM q cA u) H1 → va_S (MA q) H0 H1 locs1 → W p l e R s m args below meth c H1 locs1 cells slots Q (F0 m (pc + 3) ls rest)) : W p l e R s m args below meth c H locs cells slots Q (F0 m pc ls (.int v :: .ref (q 0) :: rest)) := va_put (ty := .boolean) (v := .int v) hexec hb hts hin tyM tyM_ok nmM hown hC.1 hP (wsM_D σ hC.2) hS 0 rfl rfl 4 (by decide) hlink (fun _ h => h) rfl (by decide +kernel) (zb_n hz).1 (zb_n hz).2 (Nat.le_of_ble_eq_true rfl) hdg (fun H1 l1 hP1 _ hS1 => kk _ H1 l1 rfl hP1 hS1)
theorem mget_0_5 (hexec : p.tables.exec = Jvm.exec) (hb : c.code = cc) (hts : ∀ w ∈ Ts, w.before args s = true) (hin : ∀ w ∈ u_ws RM TM 15, w ∈ Ts) (hown : s.vm.findClass own = some m.cls) (hC : MC D q cA s s.heap) (hP : va_P D vwCl (wsM q cA σ) H) (hlink : (Cond.fieldLink own index "TwoWorldsModel" "closedOnes" "I").before args s = true) (hdg : decode cc pc = .ok (.getfield index, 3)) (kk : W p l e R s m args below meth c H locs cells slots Q (F0 m (pc + 3) ls (.int (σ 0 5) :: rest))) : W p l e R s m args below meth c H locs cells slots Q (F0 m pc ls (.ref (q 0) :: rest)) := va_get hexec hb hts hin hown hC.1 hP 0 rfl rfl 5 (by decide) hlink (fun _ h => h) rfl hdg kk
theorem mput_0_5 {v : Int32} (hexec : p.tables.exec = Jvm.exec) (hb : c.code = cc) (hts : ∀ w ∈ Ts, w.before args s = true) (hin : ∀ w ∈ u_ws RM TM 15, w ∈ Ts) (hown : s.vm.findClass own = some m.cls) (hC : MC D q cA s s.heap) (hP : va_P D vwCl (wsM q cA σ) H) (hlink : (Cond.fieldLink own index "TwoWorldsModel" "closedOnes" "I").before args s = true) (hS : va_S (MA q) H0 H locs) (hdg : decode cc pc = .ok (.putfield index, 3)) (kk : ∀ (u : St) (H1 : Heap) (locs1 : List Loc), u = up2 σ 0 5 v → va_P D vwCl (wsM q cA u) H1 → va_S (MA q) H0 H1 locs1 → W p l e R s m args below meth c H1 locs1 cells slots Q (F0 m (pc + 3) ls rest)) : W p l e R s m args below meth c H locs cells slots Q (F0 m pc ls (.int v :: .ref (q 0) :: rest)) := va_put (ty := .int) (v := .int v) hexec hb hts hin tyM tyM_ok nmM hown hC.1 hP (wsM_D σ hC.2) hS 0 rfl rfl 5 (by decide) hlink (fun _ h => h) rfl (by decide +kernel) rfl rfl (Nat.le_of_ble_eq_true rfl) hdg (fun H1 l1 hP1 _ hS1 => kk _ H1 l1 rfl hP1 hS1)
theorem mget_0_6 (hexec : p.tables.exec = Jvm.exec) (hb : c.code = cc) (hts : ∀ w ∈ Ts, w.before args s = true) (hin : ∀ w ∈ u_ws RM TM 15, w ∈ Ts) (hown : s.vm.findClass own = some m.cls) (hC : MC D q cA s s.heap) (hP : va_P D vwCl (wsM q cA σ) H) (hlink : (Cond.fieldLink own index "TwoWorldsModel" "closedBase" "I").before args s = true) (hdg : decode cc pc = .ok (.getfield index, 3)) (kk : W p l e R s m args below meth c H locs cells slots Q (F0 m (pc + 3) ls (.int (σ 0 6) :: rest))) : W p l e R s m args below meth c H locs cells slots Q (F0 m pc ls (.ref (q 0) :: rest)) := va_get hexec hb hts hin hown hC.1 hP 0 rfl rfl 6 (by decide) hlink (fun _ h => h) rfl hdg kk
theorem mput_0_6 {v : Int32} (hexec : p.tables.exec = Jvm.exec) (hb : c.code = cc) (hts : ∀ w ∈ Ts, w.before args s = true) (hin : ∀ w ∈ u_ws RM TM 15, w ∈ Ts) (hown : s.vm.findClass own = some m.cls) (hC : MC D q cA s s.heap) (hP : va_P D vwCl (wsM q cA σ) H) (hlink : (Cond.fieldLink own index "TwoWorldsModel" "closedBase" "I").before args s = true) (hS : va_S (MA q) H0 H locs) (hdg : decode cc pc = .ok (.putfield index, 3)) (kk : ∀ (u : St) (H1 : Heap) (locs1 : List Loc), u = up2 σ 0 6 v → va_P D vwCl (wsM q cA u) H1 → va_S (MA q) H0 H1 locs1 → W p l e R s m args below meth c H1 locs1 cells slots Q (F0 m (pc + 3) ls rest)) : W p l e R s m args below meth c H locs cells slots Q (F0 m pc ls (.int v :: .ref (q 0) :: rest)) := va_put (ty := .int) (v := .int v) hexec hb hts hin tyM tyM_ok nmM hown hC.1 hP (wsM_D σ hC.2) hS 0 rfl rfl 6 (by decide) hlink (fun _ h => h) rfl (by decide +kernel) rfl rfl (Nat.le_of_ble_eq_true rfl) hdg (fun H1 l1 hP1 _ hS1 => kk _ H1 l1 rfl hP1 hS1)
theorem mget_0_7 (hexec : p.tables.exec = Jvm.exec) (hb : c.code = cc) (hts : ∀ w ∈ Ts, w.before args s = true) (hin : ∀ w ∈ u_ws RM TM 15, w ∈ Ts) (hown : s.vm.findClass own = some m.cls) (hC : MC D q cA s s.heap) (hP : va_P D vwCl (wsM q cA σ) H) (hlink : (Cond.fieldLink own index "TwoWorldsModel" "openBase" "I").before args s = true) (hdg : decode cc pc = .ok (.getfield index, 3)) (kk : W p l e R s m args below meth c H locs cells slots Q (F0 m (pc + 3) ls (.int (σ 0 7) :: rest))) : W p l e R s m args below meth c H locs cells slots Q (F0 m pc ls (.ref (q 0) :: rest)) := va_get hexec hb hts hin hown hC.1 hP 0 rfl rfl 7 (by decide) hlink (fun _ h => h) rfl hdg kk
theorem mput_0_7 {v : Int32} (hexec : p.tables.exec = Jvm.exec) (hb : c.code = cc) (hts : ∀ w ∈ Ts, w.before args s = true) (hin : ∀ w ∈ u_ws RM TM 15, w ∈ Ts) (hown : s.vm.findClass own = some m.cls) (hC : MC D q cA s s.heap) (hP : va_P D vwCl (wsM q cA σ) H) (hlink : (Cond.fieldLink own index "TwoWorldsModel" "openBase" "I").before args s = true) (hS : va_S (MA q) H0 H locs) (hdg : decode cc pc = .ok (.putfield index, 3)) (kk : ∀ (u : St) (H1 : Heap) (locs1 : List Loc), u = up2 σ 0 7 v → va_P D vwCl (wsM q cA u) H1 → va_S (MA q) H0 H1 locs1 → W p l e R s m args below meth c H1 locs1 cells slots Q (F0 m (pc + 3) ls rest)) : W p l e R s m args below meth c H locs cells slots Q (F0 m pc ls (.int v :: .ref (q 0) :: rest)) := va_put (ty := .int) (v := .int v) hexec hb hts hin tyM tyM_ok nmM hown hC.1 hP (wsM_D σ hC.2) hS 0 rfl rfl 7 (by decide) hlink (fun _ h => h) rfl (by decide +kernel) rfl rfl (Nat.le_of_ble_eq_true rfl) hdg (fun H1 l1 hP1 _ hS1 => kk _ H1 l1 rfl hP1 hS1)
theorem mget_0_8 (hexec : p.tables.exec = Jvm.exec) (hb : c.code = cc) (hts : ∀ w ∈ Ts, w.before args s = true) (hin : ∀ w ∈ u_ws RM TM 15, w ∈ Ts) (hown : s.vm.findClass own = some m.cls) (hC : MC D q cA s s.heap) (hP : va_P D vwCl (wsM q cA σ) H) (hlink : (Cond.fieldLink own index "TwoWorldsModel" "\x72" "[I").before args s = true) (hdg : decode cc pc = .ok (.getfield index, 3)) (kk : W p l e R s m args below meth c H locs cells slots Q (F0 m (pc + 3) ls (.ref (q 5) :: rest))) : W p l e R s m args below meth c H locs cells slots Q (F0 m pc ls (.ref (q 0) :: rest)) := va_get hexec hb hts hin hown hC.1 hP 0 rfl rfl 8 (by decide) hlink (fun _ h => h) rfl hdg kk
theorem mget_0_9 (hexec : p.tables.exec = Jvm.exec) (hb : c.code = cc) (hts : ∀ w ∈ Ts, w.before args s = true) (hin : ∀ w ∈ u_ws RM TM 15, w ∈ Ts) (hown : s.vm.findClass own = some m.cls) (hC : MC D q cA s s.heap) (hP : va_P D vwCl (wsM q cA σ) H) (hlink : (Cond.fieldLink own index "TwoWorldsModel" "kept" "[I").before args s = true) (hdg : decode cc pc = .ok (.getfield index, 3)) (kk : W p l e R s m args below meth c H locs cells slots Q (F0 m (pc + 3) ls (.ref (q 6) :: rest))) : W p l e R s m args below meth c H locs cells slots Q (F0 m pc ls (.ref (q 0) :: rest)) := va_get hexec hb hts hin hown hC.1 hP 0 rfl rfl 9 (by decide) hlink (fun _ h => h) rfl hdg kk
theorem mget_0_10 (hexec : p.tables.exec = Jvm.exec) (hb : c.code = cc) (hts : ∀ w ∈ Ts, w.before args s = true) (hin : ∀ w ∈ u_ws RM TM 15, w ∈ Ts) (hown : s.vm.findClass own = some m.cls) (hC : MC D q cA s s.heap) (hP : va_P D vwCl (wsM q cA σ) H) (hlink : (Cond.fieldLink own index "TwoWorldsModel" "active" "I").before args s = true) (hdg : decode cc pc = .ok (.getfield index, 3)) (kk : W p l e R s m args below meth c H locs cells slots Q (F0 m (pc + 3) ls (.int (σ 0 10) :: rest))) : W p l e R s m args below meth c H locs cells slots Q (F0 m pc ls (.ref (q 0) :: rest)) := va_get hexec hb hts hin hown hC.1 hP 0 rfl rfl 10 (by decide) hlink (fun _ h => h) rfl hdg kk
theorem mput_0_10 {v : Int32} (hexec : p.tables.exec = Jvm.exec) (hb : c.code = cc) (hts : ∀ w ∈ Ts, w.before args s = true) (hin : ∀ w ∈ u_ws RM TM 15, w ∈ Ts) (hown : s.vm.findClass own = some m.cls) (hC : MC D q cA s s.heap) (hP : va_P D vwCl (wsM q cA σ) H) (hlink : (Cond.fieldLink own index "TwoWorldsModel" "active" "I").before args s = true) (hS : va_S (MA q) H0 H locs) (hdg : decode cc pc = .ok (.putfield index, 3)) (kk : ∀ (u : St) (H1 : Heap) (locs1 : List Loc), u = up2 σ 0 10 v → va_P D vwCl (wsM q cA u) H1 → va_S (MA q) H0 H1 locs1 → W p l e R s m args below meth c H1 locs1 cells slots Q (F0 m (pc + 3) ls rest)) : W p l e R s m args below meth c H locs cells slots Q (F0 m pc ls (.int v :: .ref (q 0) :: rest)) := va_put (ty := .int) (v := .int v) hexec hb hts hin tyM tyM_ok nmM hown hC.1 hP (wsM_D σ hC.2) hS 0 rfl rfl 10 (by decide) hlink (fun _ h => h) rfl (by decide +kernel) rfl rfl (Nat.le_of_ble_eq_true rfl) hdg (fun H1 l1 hP1 _ hS1 => kk _ H1 l1 rfl hP1 hS1)
theorem mget_0_11 (hexec : p.tables.exec = Jvm.exec) (hb : c.code = cc) (hts : ∀ w ∈ Ts, w.before args s = true) (hin : ∀ w ∈ u_ws RM TM 15, w ∈ Ts) (hown : s.vm.findClass own = some m.cls) (hC : MC D q cA s s.heap) (hP : va_P D vwCl (wsM q cA σ) H) (hlink : (Cond.fieldLink own index "TwoWorldsModel" "state" "I").before args s = true) (hdg : decode cc pc = .ok (.getfield index, 3)) (kk : W p l e R s m args below meth c H locs cells slots Q (F0 m (pc + 3) ls (.int (σ 0 11) :: rest))) : W p l e R s m args below meth c H locs cells slots Q (F0 m pc ls (.ref (q 0) :: rest)) := va_get hexec hb hts hin hown hC.1 hP 0 rfl rfl 11 (by decide) hlink (fun _ h => h) rfl hdg kk
theorem mput_0_11 {v : Int32} (hexec : p.tables.exec = Jvm.exec) (hb : c.code = cc) (hts : ∀ w ∈ Ts, w.before args s = true) (hin : ∀ w ∈ u_ws RM TM 15, w ∈ Ts) (hown : s.vm.findClass own = some m.cls) (hC : MC D q cA s s.heap) (hP : va_P D vwCl (wsM q cA σ) H) (hlink : (Cond.fieldLink own index "TwoWorldsModel" "state" "I").before args s = true) (hS : va_S (MA q) H0 H locs) (hdg : decode cc pc = .ok (.putfield index, 3)) (kk : ∀ (u : St) (H1 : Heap) (locs1 : List Loc), u = up2 σ 0 11 v → va_P D vwCl (wsM q cA u) H1 → va_S (MA q) H0 H1 locs1 → W p l e R s m args below meth c H1 locs1 cells slots Q (F0 m (pc + 3) ls rest)) : W p l e R s m args below meth c H locs cells slots Q (F0 m pc ls (.int v :: .ref (q 0) :: rest)) := va_put (ty := .int) (v := .int v) hexec hb hts hin tyM tyM_ok nmM hown hC.1 hP (wsM_D σ hC.2) hS 0 rfl rfl 11 (by decide) hlink (fun _ h => h) rfl (by decide +kernel) rfl rfl (Nat.le_of_ble_eq_true rfl) hdg (fun H1 l1 hP1 _ hS1 => kk _ H1 l1 rfl hP1 hS1)
theorem mget_0_12 (hexec : p.tables.exec = Jvm.exec) (hb : c.code = cc) (hts : ∀ w ∈ Ts, w.before args s = true) (hin : ∀ w ∈ u_ws RM TM 15, w ∈ Ts) (hown : s.vm.findClass own = some m.cls) (hC : MC D q cA s s.heap) (hP : va_P D vwCl (wsM q cA σ) H) (hlink : (Cond.fieldLink own index "TwoWorldsModel" "pending" "I").before args s = true) (hdg : decode cc pc = .ok (.getfield index, 3)) (kk : W p l e R s m args below meth c H locs cells slots Q (F0 m (pc + 3) ls (.int (σ 0 12) :: rest))) : W p l e R s m args below meth c H locs cells slots Q (F0 m pc ls (.ref (q 0) :: rest)) := va_get hexec hb hts hin hown hC.1 hP 0 rfl rfl 12 (by decide) hlink (fun _ h => h) rfl hdg kk
theorem mput_0_12 {v : Int32} (hexec : p.tables.exec = Jvm.exec) (hb : c.code = cc) (hts : ∀ w ∈ Ts, w.before args s = true) (hin : ∀ w ∈ u_ws RM TM 15, w ∈ Ts) (hown : s.vm.findClass own = some m.cls) (hC : MC D q cA s s.heap) (hP : va_P D vwCl (wsM q cA σ) H) (hlink : (Cond.fieldLink own index "TwoWorldsModel" "pending" "I").before args s = true) (hS : va_S (MA q) H0 H locs) (hdg : decode cc pc = .ok (.putfield index, 3)) (kk : ∀ (u : St) (H1 : Heap) (locs1 : List Loc), u = up2 σ 0 12 v → va_P D vwCl (wsM q cA u) H1 → va_S (MA q) H0 H1 locs1 → W p l e R s m args below meth c H1 locs1 cells slots Q (F0 m (pc + 3) ls rest)) : W p l e R s m args below meth c H locs cells slots Q (F0 m pc ls (.int v :: .ref (q 0) :: rest)) := va_put (ty := .int) (v := .int v) hexec hb hts hin tyM tyM_ok nmM hown hC.1 hP (wsM_D σ hC.2) hS 0 rfl rfl 12 (by decide) hlink (fun _ h => h) rfl (by decide +kernel) rfl rfl (Nat.le_of_ble_eq_true rfl) hdg (fun H1 l1 hP1 _ hS1 => kk _ H1 l1 rfl hP1 hS1)
theorem mget_0_13 (hexec : p.tables.exec = Jvm.exec) (hb : c.code = cc) (hts : ∀ w ∈ Ts, w.before args s = true) (hin : ∀ w ∈ u_ws RM TM 15, w ∈ Ts) (hown : s.vm.findClass own = some m.cls) (hC : MC D q cA s s.heap) (hP : va_P D vwCl (wsM q cA σ) H) (hlink : (Cond.fieldLink own index "TwoWorldsModel" "latest" "I").before args s = true) (hdg : decode cc pc = .ok (.getfield index, 3)) (kk : W p l e R s m args below meth c H locs cells slots Q (F0 m (pc + 3) ls (.int (σ 0 13) :: rest))) : W p l e R s m args below meth c H locs cells slots Q (F0 m pc ls (.ref (q 0) :: rest)) := va_get hexec hb hts hin hown hC.1 hP 0 rfl rfl 13 (by decide) hlink (fun _ h => h) rfl hdg kk
theorem mput_0_13 {v : Int32} (hexec : p.tables.exec = Jvm.exec) (hb : c.code = cc) (hts : ∀ w ∈ Ts, w.before args s = true) (hin : ∀ w ∈ u_ws RM TM 15, w ∈ Ts) (hown : s.vm.findClass own = some m.cls) (hC : MC D q cA s s.heap) (hP : va_P D vwCl (wsM q cA σ) H) (hlink : (Cond.fieldLink own index "TwoWorldsModel" "latest" "I").before args s = true) (hS : va_S (MA q) H0 H locs) (hdg : decode cc pc = .ok (.putfield index, 3)) (kk : ∀ (u : St) (H1 : Heap) (locs1 : List Loc), u = up2 σ 0 13 v → va_P D vwCl (wsM q cA u) H1 → va_S (MA q) H0 H1 locs1 → W p l e R s m args below meth c H1 locs1 cells slots Q (F0 m (pc + 3) ls rest)) : W p l e R s m args below meth c H locs cells slots Q (F0 m pc ls (.int v :: .ref (q 0) :: rest)) := va_put (ty := .int) (v := .int v) hexec hb hts hin tyM tyM_ok nmM hown hC.1 hP (wsM_D σ hC.2) hS 0 rfl rfl 13 (by decide) hlink (fun _ h => h) rfl (by decide +kernel) rfl rfl (Nat.le_of_ble_eq_true rfl) hdg (fun H1 l1 hP1 _ hS1 => kk _ H1 l1 rfl hP1 hS1)
theorem mget_0_14 (hexec : p.tables.exec = Jvm.exec) (hb : c.code = cc) (hts : ∀ w ∈ Ts, w.before args s = true) (hin : ∀ w ∈ u_ws RM TM 15, w ∈ Ts) (hown : s.vm.findClass own = some m.cls) (hC : MC D q cA s s.heap) (hP : va_P D vwCl (wsM q cA σ) H) (hlink : (Cond.fieldLink own index "TwoWorldsModel" "against" "I").before args s = true) (hdg : decode cc pc = .ok (.getfield index, 3)) (kk : W p l e R s m args below meth c H locs cells slots Q (F0 m (pc + 3) ls (.int (σ 0 14) :: rest))) : W p l e R s m args below meth c H locs cells slots Q (F0 m pc ls (.ref (q 0) :: rest)) := va_get hexec hb hts hin hown hC.1 hP 0 rfl rfl 14 (by decide) hlink (fun _ h => h) rfl hdg kk
theorem mput_0_14 {v : Int32} (hexec : p.tables.exec = Jvm.exec) (hb : c.code = cc) (hts : ∀ w ∈ Ts, w.before args s = true) (hin : ∀ w ∈ u_ws RM TM 15, w ∈ Ts) (hown : s.vm.findClass own = some m.cls) (hC : MC D q cA s s.heap) (hP : va_P D vwCl (wsM q cA σ) H) (hlink : (Cond.fieldLink own index "TwoWorldsModel" "against" "I").before args s = true) (hS : va_S (MA q) H0 H locs) (hdg : decode cc pc = .ok (.putfield index, 3)) (kk : ∀ (u : St) (H1 : Heap) (locs1 : List Loc), u = up2 σ 0 14 v → va_P D vwCl (wsM q cA u) H1 → va_S (MA q) H0 H1 locs1 → W p l e R s m args below meth c H1 locs1 cells slots Q (F0 m (pc + 3) ls rest)) : W p l e R s m args below meth c H locs cells slots Q (F0 m pc ls (.int v :: .ref (q 0) :: rest)) := va_put (ty := .int) (v := .int v) hexec hb hts hin tyM tyM_ok nmM hown hC.1 hP (wsM_D σ hC.2) hS 0 rfl rfl 14 (by decide) hlink (fun _ h => h) rfl (by decide +kernel) rfl rfl (Nat.le_of_ble_eq_true rfl) hdg (fun H1 l1 hP1 _ hS1 => kk _ H1 l1 rfl hP1 hS1)
theorem mald_1 {i : Int32} (hexec : p.tables.exec = Jvm.exec) (hb : c.code = cc) (hC : MC D q cA s s.heap) (hP : va_P D vwCl (wsM q cA σ) H) (hin : vp_in i 256) (hdg : decode cc pc = .ok (.iaload, 1)) (kk : W p l e R s m args below meth c H locs cells slots Q (F0 m (pc + 1) ls (.int (σ 1 (ix i)) :: rest))) : W p l e R s m args below meth c H locs cells slots Q (F0 m pc ls (.int i :: .ref (q 1) :: rest)) := va_iald hexec hb hC.1 hP 1 0 (n := 256) (f := σ 1) rfl rfl hin hdg kk
theorem mast_1 {i v : Int32} (hexec : p.tables.exec = Jvm.exec) (hb : c.code = cc) (hC : MC D q cA s s.heap) (hP : va_P D vwCl (wsM q cA σ) H) (hS : va_S (MA q) H0 H locs) (hin : vp_in i 256) (hdg : decode cc pc = .ok (.iastore, 1)) (kk : ∀ (u : St) (H1 : Heap) (locs1 : List Loc), u = up2 σ 1 (ix i) v → va_P D vwCl (wsM q cA u) H1 → va_S (MA q) H0 H1 locs1 → W p l e R s m args below meth c H1 locs1 cells slots Q (F0 m (pc + 1) ls rest)) : W p l e R s m args below meth c H locs cells slots Q (F0 m pc ls (.int v :: .int i :: .ref (q 1) :: rest)) := va_iast hexec hb hC.1 hP (wsM_D σ hC.2) hS 1 0 (n := 256) (f := σ 1) rfl rfl hin hdg (fun H1 l1 hP1 _ hS1 => kk _ H1 l1 rfl hP1 hS1)
theorem mald_2 {i : Int32} (hexec : p.tables.exec = Jvm.exec) (hb : c.code = cc) (hC : MC D q cA s s.heap) (hP : va_P D vwCl (wsM q cA σ) H) (hin : vp_in i 4) (hdg : decode cc pc = .ok (.iaload, 1)) (kk : W p l e R s m args below meth c H locs cells slots Q (F0 m (pc + 1) ls (.int (σ 2 (ix i)) :: rest))) : W p l e R s m args below meth c H locs cells slots Q (F0 m pc ls (.int i :: .ref (q 2) :: rest)) := va_iald hexec hb hC.1 hP 2 0 (n := 4) (f := σ 2) rfl rfl hin hdg kk
theorem mast_2 {i v : Int32} (hexec : p.tables.exec = Jvm.exec) (hb : c.code = cc) (hC : MC D q cA s s.heap) (hP : va_P D vwCl (wsM q cA σ) H) (hS : va_S (MA q) H0 H locs) (hin : vp_in i 4) (hdg : decode cc pc = .ok (.iastore, 1)) (kk : ∀ (u : St) (H1 : Heap) (locs1 : List Loc), u = up2 σ 2 (ix i) v → va_P D vwCl (wsM q cA u) H1 → va_S (MA q) H0 H1 locs1 → W p l e R s m args below meth c H1 locs1 cells slots Q (F0 m (pc + 1) ls rest)) : W p l e R s m args below meth c H locs cells slots Q (F0 m pc ls (.int v :: .int i :: .ref (q 2) :: rest)) := va_iast hexec hb hC.1 hP (wsM_D σ hC.2) hS 2 0 (n := 4) (f := σ 2) rfl rfl hin hdg (fun H1 l1 hP1 _ hS1 => kk _ H1 l1 rfl hP1 hS1)
theorem mald_3 {i : Int32} (hexec : p.tables.exec = Jvm.exec) (hb : c.code = cc) (hC : MC D q cA s s.heap) (hP : va_P D vwCl (wsM q cA σ) H) (hin : vp_in i 4) (hdg : decode cc pc = .ok (.iaload, 1)) (kk : W p l e R s m args below meth c H locs cells slots Q (F0 m (pc + 1) ls (.int (σ 3 (ix i)) :: rest))) : W p l e R s m args below meth c H locs cells slots Q (F0 m pc ls (.int i :: .ref (q 3) :: rest)) := va_iald hexec hb hC.1 hP 3 0 (n := 4) (f := σ 3) rfl rfl hin hdg kk
theorem mast_3 {i v : Int32} (hexec : p.tables.exec = Jvm.exec) (hb : c.code = cc) (hC : MC D q cA s s.heap) (hP : va_P D vwCl (wsM q cA σ) H) (hS : va_S (MA q) H0 H locs) (hin : vp_in i 4) (hdg : decode cc pc = .ok (.iastore, 1)) (kk : ∀ (u : St) (H1 : Heap) (locs1 : List Loc), u = up2 σ 3 (ix i) v → va_P D vwCl (wsM q cA u) H1 → va_S (MA q) H0 H1 locs1 → W p l e R s m args below meth c H1 locs1 cells slots Q (F0 m (pc + 1) ls rest)) : W p l e R s m args below meth c H locs cells slots Q (F0 m pc ls (.int v :: .int i :: .ref (q 3) :: rest)) := va_iast hexec hb hC.1 hP (wsM_D σ hC.2) hS 3 0 (n := 4) (f := σ 3) rfl rfl hin hdg (fun H1 l1 hP1 _ hS1 => kk _ H1 l1 rfl hP1 hS1)
theorem mald_4 {i : Int32} (hexec : p.tables.exec = Jvm.exec) (hb : c.code = cc) (hC : MC D q cA s s.heap) (hP : va_P D vwCl (wsM q cA σ) H) (hin : vp_in i 4) (hdg : decode cc pc = .ok (.iaload, 1)) (kk : W p l e R s m args below meth c H locs cells slots Q (F0 m (pc + 1) ls (.int (σ 4 (ix i)) :: rest))) : W p l e R s m args below meth c H locs cells slots Q (F0 m pc ls (.int i :: .ref (q 4) :: rest)) := va_iald hexec hb hC.1 hP 4 0 (n := 4) (f := σ 4) rfl rfl hin hdg kk
theorem mast_4 {i v : Int32} (hexec : p.tables.exec = Jvm.exec) (hb : c.code = cc) (hC : MC D q cA s s.heap) (hP : va_P D vwCl (wsM q cA σ) H) (hS : va_S (MA q) H0 H locs) (hin : vp_in i 4) (hdg : decode cc pc = .ok (.iastore, 1)) (kk : ∀ (u : St) (H1 : Heap) (locs1 : List Loc), u = up2 σ 4 (ix i) v → va_P D vwCl (wsM q cA u) H1 → va_S (MA q) H0 H1 locs1 → W p l e R s m args below meth c H1 locs1 cells slots Q (F0 m (pc + 1) ls rest)) : W p l e R s m args below meth c H locs cells slots Q (F0 m pc ls (.int v :: .int i :: .ref (q 4) :: rest)) := va_iast hexec hb hC.1 hP (wsM_D σ hC.2) hS 4 0 (n := 4) (f := σ 4) rfl rfl hin hdg (fun H1 l1 hP1 _ hS1 => kk _ H1 l1 rfl hP1 hS1)
theorem mald_5 {i : Int32} (hexec : p.tables.exec = Jvm.exec) (hb : c.code = cc) (hC : MC D q cA s s.heap) (hP : va_P D vwCl (wsM q cA σ) H) (hin : vp_in i 12) (hdg : decode cc pc = .ok (.iaload, 1)) (kk : W p l e R s m args below meth c H locs cells slots Q (F0 m (pc + 1) ls (.int (σ 5 (ix i)) :: rest))) : W p l e R s m args below meth c H locs cells slots Q (F0 m pc ls (.int i :: .ref (q 5) :: rest)) := va_iald hexec hb hC.1 hP 5 0 (n := 12) (f := σ 5) rfl rfl hin hdg kk
theorem mast_5 {i v : Int32} (hexec : p.tables.exec = Jvm.exec) (hb : c.code = cc) (hC : MC D q cA s s.heap) (hP : va_P D vwCl (wsM q cA σ) H) (hS : va_S (MA q) H0 H locs) (hin : vp_in i 12) (hdg : decode cc pc = .ok (.iastore, 1)) (kk : ∀ (u : St) (H1 : Heap) (locs1 : List Loc), u = up2 σ 5 (ix i) v → va_P D vwCl (wsM q cA u) H1 → va_S (MA q) H0 H1 locs1 → W p l e R s m args below meth c H1 locs1 cells slots Q (F0 m (pc + 1) ls rest)) : W p l e R s m args below meth c H locs cells slots Q (F0 m pc ls (.int v :: .int i :: .ref (q 5) :: rest)) := va_iast hexec hb hC.1 hP (wsM_D σ hC.2) hS 5 0 (n := 12) (f := σ 5) rfl rfl hin hdg (fun H1 l1 hP1 _ hS1 => kk _ H1 l1 rfl hP1 hS1)
theorem mald_6 {i : Int32} (hexec : p.tables.exec = Jvm.exec) (hb : c.code = cc) (hC : MC D q cA s s.heap) (hP : va_P D vwCl (wsM q cA σ) H) (hin : vp_in i 12) (hdg : decode cc pc = .ok (.iaload, 1)) (kk : W p l e R s m args below meth c H locs cells slots Q (F0 m (pc + 1) ls (.int (σ 6 (ix i)) :: rest))) : W p l e R s m args below meth c H locs cells slots Q (F0 m pc ls (.int i :: .ref (q 6) :: rest)) := va_iald hexec hb hC.1 hP 6 0 (n := 12) (f := σ 6) rfl rfl hin hdg kk
theorem mast_6 {i v : Int32} (hexec : p.tables.exec = Jvm.exec) (hb : c.code = cc) (hC : MC D q cA s s.heap) (hP : va_P D vwCl (wsM q cA σ) H) (hS : va_S (MA q) H0 H locs) (hin : vp_in i 12) (hdg : decode cc pc = .ok (.iastore, 1)) (kk : ∀ (u : St) (H1 : Heap) (locs1 : List Loc), u = up2 σ 6 (ix i) v → va_P D vwCl (wsM q cA u) H1 → va_S (MA q) H0 H1 locs1 → W p l e R s m args below meth c H1 locs1 cells slots Q (F0 m (pc + 1) ls rest)) : W p l e R s m args below meth c H locs cells slots Q (F0 m pc ls (.int v :: .int i :: .ref (q 6) :: rest)) := va_iast hexec hb hC.1 hP (wsM_D σ hC.2) hS 6 0 (n := 12) (f := σ 6) rfl rfl hin hdg (fun H1 l1 hP1 _ hS1 => kk _ H1 l1 rfl hP1 hS1)
theorem mcallv {post : St → Prop} (S : CallFix p m c cc nL s args Ts own) (hC : MC D q cA s s.heap) (hP : va_P D vwCl (wsM q cA σ) H) (hB : MB σ) (hS : va_S (MA q) s.heap H locs)
    (hM : Met l y wsC rm (va_Pc (.ref b :: As) (MPre D q cA σ)) (va_Qv post (MPost D q cA) (MA q)) 0 0 (MA q)) (cw : CallW R s args own C index y bytes maxL ret wsC rm 0 0 n) (hrv : ∃ cellB : Cell, H[b]? = some cellB ∧ cellB.vm.isStatics = false ∧ s.vm.findClass C = some cellB.cls)
    (hn : As.length = n) (hsz : ls.size = nL) (hst : st0 = As.reverse ++ .ref b :: rest) (hrm : (rest.map fun v => v.category).sum ≤ 8) (hdg : decode cc pc = .ok (.invokevirtual index, 3))
    (kk : ∀ (u : St) (H1 : Heap) (locs1 : List Loc), post u → va_P D vwCl (wsM q cA u) H1 → MB u → va_S (MA q) s.heap H1 locs1 → W p l e R s m args below meth c H1 locs1 0 0 Q (F0 m (pc + 3) ls rest)) : W p l e R s m args below meth c H locs 0 0 Q (F0 m pc ls st0) :=
  va_callv (va_runV S hM cw ⟨MPre_blind, hrv, fun U hU hW => ⟨rfl, by rw [hU]; exact hP, hB, hC.next hS hU hW.alike⟩⟩ rfl hn hsz hst (lv_room hrm) hdg ⟨Nat.zero_le _, Nat.zero_le _⟩) hS (fun _ _ h => h) (fun _ h => h) (fun u t H1 locs1 ht _ hx hb _ _ hS1 => kk u H1 locs1 hx (by rw [← ht]; exact hb.1) hb.2 hS1)
theorem mscallv {post : St → Prop} (S : CallFix p m c cc nL s args Ts own) (hC : MC D q cA s s.heap) (hP : va_P D vwCl (wsM q cA σ) H) (hB : MB σ) (hS : va_S (MA q) s.heap H locs)
    (hM : Met l y wsC rm (va_Pc As (MPre D q cA σ)) (va_Qv post (MPost D q cA) (MA q)) 0 0 (MA q)) (cw : CallB R s args own index y bytes maxL ret wsC rm 0 0 n ∧ (Cond.static y).before args s = true)
    (hn : As.length = n) (hsz : ls.size = nL) (hst : st0 = As.reverse ++ rest) (hrm : (rest.map fun v => v.category).sum ≤ 8) (hdg : decode cc pc = .ok (.invokestatic index, 3))
    (kk : ∀ (u : St) (H1 : Heap) (locs1 : List Loc), post u → va_P D vwCl (wsM q cA u) H1 → MB u → va_S (MA q) s.heap H1 locs1 → W p l e R s m args below meth c H1 locs1 0 0 Q (F0 m (pc + 3) ls rest)) : W p l e R s m args below meth c H locs 0 0 Q (F0 m pc ls st0) :=
  va_callv (va_runS S hM cw ⟨MPre_blind, fun U hU hW => ⟨rfl, by rw [hU]; exact hP, hB, hC.next hS hU hW.alike⟩⟩ rfl hn hsz hst (lv_room hrm) hdg ⟨Nat.zero_le _, Nat.zero_le _⟩) hS (fun _ _ h => h) (fun _ h => h) (fun u t H1 locs1 ht _ hx hb _ _ hS1 => kk u H1 locs1 hx (by rw [← ht]; exact hb.1) hb.2 hS1)
theorem mcalli {post : Int32 → St → Prop} (S : CallFix p m c cc nL s args Ts own) (hC : MC D q cA s s.heap) (hP : va_P D vwCl (wsM q cA σ) H) (hB : MB σ) (hS : va_S (MA q) s.heap H locs)
    (hM : Met l y wsC rm (va_Pc (.ref b :: As) (MPre D q cA σ)) (va_Qi post (MPost D q cA) (MA q)) 0 0 (MA q)) (cw : CallW R s args own C index y bytes maxL ret wsC rm 0 0 n) (hrv : ∃ cellB : Cell, H[b]? = some cellB ∧ cellB.vm.isStatics = false ∧ s.vm.findClass C = some cellB.cls)
    (hn : As.length = n) (hsz : ls.size = nL) (hst : st0 = As.reverse ++ .ref b :: rest) (hrm : (rest.map fun v => v.category).sum ≤ 8) (hdg : decode cc pc = .ok (.invokevirtual index, 3))
    (kk : ∀ (u : St) (r : Int32) (H1 : Heap) (locs1 : List Loc), post r u → va_P D vwCl (wsM q cA u) H1 → MB u → va_S (MA q) s.heap H1 locs1 → W p l e R s m args below meth c H1 locs1 0 0 Q (F0 m (pc + 3) ls (.int r :: rest))) : W p l e R s m args below meth c H locs 0 0 Q (F0 m pc ls st0) :=
  va_calli (va_runV S hM cw ⟨MPre_blind, hrv, fun U hU hW => ⟨rfl, by rw [hU]; exact hP, hB, hC.next hS hU hW.alike⟩⟩ rfl hn hsz hst (lv_room hrm) hdg ⟨Nat.zero_le _, Nat.zero_le _⟩) hS (fun _ _ h => h) (fun _ h => h) (fun r u t H1 locs1 ht _ hx hb _ _ hS1 => kk u r H1 locs1 hx (by rw [← ht]; exact hb.1) hb.2 hS1)
theorem mscalli {post : Int32 → St → Prop} (S : CallFix p m c cc nL s args Ts own) (hC : MC D q cA s s.heap) (hP : va_P D vwCl (wsM q cA σ) H) (hB : MB σ) (hS : va_S (MA q) s.heap H locs)
    (hM : Met l y wsC rm (va_Pc As (MPre D q cA σ)) (va_Qi post (MPost D q cA) (MA q)) 0 0 (MA q)) (cw : CallB R s args own index y bytes maxL ret wsC rm 0 0 n ∧ (Cond.static y).before args s = true)
    (hn : As.length = n) (hsz : ls.size = nL) (hst : st0 = As.reverse ++ rest) (hrm : (rest.map fun v => v.category).sum ≤ 8) (hdg : decode cc pc = .ok (.invokestatic index, 3))
    (kk : ∀ (u : St) (r : Int32) (H1 : Heap) (locs1 : List Loc), post r u → va_P D vwCl (wsM q cA u) H1 → MB u → va_S (MA q) s.heap H1 locs1 → W p l e R s m args below meth c H1 locs1 0 0 Q (F0 m (pc + 3) ls (.int r :: rest))) : W p l e R s m args below meth c H locs 0 0 Q (F0 m pc ls st0) :=
  va_calli (va_runS S hM cw ⟨MPre_blind, fun U hU hW => ⟨rfl, by rw [hU]; exact hP, hB, hC.next hS hU hW.alike⟩⟩ rfl hn hsz hst (lv_room hrm) hdg ⟨Nat.zero_le _, Nat.zero_le _⟩) hS (fun _ _ h => h) (fun _ h => h) (fun r u t H1 locs1 ht _ hx hb _ _ hS1 => kk u r H1 locs1 hx (by rw [← ht]; exact hb.1) hb.2 hS1)
theorem mrv_0 (hC : MC D q cA s s.heap) (hP : va_P D vwCl (wsM q cA σ) H) : ∃ cellB : Cell, H[q 0]? = some cellB ∧ cellB.vm.isStatics = false ∧ s.vm.findClass RM = some cellB.cls := va_recv hC.1 hP (ci := 2) (q0 := 0) rfl rfl
end Mside
end
section
def k_poke (σ : St) (a1 : Int32) (a2 : Int32) : St × Int32 :=
  bd (up2 σ 1 (ix (a1 &&& 255)) (a2 &&& 65535)) fun σ1 =>
  (σ1, (σ 1 (ix (a1 &&& 255))))
def k_fill_11 (σ : St) : St × Int32 :=
  (σ, 0)
def k_fill_16_4 (σ : St) (x1 : Int32) (x2 : Int64) : St × Int32 :=
  (σ, 1)
def k_fill_16_3 (σ : St) (x1 : Int32) (x2 : Int64) : St × Int32 :=
  bd (up2 σ 1 (ix (x1 + 3)) (((x2.toUInt64 >>> (((16 * 3) : Int32).toInt64.toUInt64 &&& Int64.toUInt64 63)).toInt64 : Int64).toInt32 &&& 65535)) fun σ10 =>
  k_fill_16_4 σ10 x1 x2
def k_fill_16_2 (σ : St) (x1 : Int32) (x2 : Int64) : St × Int32 :=
  bd (up2 σ 1 (ix (x1 + 2)) (((x2.toUInt64 >>> (((16 * 2) : Int32).toInt64.toUInt64 &&& Int64.toUInt64 63)).toInt64 : Int64).toInt32 &&& 65535)) fun σ8 =>
  k_fill_16_3 σ8 x1 x2
def k_fill_16_1 (σ : St) (x1 : Int32) (x2 : Int64) : St × Int32 :=
  bd (up2 σ 1 (ix (x1 + 1)) (((x2.toUInt64 >>> (((16 * 1) : Int32).toInt64.toUInt64 &&& Int64.toUInt64 63)).toInt64 : Int64).toInt32 &&& 65535)) fun σ6 =>
  k_fill_16_2 σ6 x1 x2
def k_fill_16_0 (σ : St) (x1 : Int32) (x2 : Int64) : St × Int32 :=
  bd (up2 σ 1 (ix (x1 + 0)) (((x2.toUInt64 >>> (((16 * 0) : Int32).toInt64.toUInt64 &&& Int64.toUInt64 63)).toInt64 : Int64).toInt32 &&& 65535)) fun σ4 =>
  k_fill_16_1 σ4 x1 x2
def k_fill (σ : St) (a1 : Int32) (a2 : Int64) : St × Int32 :=
  if a1 < 0 then
    k_fill_11 σ
  else
    if a1 ≤ 252 then
      k_fill_16_0 σ a1 a2
    else
      k_fill_11 σ
def k_isBase_15 (σ : St) (y0 : Int32) : St × Int32 :=
  (σ, y0)
def k_isBase_14 (σ : St) : St × Int32 :=
  k_isBase_15 σ 0
def k_isBase (σ : St) (a0 : Int32) : St × Int32 :=
  if a0 < 0 then
    k_isBase_14 σ
  else
    if 31 < a0 then
      k_isBase_14 σ
    else
      k_isBase_15 σ 1
def k_settings_25 (σ : St) : St × Int32 :=
  (σ, 0)
def k_settings (σ : St) (a1 : Int32) (a2 : Int32) (a3 : Int32) (a4 : Int32) : St × Int32 :=
  if a2 < 0 then
    k_settings_25 σ
  else
    if 15 < a2 then
      k_settings_25 σ
    else
      bd2 (k_isBase σ a3) fun σ3 v4 =>
      if v4 = 0 then
        k_settings_25 σ3
      else
        bd2 (k_isBase σ3 a4) fun σ6 v7 =>
        if v7 = 0 then
          k_settings_25 σ6
        else
          bd (up2 σ6 0 7 a1) fun σ9 =>
          bd (up2 σ9 0 8 a2) fun σ10 =>
          bd (up2 σ10 0 9 a3) fun σ11 =>
          bd (up2 σ11 0 10 a4) fun σ12 =>
          (σ12, 1)
def k_isAddress_16 (σ : St) (y0 : Int32) : St × Int32 :=
  (σ, y0)
def k_isAddress_15 (σ : St) : St × Int32 :=
  k_isAddress_16 σ 0
def k_isAddress (σ : St) (a0 : Int32) : St × Int32 :=
  if a0 < 0 then
    k_isAddress_15 σ
  else
    if 256 ≤ a0 then
      k_isAddress_15 σ
    else
      k_isAddress_16 σ 1
def k_begin (σ : St) (a1 : Int32) (a2 : Int32) (a3 : Int32) (a4 : Int32) : St × Int32 :=
  bd2 (k_isAddress σ a1) fun σ1 v2 =>
  if v2 = 0 then
    (σ1, 0)
  else
    bd (up2 σ1 6 3 a1) fun σ4 =>
    bd (up2 σ4 6 5 a2) fun σ5 =>
    bd (up2 σ5 6 1 (a3 &&& 65535)) fun σ6 =>
    bd (up2 σ6 6 2 (a4 &&& 65535)) fun σ7 =>
    bd (up2 σ7 6 6 0) fun σ8 =>
    bd (up2 σ8 0 11 0) fun σ9 =>
    bd (up2 σ9 0 12 0) fun σ10 =>
    (σ10, 1)
def k_set_10 (σ : St) : St × Int32 :=
  (σ, 0)
def k_set (σ : St) (a1 : Int32) (a2 : Int32) : St × Int32 :=
  if a1 < 0 then
    k_set_10 σ
  else
    if a1 ≤ 6 then
      bd (up2 σ 8 (ix a1) (a2 &&& 65535)) fun σ3 =>
      (σ3, 1)
    else
      k_set_10 σ
def k_interrupt_11 (σ : St) : St × Int32 :=
  (σ, 0)
def k_interrupt (σ : St) (a1 : Int32) : St × Int32 :=
  if a1 < 3 then
    k_interrupt_11 σ
  else
    if a1 ≤ 6 then
      bd (up2 σ 0 12 ((σ 0 12) ||| ((1 : Int32) <<< (a1 &&& 31)))) fun σ3 =>
      (σ3, 1)
    else
      k_interrupt_11 σ
def k_word (σ : St) (a1 : Int32) : St × Int32 :=
  (σ, (σ 1 (ix (a1 &&& 255))))
def k_register_111 (σ : St) (y0 : Int32) : St × Int32 :=
  (σ, y0)
def k_register_127 (σ : St) (y0 : Int32) : St × Int32 :=
  (σ, y0)
def k_register_20 (σ : St) (x1 : Int32) : St × Int32 :=
  if x1 = 7 then
    (σ, (σ 6 3))
  else if x1 = 8 then
    (σ, (σ 6 1))
  else if x1 = 9 then
    (σ, (σ 6 2))
  else if x1 = 10 then
    if (σ 6 4) = 0 then
      k_register_111 σ 0
    else
      k_register_111 σ 1
  else if x1 = 11 then
    if (σ 6 5) = 0 then
      k_register_127 σ 0
    else
      k_register_127 σ 1
  else if x1 = 12 then
    (σ, (σ 6 6))
  else if x1 = 13 then
    (σ, (σ 0 11))
  else if x1 = 14 then
    (σ, (σ 0 12))
  else if x1 = 15 then
    (σ, (σ 0 13))
  else (σ, (-1))
def k_register (σ : St) (a1 : Int32) : St × Int32 :=
  if a1 < 0 then
    k_register_20 σ a1
  else
    if 6 < a1 then
      k_register_20 σ a1
    else
      (σ, (σ 8 (ix a1)))
def k_kind (σ : St) (a1 : Int32) : St × Int32 :=
  (σ, (σ 2 (ix (a1 &&& 255))))
def k_kindByRegions_72 (σ : St) (y0 : Int32) : St × Int32 :=
  (σ, y0)
def k_kindByRegions_7_4 (σ : St) (x1 : Int32) (x2 : Int32) (x3 : Int32) : St × Int32 :=
  if x3 = 1 then
    k_kindByRegions_72 σ x2
  else
    k_kindByRegions_72 σ 0
def k_kindByRegions_56_3 (σ : St) (x1 : Int32) (x2 : Int32) (x3 : Int32) : St × Int32 :=
  k_kindByRegions_7_4 σ x1 x2 x3
def k_kindByRegions_7_3 (σ : St) (x1 : Int32) (x2 : Int32) (x3 : Int32) : St × Int32 :=
  if (σ 5 (ix 3)) = 0 then
    k_kindByRegions_56_3 σ x1 x2 x3
  else
    if x1 < (σ 3 (ix 3)) then
      k_kindByRegions_56_3 σ x1 x2 x3
    else
      if (σ 4 (ix 3)) < x1 then
        k_kindByRegions_56_3 σ x1 x2 x3
      else
        k_kindByRegions_56_3 σ x1 (σ 5 (ix 3)) (x3 + 1)
def k_kindByRegions_56_2 (σ : St) (x1 : Int32) (x2 : Int32) (x3 : Int32) : St × Int32 :=
  k_kindByRegions_7_3 σ x1 x2 x3
def k_kindByRegions_7_2 (σ : St) (x1 : Int32) (x2 : Int32) (x3 : Int32) : St × Int32 :=
  if (σ 5 (ix 2)) = 0 then
    k_kindByRegions_56_2 σ x1 x2 x3
  else
    if x1 < (σ 3 (ix 2)) then
      k_kindByRegions_56_2 σ x1 x2 x3
    else
      if (σ 4 (ix 2)) < x1 then
        k_kindByRegions_56_2 σ x1 x2 x3
      else
        k_kindByRegions_56_2 σ x1 (σ 5 (ix 2)) (x3 + 1)
def k_kindByRegions_56_1 (σ : St) (x1 : Int32) (x2 : Int32) (x3 : Int32) : St × Int32 :=
  k_kindByRegions_7_2 σ x1 x2 x3
def k_kindByRegions_7_1 (σ : St) (x1 : Int32) (x2 : Int32) (x3 : Int32) : St × Int32 :=
  if (σ 5 (ix 1)) = 0 then
    k_kindByRegions_56_1 σ x1 x2 x3
  else
    if x1 < (σ 3 (ix 1)) then
      k_kindByRegions_56_1 σ x1 x2 x3
    else
      if (σ 4 (ix 1)) < x1 then
        k_kindByRegions_56_1 σ x1 x2 x3
      else
        k_kindByRegions_56_1 σ x1 (σ 5 (ix 1)) (x3 + 1)
def k_kindByRegions_56_0 (σ : St) (x1 : Int32) (x2 : Int32) (x3 : Int32) : St × Int32 :=
  k_kindByRegions_7_1 σ x1 x2 x3
def k_kindByRegions_7_0 (σ : St) (x1 : Int32) (x2 : Int32) (x3 : Int32) : St × Int32 :=
  if (σ 5 (ix 0)) = 0 then
    k_kindByRegions_56_0 σ x1 x2 x3
  else
    if x1 < (σ 3 (ix 0)) then
      k_kindByRegions_56_0 σ x1 x2 x3
    else
      if (σ 4 (ix 0)) < x1 then
        k_kindByRegions_56_0 σ x1 x2 x3
      else
        k_kindByRegions_56_0 σ x1 (σ 5 (ix 0)) (x3 + 1)
def k_kindByRegions (σ : St) (a1 : Int32) : St × Int32 :=
  k_kindByRegions_7_0 σ a1 0 0
def k_copy_76 (σ : St) : St :=
  bd (cp8 σ 8 9) fun σ1 =>
  bd (up2 σ1 7 1 (σ1 6 1)) fun σ2 =>
  bd (up2 σ2 7 2 (σ2 6 2)) fun σ3 =>
  bd (up2 σ3 7 3 (σ3 6 3)) fun σ4 =>
  bd (up2 σ4 7 4 (σ4 6 4)) fun σ6 =>
  bd (up2 σ6 7 5 (σ6 6 5)) fun σ8 =>
  bd (up2 σ8 7 6 (σ8 6 6)) fun σ9 =>
  σ9
def k_stack_18 (σ : St) (y0 : Int32) : St × Int32 :=
  (σ, y0)
def k_stack (σ : St) : St × Int32 :=
  if (σ 6 5) = 0 then
    k_stack_18 σ (σ 6 1)
  else
    k_stack_18 σ (σ 6 2)
def k_setStack_20 (σ : St) : St :=
  σ
def k_setStack (σ : St) (a1 : Int32) : St :=
  if (σ 6 5) = 0 then
    bd (up2 σ 6 1 a1) fun σ3 =>
    k_setStack_20 σ3
  else
    bd (up2 σ 6 2 a1) fun σ4 =>
    k_setStack_20 σ4
def k_write_45 (σ : St) : St :=
  σ
def k_write_31 (σ : St) (x2 : Int32) (x3 : Int32) : St :=
  if (σ 0 14) = 0 then
    bd (up2 σ 1 (ix x3) x2) fun σ4 =>
    k_write_45 σ4
  else
    k_write_45 σ
def k_write (σ : St) (a1 : Int32) (a2 : Int32) : St :=
  if (σ 6 5) = 0 then
    k_write_31 σ a2 (a1 &&& 255)
  else
    if (σ 2 (ix (a1 &&& 255))) = 1 then
      k_write_31 σ a2 (a1 &&& 255)
    else
      bd (up2 σ 0 14 2) fun σ6 =>
      k_write_31 σ6 a2 (a1 &&& 255)
def k_push (σ : St) (a1 : Int32) : St :=
  bd2 (k_stack σ) fun σ1 v2 =>
  bd (k_setStack σ1 ((v2 - 1) &&& 65535)) fun σ3 =>
  bd (k_write σ3 ((v2 - 1) &&& 65535) a1) fun σ4 =>
  σ4
def k_pushFrame_46_6 (σ : St) : St :=
  bd (k_push σ (1000 + (σ 6 6))) fun σ19 =>
  σ19
def k_pushFrame_46_5 (σ : St) : St :=
  bd (k_push σ (σ 8 (ix 5))) fun σ17 =>
  k_pushFrame_46_6 σ17
def k_pushFrame_46_4 (σ : St) : St :=
  bd (k_push σ (σ 8 (ix 4))) fun σ15 =>
  k_pushFrame_46_5 σ15
def k_pushFrame_46_3 (σ : St) : St :=
  bd (k_push σ (σ 8 (ix 3))) fun σ13 =>
  k_pushFrame_46_4 σ13
def k_pushFrame_46_2 (σ : St) : St :=
  bd (k_push σ (σ 8 (ix 2))) fun σ11 =>
  k_pushFrame_46_3 σ11
def k_pushFrame_46_1 (σ : St) : St :=
  bd (k_push σ (σ 8 (ix 1))) fun σ9 =>
  k_pushFrame_46_2 σ9
def k_pushFrame_46_0 (σ : St) : St :=
  bd (k_push σ (σ 8 (ix 0))) fun σ7 =>
  k_pushFrame_46_1 σ7
def k_pushFrame_27 (σ : St) (y0 : Int32) : St :=
  bd (k_push σ y0) fun σ4 =>
  bd (k_push σ4 (σ4 8 (ix 6))) fun σ5 =>
  k_pushFrame_46_0 σ5
def k_pushFrame (σ : St) : St :=
  bd (k_push σ (σ 6 3)) fun σ1 =>
  if (σ1 6 4) = 0 then
    k_pushFrame_27 σ1 0
  else
    k_pushFrame_27 σ1 1
def k_isHandledOpen_23 (σ : St) (y0 : Int32) : St × Int32 :=
  (σ, y0)
def k_isHandledOpen_22 (σ : St) : St × Int32 :=
  k_isHandledOpen_23 σ 0
def k_isHandledOpen (σ : St) (a1 : Int32) : St × Int32 :=
  if a1 < 3 then
    k_isHandledOpen_22 σ
  else
    if (((σ 0 8) >>> ((a1 - 3) &&& 31)) &&& 1) = 0 then
      k_isHandledOpen_23 σ 1
    else
      k_isHandledOpen_22 σ
def k_goTo (σ : St) (a1 : Int32) : St :=
  bd (up2 σ 6 3 (a1 &&& 255)) fun σ1 =>
  σ1
def k_clearForOpen_2_6 (σ : St) : St :=
  bd (up2 σ 6 4 0) fun σ14 =>
  σ14
def k_clearForOpen_2_5 (σ : St) : St :=
  bd (up2 σ 8 (ix 5) 0) fun σ12 =>
  k_clearForOpen_2_6 σ12
def k_clearForOpen_2_4 (σ : St) : St :=
  bd (up2 σ 8 (ix 4) 0) fun σ10 =>
  k_clearForOpen_2_5 σ10
def k_clearForOpen_2_3 (σ : St) : St :=
  bd (up2 σ 8 (ix 3) 0) fun σ8 =>
  k_clearForOpen_2_4 σ8
def k_clearForOpen_2_2 (σ : St) : St :=
  bd (up2 σ 8 (ix 2) 0) fun σ6 =>
  k_clearForOpen_2_3 σ6
def k_clearForOpen_2_1 (σ : St) : St :=
  bd (up2 σ 8 (ix 1) 0) fun σ4 =>
  k_clearForOpen_2_2 σ4
def k_clearForOpen_2_0 (σ : St) : St :=
  bd (up2 σ 8 (ix 0) 0) fun σ2 =>
  k_clearForOpen_2_1 σ2
def k_clearForOpen (σ : St) : St :=
  k_clearForOpen_2_0 σ
def k_enter_104_8 (σ : St) (x1 : Int32) (y0 : Int32) : St :=
  bd (k_goTo σ (σ 1 (ix (((8 * y0) + x1) &&& 255)))) fun σ11 =>
  bd (up2 σ11 0 13 x1) fun σ12 =>
  σ12
def k_enter_66 (σ : St) (x1 : Int32) (x2 : Int32) : St :=
  bd (up2 σ 6 5 x2) fun σ8 =>
  bd (up2 σ8 6 6 x1) fun σ9 =>
  if x2 = 0 then
    k_enter_104_8 σ9 x1 (σ9 0 9)
  else
    k_enter_104_8 σ9 x1 (σ9 0 10)
def k_enter_43_6 (σ : St) (x1 : Int32) (x2 : Int32) (y0 : Int32) (y1 : Int32) : St :=
  bd (up2 σ 8 (ix 6) (y1 + y0)) fun σ5 =>
  if (σ5 6 5) = 0 then
    if x2 = 0 then
      k_enter_66 σ5 x1 x2
    else
      bd (k_clearForOpen σ5) fun σ14 =>
      k_enter_66 σ14 x1 x2
  else
    k_enter_66 σ5 x1 x2
def k_enter (σ : St) (a1 : Int32) : St :=
  bd2 (k_isHandledOpen σ a1) fun σ1 v2 =>
  if (σ1 6 5) = 0 then
    k_enter_43_6 σ1 a1 v2 1 (65408 + (16 * (σ1 6 6)))
  else
    k_enter_43_6 σ1 a1 v2 0 (65408 + (16 * (σ1 6 6)))
def k_copy_67 (σ : St) : St :=
  bd (cp8 σ 9 8) fun σ1 =>
  bd (up2 σ1 6 1 (σ1 7 1)) fun σ2 =>
  bd (up2 σ2 6 2 (σ2 7 2)) fun σ3 =>
  bd (up2 σ3 6 3 (σ3 7 3)) fun σ4 =>
  bd (up2 σ4 6 4 (σ4 7 4)) fun σ6 =>
  bd (up2 σ6 6 5 (σ6 7 5)) fun σ8 =>
  bd (up2 σ8 6 6 (σ8 7 6)) fun σ9 =>
  σ9
def k_take_51 (σ : St) : St :=
  σ
def k_take (σ : St) (a1 : Int32) : St :=
  bd (k_copy_76 σ) fun σ1 =>
  bd (up2 σ1 0 14 0) fun σ2 =>
  bd (k_pushFrame σ2) fun σ3 =>
  if (σ3 0 14) = 0 then
    bd (k_enter σ3 a1) fun σ5 =>
    k_take_51 σ5
  else
    bd (k_copy_67 σ3) fun σ6 =>
    bd (up2 σ6 0 11 2) fun σ7 =>
    k_take_51 σ7
def k_takePending_25_7 (σ : St) (x1 : Int32) : St :=
  σ
def k_takePending_25_6 (σ : St) (x1 : Int32) : St :=
  if x1 ≤ 6 then
    σ
  else
    if (((σ 0 12) >>> ((6 : Int32) &&& 31)) &&& 1) = 0 then
      k_takePending_25_7 σ x1
    else
      bd (up2 σ 0 12 ((σ 0 12) &&& (((1 : Int32) <<< ((6 : Int32) &&& 31)) ^^^ (-1)))) fun σ11 =>
      bd (k_take σ11 6) fun σ12 =>
      σ12
def k_takePending_25_5 (σ : St) (x1 : Int32) : St :=
  if x1 ≤ 5 then
    σ
  else
    if (((σ 0 12) >>> ((5 : Int32) &&& 31)) &&& 1) = 0 then
      k_takePending_25_6 σ x1
    else
      bd (up2 σ 0 12 ((σ 0 12) &&& (((1 : Int32) <<< ((5 : Int32) &&& 31)) ^^^ (-1)))) fun σ13 =>
      bd (k_take σ13 5) fun σ14 =>
      σ14
def k_takePending_25_4 (σ : St) (x1 : Int32) : St :=
  if x1 ≤ 4 then
    σ
  else
    if (((σ 0 12) >>> ((4 : Int32) &&& 31)) &&& 1) = 0 then
      k_takePending_25_5 σ x1
    else
      bd (up2 σ 0 12 ((σ 0 12) &&& (((1 : Int32) <<< ((4 : Int32) &&& 31)) ^^^ (-1)))) fun σ15 =>
      bd (k_take σ15 4) fun σ16 =>
      σ16
def k_takePending_25_3 (σ : St) (x1 : Int32) : St :=
  if x1 ≤ 3 then
    σ
  else
    if (((σ 0 12) >>> ((3 : Int32) &&& 31)) &&& 1) = 0 then
      k_takePending_25_4 σ x1
    else
      bd (up2 σ 0 12 ((σ 0 12) &&& (((1 : Int32) <<< ((3 : Int32) &&& 31)) ^^^ (-1)))) fun σ17 =>
      bd (k_take σ17 3) fun σ18 =>
      σ18
def k_takePending_22 (σ : St) (y0 : Int32) : St :=
  k_takePending_25_3 σ y0
def k_takePending (σ : St) : St :=
  if (σ 6 6) = 0 then
    k_takePending_22 σ 7
  else
    k_takePending_22 σ (σ 6 6)
def k_fetch_107 (σ : St) (x1 : Int32) : St × Int32 :=
  (σ, x1)
def k_fetch_97 (σ : St) (x1 : Int32) (x2 : Int32) : St × Int32 :=
  if x2 = 1 then
    k_fetch_107 σ x1
  else
    bd (up2 σ 0 14 2) fun σ5 =>
    k_fetch_107 σ5 x1
def k_fetch (σ : St) : St × Int32 :=
  if (σ 6 5) = 0 then
    if (σ 2 (ix ((σ 6 3) &&& 255))) = 1 then
      bd (up2 σ 0 14 2) fun σ10 =>
      k_fetch_107 σ10 (σ 1 (ix ((σ 6 3) &&& 255)))
    else
      k_fetch_107 σ (σ 1 (ix ((σ 6 3) &&& 255)))
  else
    if (σ 2 (ix ((σ 6 3) &&& 255))) = 2 then
      if ((σ 1 (ix ((σ 6 3) &&& 255))) >>> ((12 : Int32) &&& 31)) = 10 then
        bd (up2 σ 6 5 0) fun σ7 =>
        bd (up2 σ7 8 (ix 6) ((σ7 8 (ix 6)) ||| 32768)) fun σ8 =>
        k_fetch_107 σ8 (σ 1 (ix ((σ 6 3) &&& 255)))
      else
        k_fetch_97 σ (σ 1 (ix ((σ 6 3) &&& 255))) (σ 2 (ix ((σ 6 3) &&& 255)))
    else
      k_fetch_97 σ (σ 1 (ix ((σ 6 3) &&& 255))) (σ 2 (ix ((σ 6 3) &&& 255)))
def k_answerFault_67 (σ : St) : St :=
  σ
def k_answerFault_54 (σ : St) : St :=
  bd (up2 σ 0 11 2) fun σ5 =>
  k_answerFault_67 σ5
def k_answerFault_62 (σ : St) (x1 : Int32) : St :=
  bd (k_take σ x1) fun σ7 =>
  k_answerFault_67 σ7
def k_answerFault_26 (σ : St) (y0 : Int32) : St :=
  if (σ 6 6) = 1 then
    k_answerFault_54 σ
  else
    if (σ 6 6) = 2 then
      if y0 = 2 then
        k_answerFault_54 σ
      else
        k_answerFault_62 σ y0
    else
      k_answerFault_62 σ y0
def k_answerFault (σ : St) : St :=
  bd (k_copy_67 σ) fun σ1 =>
  if (σ1 0 7) = 0 then
    k_answerFault_26 σ1 1
  else
    k_answerFault_26 σ1 (σ1 0 14)
def k_call (σ : St) (a1 : Int32) : St :=
  bd (up2 σ 8 (ix 6) (σ 6 3)) fun σ1 =>
  bd (k_goTo σ1 a1) fun σ2 =>
  σ2
def k_goOut (σ : St) (a1 : Int32) : St :=
  bd (up2 σ 6 5 1) fun σ1 =>
  bd (k_goTo σ1 a1) fun σ2 =>
  σ2
def k_callOut (σ : St) (a1 : Int32) : St :=
  bd (k_push σ (σ 6 3)) fun σ1 =>
  bd (k_push σ1 4096) fun σ2 =>
  bd (up2 σ2 8 (ix 6) 65520) fun σ3 =>
  bd (k_goOut σ3 a1) fun σ4 =>
  σ4
def k_read_33 (σ : St) (x2 : Int32) : St × Int32 :=
  (σ, (σ 1 (ix x2)))
def k_read (σ : St) (a1 : Int32) : St × Int32 :=
  if (σ 6 5) = 0 then
    k_read_33 σ (a1 &&& 255)
  else
    if (σ 2 (ix (a1 &&& 255))) = 1 then
      k_read_33 σ (a1 &&& 255)
    else
      bd (up2 σ 0 14 2) fun σ4 =>
      (σ4, 0)
def k_pop (σ : St) : St × Int32 :=
  bd2 (k_stack σ) fun σ1 v2 =>
  bd (k_setStack σ1 ((v2 + 1) &&& 65535)) fun σ3 =>
  bd2 (k_read σ3 v2) fun σ4 v5 =>
  (σ4, v5)
def k_endException_97 (σ : St) (x2 : Int32) (y0 : Int32) : St :=
  bd (up2 σ 6 4 y0) fun σ37 =>
  bd2 (k_pop σ37) fun σ38 v39 =>
  bd (k_goTo σ38 v39) fun σ40 =>
  bd (up2 σ40 6 6 x2) fun σ41 =>
  σ41
def k_endException_44_n1 (σ : St) (x2 : Int32) : St :=
  bd2 (k_pop σ) fun σ31 v32 =>
  bd (up2 σ31 8 (ix 6) v32) fun σ33 =>
  bd2 (k_pop σ33) fun σ34 v35 =>
  if v35 = 0 then
    k_endException_97 σ34 x2 0
  else
    k_endException_97 σ34 x2 1
def k_endException_44_0 (σ : St) (x2 : Int32) : St :=
  bd2 (k_pop σ) fun σ27 v28 =>
  bd (up2 σ27 8 (ix 0) v28) fun σ29 =>
  k_endException_44_n1 σ29 x2
def k_endException_44_1 (σ : St) (x2 : Int32) : St :=
  bd2 (k_pop σ) fun σ23 v24 =>
  bd (up2 σ23 8 (ix 1) v24) fun σ25 =>
  k_endException_44_0 σ25 x2
def k_endException_44_2 (σ : St) (x2 : Int32) : St :=
  bd2 (k_pop σ) fun σ19 v20 =>
  bd (up2 σ19 8 (ix 2) v20) fun σ21 =>
  k_endException_44_1 σ21 x2
def k_endException_44_3 (σ : St) (x2 : Int32) : St :=
  bd2 (k_pop σ) fun σ15 v16 =>
  bd (up2 σ15 8 (ix 3) v16) fun σ17 =>
  k_endException_44_2 σ17 x2
def k_endException_44_4 (σ : St) (x2 : Int32) : St :=
  bd2 (k_pop σ) fun σ11 v12 =>
  bd (up2 σ11 8 (ix 4) v12) fun σ13 =>
  k_endException_44_3 σ13 x2
def k_endException_44_5 (σ : St) (x2 : Int32) : St :=
  bd2 (k_pop σ) fun σ7 v8 =>
  bd (up2 σ7 8 (ix 5) v8) fun σ9 =>
  k_endException_44_4 σ9 x2
def k_endException_42 (σ : St) (x2 : Int32) : St :=
  k_endException_44_5 σ x2
def k_endException_22 (σ : St) (x2 : Int32) (y0 : Int32) : St :=
  bd (up2 σ 6 5 y0) fun σ2 =>
  bd2 (k_pop σ2) fun σ3 v4 =>
  if v4 = (1000 + x2) then
    k_endException_42 σ3 x2
  else
    bd (up2 σ3 0 14 2) fun σ42 =>
    k_endException_42 σ42 x2
def k_endException (σ : St) (a1 : Int32) : St :=
  if (a1 &&& 1) = 0 then
    k_endException_22 σ ((a1 >>> ((4 : Int32) &&& 31)) &&& 7) 1
  else
    k_endException_22 σ ((a1 >>> ((4 : Int32) &&& 31)) &&& 7) 0
def k_endOutCall_23 (σ : St) : St :=
  bd2 (k_pop σ) fun σ5 v6 =>
  bd (k_goTo σ5 v6) fun σ7 =>
  σ7
def k_endOutCall (σ : St) : St :=
  bd (up2 σ 6 5 0) fun σ1 =>
  bd2 (k_pop σ1) fun σ2 v3 =>
  if v3 = 4096 then
    k_endOutCall_23 σ2
  else
    bd (up2 σ2 0 14 2) fun σ8 =>
    k_endOutCall_23 σ8
def k_goBack_110 (σ : St) : St :=
  σ
def k_goBack_105 (σ : St) : St :=
  bd (up2 σ 0 14 2) fun σ5 =>
  k_goBack_110 σ5
def k_goBack_72 (σ : St) (x1 : Int32) : St :=
  if x1 < 65408 then
    k_goBack_105 σ
  else
    if 65520 ≤ x1 then
      k_goBack_105 σ
    else
      if (σ 6 6) = 0 then
        k_goBack_105 σ
      else
        bd (k_endException σ (x1 - 65408)) fun σ8 =>
        k_goBack_110 σ8
def k_goBack_49 (σ : St) (x1 : Int32) : St :=
  if x1 = 65520 then
    if (σ 6 5) = 0 then
      k_goBack_72 σ x1
    else
      bd (k_endOutCall σ) fun σ11 =>
      k_goBack_110 σ11
  else
    k_goBack_72 σ x1
def k_goBack (σ : St) : St :=
  if 32768 ≤ (σ 8 (ix 6)) then
    if 65408 ≤ (σ 8 (ix 6)) then
      k_goBack_49 σ (σ 8 (ix 6))
    else
      if (σ 6 5) = 0 then
        bd (k_goOut σ (σ 8 (ix 6))) fun σ14 =>
        k_goBack_110 σ14
      else
        k_goBack_49 σ (σ 8 (ix 6))
  else
    bd (k_goTo σ (σ 8 (ix 6))) fun σ15 =>
    k_goBack_110 σ15
def k_changeFlow_158 (σ : St) : St :=
  σ
def k_changeFlow (σ : St) (a1 : Int32) : St :=
  if (a1 >>> ((12 : Int32) &&& 31)) = 7 then
    bd (k_goTo σ a1) fun σ2 =>
    k_changeFlow_158 σ2
  else if (a1 >>> ((12 : Int32) &&& 31)) = 8 then
    if (σ 6 4) = 0 then
      k_changeFlow_158 σ
    else
      bd (k_goTo σ a1) fun σ6 =>
      k_changeFlow_158 σ6
  else if (a1 >>> ((12 : Int32) &&& 31)) = 9 then
    bd (k_call σ (σ 8 (ix ((a1 >>> ((6 : Int32) &&& 31)) &&& 7)))) fun σ8 =>
    k_changeFlow_158 σ8
  else if (a1 >>> ((12 : Int32) &&& 31)) = 11 then
    bd (k_goOut σ (σ 8 (ix ((a1 >>> ((6 : Int32) &&& 31)) &&& 7)))) fun σ10 =>
    k_changeFlow_158 σ10
  else if (a1 >>> ((12 : Int32) &&& 31)) = 12 then
    bd (k_callOut σ (σ 8 (ix ((a1 >>> ((6 : Int32) &&& 31)) &&& 7)))) fun σ12 =>
    k_changeFlow_158 σ12
  else if (a1 >>> ((12 : Int32) &&& 31)) = 13 then
    bd (k_goBack σ) fun σ14 =>
    k_changeFlow_158 σ14
  else if (a1 >>> ((12 : Int32) &&& 31)) = 14 then
    bd (up2 σ 0 12 ((σ 0 12) ||| ((1 : Int32) <<< ((3 + ((a1 >>> ((3 : Int32) &&& 31)) &&& 3)) &&& 31)))) fun σ16 =>
    k_changeFlow_158 σ16
  else if (a1 >>> ((12 : Int32) &&& 31)) = 15 then
    bd (up2 σ 0 11 1) fun σ18 =>
    k_changeFlow_158 σ18
  else k_changeFlow_158 σ
def k_moveData_203 (σ : St) : St :=
  σ
def k_moveData_143 (σ : St) (y0 : Int32) : St :=
  bd (up2 σ 6 4 y0) fun σ8 =>
  k_moveData_203 σ8
def k_moveData (σ : St) (a1 : Int32) : St :=
  if (a1 >>> ((12 : Int32) &&& 31)) = 0 then
    bd (up2 σ 8 (ix ((a1 >>> ((9 : Int32) &&& 31)) &&& 7)) (a1 &&& 511)) fun σ2 =>
    k_moveData_203 σ2
  else if (a1 >>> ((12 : Int32) &&& 31)) = 1 then
    bd (up2 σ 8 (ix ((a1 >>> ((9 : Int32) &&& 31)) &&& 7)) (((σ 8 (ix ((a1 >>> ((6 : Int32) &&& 31)) &&& 7))) + (σ 8 (ix ((a1 >>> ((3 : Int32) &&& 31)) &&& 7)))) &&& 65535)) fun σ4 =>
    k_moveData_203 σ4
  else if (a1 >>> ((12 : Int32) &&& 31)) = 2 then
    bd (up2 σ 8 (ix ((a1 >>> ((9 : Int32) &&& 31)) &&& 7)) (((σ 8 (ix ((a1 >>> ((6 : Int32) &&& 31)) &&& 7))) - (σ 8 (ix ((a1 >>> ((3 : Int32) &&& 31)) &&& 7)))) &&& 65535)) fun σ6 =>
    if (σ6 8 (ix ((a1 >>> ((9 : Int32) &&& 31)) &&& 7))) = 0 then
      k_moveData_143 σ6 1
    else
      k_moveData_143 σ6 0
  else if (a1 >>> ((12 : Int32) &&& 31)) = 3 then
    bd2 (k_read σ ((σ 8 (ix ((a1 >>> ((6 : Int32) &&& 31)) &&& 7))) + (a1 &&& 63))) fun σ10 v11 =>
    bd (up2 σ10 8 (ix ((a1 >>> ((9 : Int32) &&& 31)) &&& 7)) v11) fun σ12 =>
    k_moveData_203 σ12
  else if (a1 >>> ((12 : Int32) &&& 31)) = 4 then
    bd (k_write σ ((σ 8 (ix ((a1 >>> ((6 : Int32) &&& 31)) &&& 7))) + (a1 &&& 63)) (σ 8 (ix ((a1 >>> ((9 : Int32) &&& 31)) &&& 7)))) fun σ14 =>
    k_moveData_203 σ14
  else if (a1 >>> ((12 : Int32) &&& 31)) = 5 then
    bd (k_push σ (σ 8 (ix ((a1 >>> ((9 : Int32) &&& 31)) &&& 7)))) fun σ16 =>
    k_moveData_203 σ16
  else if (a1 >>> ((12 : Int32) &&& 31)) = 6 then
    bd2 (k_pop σ) fun σ18 v19 =>
    bd (up2 σ18 8 (ix ((a1 >>> ((9 : Int32) &&& 31)) &&& 7)) v19) fun σ20 =>
    k_moveData_203 σ20
  else k_moveData_203 σ
def k_isUnknown_102 (σ : St) (y0 : Int32) : St × Int32 :=
  (σ, y0)
def k_isUnknown_101 (σ : St) : St × Int32 :=
  k_isUnknown_102 σ 0
def k_isUnknown_97 (σ : St) : St × Int32 :=
  k_isUnknown_102 σ 1
def k_isUnknown_80 (σ : St) (x1 : Int32) (x3 : Int32) : St × Int32 :=
  if (x3 &&& 4) = 0 then
    k_isUnknown_101 σ
  else
    if ((x1 >>> ((3 : Int32) &&& 31)) &&& 7) = 7 then
      k_isUnknown_97 σ
    else
      k_isUnknown_101 σ
def k_isUnknown_62 (σ : St) (x1 : Int32) (x3 : Int32) : St × Int32 :=
  if (x3 &&& 2) = 0 then
    k_isUnknown_80 σ x1 x3
  else
    if ((x1 >>> ((6 : Int32) &&& 31)) &&& 7) = 7 then
      k_isUnknown_97 σ
    else
      k_isUnknown_80 σ x1 x3
def k_isUnknown_38 (σ : St) (x1 : Int32) (x2 : Int32) : St × Int32 :=
  if ((named (ix x2)) &&& 1) = 0 then
    k_isUnknown_62 σ x1 (named (ix x2))
  else
    if ((x1 >>> ((9 : Int32) &&& 31)) &&& 7) = 7 then
      k_isUnknown_97 σ
    else
      k_isUnknown_62 σ x1 (named (ix x2))
def k_isUnknown_36 (σ : St) : St × Int32 :=
  (σ, 1)
def k_isUnknown (σ : St) (a1 : Int32) : St × Int32 :=
  if (σ 6 5) = 0 then
    k_isUnknown_38 σ a1 ((a1 >>> ((12 : Int32) &&& 31)) &&& 15)
  else
    if ((a1 >>> ((12 : Int32) &&& 31)) &&& 15) = 11 then
      k_isUnknown_36 σ
    else
      if ((a1 >>> ((12 : Int32) &&& 31)) &&& 15) = 12 then
        k_isUnknown_36 σ
      else
        if ((a1 >>> ((12 : Int32) &&& 31)) &&& 15) = 15 then
          k_isUnknown_36 σ
        else
          k_isUnknown_38 σ a1 ((a1 >>> ((12 : Int32) &&& 31)) &&& 15)
def k_step_106 (σ : St) : St :=
  σ
def k_step_95 (σ : St) : St :=
  if (σ 0 14) = 0 then
    k_step_106 σ
  else
    bd (k_answerFault σ) fun σ10 =>
    k_step_106 σ10
def k_step_53 (σ : St) (x1 : Int32) : St :=
  if (σ 0 14) = 0 then
    bd (k_goTo σ ((σ 6 3) + 1)) fun σ11 =>
    if 6 < (x1 >>> ((12 : Int32) &&& 31)) then
      bd (k_changeFlow σ11 x1) fun σ13 =>
      k_step_95 σ13
    else
      bd (k_moveData σ11 x1) fun σ14 =>
      k_step_95 σ14
  else
    k_step_95 σ
def k_step (σ : St) : St :=
  bd (k_takePending σ) fun σ1 =>
  if (σ1 0 11) = 0 then
    bd (k_copy_76 σ1) fun σ3 =>
    bd (up2 σ3 0 14 0) fun σ4 =>
    bd2 (k_fetch σ4) fun σ5 v6 =>
    if (σ5 0 14) = 0 then
      bd2 (k_isUnknown σ5 v6) fun σ15 v16 =>
      if v16 = 0 then
        k_step_53 σ15 v6
      else
        bd (up2 σ15 0 14 1) fun σ18 =>
        k_step_53 σ18 v6
    else
      k_step_53 σ5 v6
  else
    σ1
def m_poke (σ : St) (a1 : Int32) (a2 : Int32) : St × Int32 :=
  bd (up2 σ 1 (ix (a1 &&& 255)) (a2 &&& 65535)) fun σ1 =>
  (σ1, (σ 1 (ix (a1 &&& 255))))
def m_fill_11 (σ : St) : St × Int32 :=
  (σ, 0)
def m_fill_16_4 (σ : St) (x1 : Int32) (x2 : Int64) : St × Int32 :=
  (σ, 1)
def m_fill_16_3 (σ : St) (x1 : Int32) (x2 : Int64) : St × Int32 :=
  bd (up2 σ 1 (ix (x1 + 3)) ((((x2 >>> (((16 * 3) : Int32).toInt64 &&& 63)) &&& 65535) : Int64).toInt32)) fun σ10 =>
  m_fill_16_4 σ10 x1 x2
def m_fill_16_2 (σ : St) (x1 : Int32) (x2 : Int64) : St × Int32 :=
  bd (up2 σ 1 (ix (x1 + 2)) ((((x2 >>> (((16 * 2) : Int32).toInt64 &&& 63)) &&& 65535) : Int64).toInt32)) fun σ8 =>
  m_fill_16_3 σ8 x1 x2
def m_fill_16_1 (σ : St) (x1 : Int32) (x2 : Int64) : St × Int32 :=
  bd (up2 σ 1 (ix (x1 + 1)) ((((x2 >>> (((16 * 1) : Int32).toInt64 &&& 63)) &&& 65535) : Int64).toInt32)) fun σ6 =>
  m_fill_16_2 σ6 x1 x2
def m_fill_16_0 (σ : St) (x1 : Int32) (x2 : Int64) : St × Int32 :=
  bd (up2 σ 1 (ix (x1 + 0)) ((((x2 >>> (((16 * 0) : Int32).toInt64 &&& 63)) &&& 65535) : Int64).toInt32)) fun σ4 =>
  m_fill_16_1 σ4 x1 x2
def m_fill (σ : St) (a1 : Int32) (a2 : Int64) : St × Int32 :=
  if a1 < 0 then
    m_fill_11 σ
  else
    if a1 ≤ 252 then
      m_fill_16_0 σ a1 a2
    else
      m_fill_11 σ
def m_isAddress_16 (σ : St) (y0 : Int32) : St × Int32 :=
  (σ, y0)
def m_isAddress_15 (σ : St) : St × Int32 :=
  m_isAddress_16 σ 0
def m_isAddress (σ : St) (a0 : Int32) : St × Int32 :=
  if a0 < 0 then
    m_isAddress_15 σ
  else
    if 255 < a0 then
      m_isAddress_15 σ
    else
      m_isAddress_16 σ 1
def m_region_34 (σ : St) : St × Int32 :=
  (σ, 0)
def m_region (σ : St) (a1 : Int32) (a2 : Int32) (a3 : Int32) (a4 : Int32) : St × Int32 :=
  if a1 < 0 then
    m_region_34 σ
  else
    if 3 < a1 then
      m_region_34 σ
    else
      if a4 < 0 then
        m_region_34 σ
      else
        if 2 < a4 then
          m_region_34 σ
        else
          bd2 (m_isAddress σ a2) fun σ5 v6 =>
          if v6 = 0 then
            m_region_34 σ5
          else
            bd2 (m_isAddress σ5 a3) fun σ8 v9 =>
            if v9 = 0 then
              m_region_34 σ8
            else
              bd (up2 σ8 2 (ix a1) a2) fun σ11 =>
              bd (up2 σ11 3 (ix a1) a3) fun σ12 =>
              bd (up2 σ12 4 (ix a1) a4) fun σ13 =>
              (σ13, 1)
def m_settings_32 (σ : St) : St × Int32 :=
  (σ, 0)
def m_settings (σ : St) (a1 : Int32) (a2 : Int32) (a3 : Int32) (a4 : Int32) : St × Int32 :=
  if a2 < 0 then
    m_settings_32 σ
  else
    if 15 < a2 then
      m_settings_32 σ
    else
      if a3 < 0 then
        m_settings_32 σ
      else
        if 31 < a3 then
          m_settings_32 σ
        else
          if a4 < 0 then
            m_settings_32 σ
          else
            if a4 ≤ 31 then
              bd (up2 σ 0 4 a1) fun σ7 =>
              bd (up2 σ7 0 5 a2) fun σ8 =>
              bd (up2 σ8 0 6 a3) fun σ9 =>
              bd (up2 σ9 0 7 a4) fun σ10 =>
              (σ10, 1)
            else
              m_settings_32 σ
def m_begin_32_11 (σ : St) (x3 : Int32) (x4 : Int32) (y0 : Int32) : St × Int32 :=
  bd (up2 σ 5 (ix 11) y0) fun σ6 =>
  bd (up2 σ6 5 (ix 8) (x3 &&& 65535)) fun σ7 =>
  bd (up2 σ7 5 (ix 9) (x4 &&& 65535)) fun σ8 =>
  bd (up2 σ8 0 11 0) fun σ9 =>
  bd (up2 σ9 0 10 0) fun σ10 =>
  bd (up2 σ10 0 12 0) fun σ11 =>
  (σ11, 1)
def m_begin (σ : St) (a1 : Int32) (a2 : Int32) (a3 : Int32) (a4 : Int32) : St × Int32 :=
  bd2 (m_isAddress σ a1) fun σ1 v2 =>
  if v2 = 0 then
    (σ1, 0)
  else
    bd (up2 σ1 5 (ix 7) a1) fun σ4 =>
    if a2 = 0 then
      m_begin_32_11 σ4 a3 a4 0
    else
      m_begin_32_11 σ4 a3 a4 1
def m_set_10 (σ : St) : St × Int32 :=
  (σ, 0)
def m_set (σ : St) (a1 : Int32) (a2 : Int32) : St × Int32 :=
  if a1 < 0 then
    m_set_10 σ
  else
    if a1 ≤ 6 then
      bd (up2 σ 5 (ix a1) (a2 &&& 65535)) fun σ3 =>
      (σ3, 1)
    else
      m_set_10 σ
def m_interrupt_11 (σ : St) : St × Int32 :=
  (σ, 0)
def m_interrupt (σ : St) (a1 : Int32) : St × Int32 :=
  if a1 < 3 then
    m_interrupt_11 σ
  else
    if a1 ≤ 6 then
      bd (up2 σ 0 12 ((σ 0 12) ||| ((1 : Int32) <<< (a1 &&& 31)))) fun σ3 =>
      (σ3, 1)
    else
      m_interrupt_11 σ
def m_kindAt_81 (σ : St) (y0 : Int32) : St × Int32 :=
  (σ, y0)
def m_kindAt_14_4 (σ : St) (x2 : Int32) (x3 : Int32) (x4 : Int32) : St × Int32 :=
  if x3 = 1 then
    m_kindAt_81 σ x4
  else
    m_kindAt_81 σ 0
def m_kindAt_64_3 (σ : St) (x2 : Int32) (x3 : Int32) (x4 : Int32) : St × Int32 :=
  m_kindAt_14_4 σ x2 x3 x4
def m_kindAt_14_3 (σ : St) (x2 : Int32) (x3 : Int32) (x4 : Int32) : St × Int32 :=
  if (σ 4 (ix 3)) = 0 then
    m_kindAt_64_3 σ x2 x3 x4
  else
    if x2 < (σ 2 (ix 3)) then
      m_kindAt_64_3 σ x2 x3 x4
    else
      if (σ 3 (ix 3)) < x2 then
        m_kindAt_64_3 σ x2 x3 x4
      else
        m_kindAt_64_3 σ x2 (x3 + 1) (σ 4 (ix 3))
def m_kindAt_64_2 (σ : St) (x2 : Int32) (x3 : Int32) (x4 : Int32) : St × Int32 :=
  m_kindAt_14_3 σ x2 x3 x4
def m_kindAt_14_2 (σ : St) (x2 : Int32) (x3 : Int32) (x4 : Int32) : St × Int32 :=
  if (σ 4 (ix 2)) = 0 then
    m_kindAt_64_2 σ x2 x3 x4
  else
    if x2 < (σ 2 (ix 2)) then
      m_kindAt_64_2 σ x2 x3 x4
    else
      if (σ 3 (ix 2)) < x2 then
        m_kindAt_64_2 σ x2 x3 x4
      else
        m_kindAt_64_2 σ x2 (x3 + 1) (σ 4 (ix 2))
def m_kindAt_64_1 (σ : St) (x2 : Int32) (x3 : Int32) (x4 : Int32) : St × Int32 :=
  m_kindAt_14_2 σ x2 x3 x4
def m_kindAt_14_1 (σ : St) (x2 : Int32) (x3 : Int32) (x4 : Int32) : St × Int32 :=
  if (σ 4 (ix 1)) = 0 then
    m_kindAt_64_1 σ x2 x3 x4
  else
    if x2 < (σ 2 (ix 1)) then
      m_kindAt_64_1 σ x2 x3 x4
    else
      if (σ 3 (ix 1)) < x2 then
        m_kindAt_64_1 σ x2 x3 x4
      else
        m_kindAt_64_1 σ x2 (x3 + 1) (σ 4 (ix 1))
def m_kindAt_64_0 (σ : St) (x2 : Int32) (x3 : Int32) (x4 : Int32) : St × Int32 :=
  m_kindAt_14_1 σ x2 x3 x4
def m_kindAt_14_0 (σ : St) (x2 : Int32) (x3 : Int32) (x4 : Int32) : St × Int32 :=
  if (σ 4 (ix 0)) = 0 then
    m_kindAt_64_0 σ x2 x3 x4
  else
    if x2 < (σ 2 (ix 0)) then
      m_kindAt_64_0 σ x2 x3 x4
    else
      if (σ 3 (ix 0)) < x2 then
        m_kindAt_64_0 σ x2 x3 x4
      else
        m_kindAt_64_0 σ x2 (x3 + 1) (σ 4 (ix 0))
def m_kindAt (σ : St) (a1 : Int32) : St × Int32 :=
  m_kindAt_14_0 σ (a1 &&& 255) 0 0
def m_isOpenWorld_16 (σ : St) (y0 : Int32) : St × Int32 :=
  (σ, y0)
def m_isOpenWorld (σ : St) : St × Int32 :=
  if (σ 5 (ix 11)) = 1 then
    m_isOpenWorld_16 σ 1
  else
    m_isOpenWorld_16 σ 0
def m_speak_12 (σ : St) : St :=
  σ
def m_speak (σ : St) (a1 : Int32) : St :=
  if (σ 0 14) = 0 then
    bd (up2 σ 0 14 a1) fun σ2 =>
    m_speak_12 σ2
  else
    m_speak_12 σ
def m_mayUse_21 (σ : St) (y0 : Int32) : St × Int32 :=
  (σ, y0)
def m_mayUse_16 (σ : St) : St × Int32 :=
  m_mayUse_21 σ 1
def m_mayUse (σ : St) (a1 : Int32) : St × Int32 :=
  bd2 (m_isOpenWorld σ) fun σ1 v2 =>
  if v2 = 0 then
    m_mayUse_16 σ1
  else
    bd2 (m_kindAt σ1 a1) fun σ4 v5 =>
    if v5 = 1 then
      m_mayUse_16 σ4
    else
      m_mayUse_21 σ4 0
def m_read_13 (σ : St) (x1 : Int32) : St × Int32 :=
  (σ, (σ 1 (ix (x1 &&& 255))))
def m_read (σ : St) (a1 : Int32) : St × Int32 :=
  bd2 (m_mayUse σ a1) fun σ1 v2 =>
  if v2 = 0 then
    bd (m_speak σ1 2) fun σ4 =>
    m_read_13 σ4 a1
  else
    m_read_13 σ1 a1
def m_write_38 (σ : St) : St :=
  σ
def m_write (σ : St) (a1 : Int32) (a2 : Int32) : St :=
  if (σ 0 14) = 0 then
    bd2 (m_mayUse σ a1) fun σ2 v3 =>
    if v3 = 0 then
      bd (m_speak σ2 2) fun σ5 =>
      m_write_38 σ5
    else
      bd (up2 σ2 1 (ix (a1 &&& 255)) (a2 &&& 65535)) fun σ6 =>
      m_write_38 σ6
  else
    σ
def m_stack_14 (σ : St) (y0 : Int32) : St × Int32 :=
  (σ, y0)
def m_stack (σ : St) : St × Int32 :=
  bd2 (m_isOpenWorld σ) fun σ1 v2 =>
  if v2 = 0 then
    m_stack_14 σ1 8
  else
    m_stack_14 σ1 9
def m_push (σ : St) (a1 : Int32) : St :=
  bd2 (m_stack σ) fun σ1 v2 =>
  bd (up2 σ1 5 (ix v2) (((σ1 5 (ix v2)) - 1) &&& 65535)) fun σ3 =>
  bd (m_write σ3 (σ3 5 (ix v2)) a1) fun σ4 =>
  σ4
def m_pop (σ : St) : St × Int32 :=
  if (σ 0 14) = 0 then
    bd2 (m_stack σ) fun σ2 v3 =>
    bd2 (m_read σ2 (σ2 5 (ix v3))) fun σ4 v5 =>
    bd (up2 σ4 5 (ix v3) (((σ4 5 (ix v3)) + 1) &&& 65535)) fun σ6 =>
    (σ6, v5)
  else
    (σ, 0)
def m_keep_2_12 (σ : St) : St :=
  bd (up2 σ 0 14 0) fun σ26 =>
  σ26
def m_keep_2_11 (σ : St) : St :=
  bd (up2 σ 6 (ix 11) (σ 5 (ix 11))) fun σ24 =>
  m_keep_2_12 σ24
def m_keep_2_10 (σ : St) : St :=
  bd (up2 σ 6 (ix 10) (σ 5 (ix 10))) fun σ22 =>
  m_keep_2_11 σ22
def m_keep_2_9 (σ : St) : St :=
  bd (up2 σ 6 (ix 9) (σ 5 (ix 9))) fun σ20 =>
  m_keep_2_10 σ20
def m_keep_2_8 (σ : St) : St :=
  bd (up2 σ 6 (ix 8) (σ 5 (ix 8))) fun σ18 =>
  m_keep_2_9 σ18
def m_keep_2_7 (σ : St) : St :=
  bd (up2 σ 6 (ix 7) (σ 5 (ix 7))) fun σ16 =>
  m_keep_2_8 σ16
def m_keep_2_6 (σ : St) : St :=
  bd (up2 σ 6 (ix 6) (σ 5 (ix 6))) fun σ14 =>
  m_keep_2_7 σ14
def m_keep_2_5 (σ : St) : St :=
  bd (up2 σ 6 (ix 5) (σ 5 (ix 5))) fun σ12 =>
  m_keep_2_6 σ12
def m_keep_2_4 (σ : St) : St :=
  bd (up2 σ 6 (ix 4) (σ 5 (ix 4))) fun σ10 =>
  m_keep_2_5 σ10
def m_keep_2_3 (σ : St) : St :=
  bd (up2 σ 6 (ix 3) (σ 5 (ix 3))) fun σ8 =>
  m_keep_2_4 σ8
def m_keep_2_2 (σ : St) : St :=
  bd (up2 σ 6 (ix 2) (σ 5 (ix 2))) fun σ6 =>
  m_keep_2_3 σ6
def m_keep_2_1 (σ : St) : St :=
  bd (up2 σ 6 (ix 1) (σ 5 (ix 1))) fun σ4 =>
  m_keep_2_2 σ4
def m_keep_2_0 (σ : St) : St :=
  bd (up2 σ 6 (ix 0) (σ 5 (ix 0))) fun σ2 =>
  m_keep_2_1 σ2
def m_keep (σ : St) : St :=
  m_keep_2_0 σ
def m_takeBack_2_12 (σ : St) : St :=
  σ
def m_takeBack_2_11 (σ : St) : St :=
  bd (up2 σ 5 (ix 11) (σ 6 (ix 11))) fun σ24 =>
  m_takeBack_2_12 σ24
def m_takeBack_2_10 (σ : St) : St :=
  bd (up2 σ 5 (ix 10) (σ 6 (ix 10))) fun σ22 =>
  m_takeBack_2_11 σ22
def m_takeBack_2_9 (σ : St) : St :=
  bd (up2 σ 5 (ix 9) (σ 6 (ix 9))) fun σ20 =>
  m_takeBack_2_10 σ20
def m_takeBack_2_8 (σ : St) : St :=
  bd (up2 σ 5 (ix 8) (σ 6 (ix 8))) fun σ18 =>
  m_takeBack_2_9 σ18
def m_takeBack_2_7 (σ : St) : St :=
  bd (up2 σ 5 (ix 7) (σ 6 (ix 7))) fun σ16 =>
  m_takeBack_2_8 σ16
def m_takeBack_2_6 (σ : St) : St :=
  bd (up2 σ 5 (ix 6) (σ 6 (ix 6))) fun σ14 =>
  m_takeBack_2_7 σ14
def m_takeBack_2_5 (σ : St) : St :=
  bd (up2 σ 5 (ix 5) (σ 6 (ix 5))) fun σ12 =>
  m_takeBack_2_6 σ12
def m_takeBack_2_4 (σ : St) : St :=
  bd (up2 σ 5 (ix 4) (σ 6 (ix 4))) fun σ10 =>
  m_takeBack_2_5 σ10
def m_takeBack_2_3 (σ : St) : St :=
  bd (up2 σ 5 (ix 3) (σ 6 (ix 3))) fun σ8 =>
  m_takeBack_2_4 σ8
def m_takeBack_2_2 (σ : St) : St :=
  bd (up2 σ 5 (ix 2) (σ 6 (ix 2))) fun σ6 =>
  m_takeBack_2_3 σ6
def m_takeBack_2_1 (σ : St) : St :=
  bd (up2 σ 5 (ix 1) (σ 6 (ix 1))) fun σ4 =>
  m_takeBack_2_2 σ4
def m_takeBack_2_0 (σ : St) : St :=
  bd (up2 σ 5 (ix 0) (σ 6 (ix 0))) fun σ2 =>
  m_takeBack_2_1 σ2
def m_takeBack (σ : St) : St :=
  m_takeBack_2_0 σ
def m_isClosedOne_24 (σ : St) (y0 : Int32) : St × Int32 :=
  (σ, y0)
def m_isClosedOne_19 (σ : St) : St × Int32 :=
  m_isClosedOne_24 σ 1
def m_isClosedOne (σ : St) (a1 : Int32) : St × Int32 :=
  if a1 < 3 then
    m_isClosedOne_19 σ
  else
    if (((σ 0 5) >>> ((a1 - 3) &&& 31)) &&& 1) = 1 then
      m_isClosedOne_19 σ
    else
      m_isClosedOne_24 σ 0
def m_take_226_8_7 (σ : St) (x1 : Int32) (y0 : Int32) : St :=
  bd (up2 σ 5 (ix 7) ((σ 1 (ix (((8 * y0) + x1) &&& 255))) &&& 255)) fun σ33 =>
  bd (up2 σ33 0 10 x1) fun σ34 =>
  bd (up2 σ34 0 13 x1) fun σ35 =>
  σ35
def m_take_197_11 (σ : St) (x1 : Int32) (x4 : Int32) (y0 : Int32) : St :=
  bd (up2 σ 5 (ix 11) y0) fun σ31 =>
  if x4 = 0 then
    m_take_226_8_7 σ31 x1 (σ31 0 7)
  else
    m_take_226_8_7 σ31 x1 (σ31 0 6)
def m_take_181 (σ : St) (x1 : Int32) (x4 : Int32) : St :=
  if x4 = 0 then
    m_take_197_11 σ x1 x4 1
  else
    m_take_197_11 σ x1 x4 0
def m_take_164 (σ : St) (x1 : Int32) (x3 : Int32) (x4 : Int32) : St :=
  if x3 = 0 then
    m_take_181 σ x1 x4
  else
    if x4 = 0 then
      bd (up2 σ 5 (ix 10) 0) fun σ37 =>
      m_take_181 σ37 x1 x4
    else
      m_take_181 σ x1 x4
def m_take_134_6 (σ : St) (x1 : Int32) (x3 : Int32) (x4 : Int32) : St :=
  m_take_164 σ x1 x3 x4
def m_take_134_5 (σ : St) (x1 : Int32) (x3 : Int32) (x4 : Int32) : St :=
  if x3 = 0 then
    m_take_164 σ x1 x3 x4
  else
    if x4 = 0 then
      bd (up2 σ 5 (ix 5) 0) fun σ59 =>
      m_take_134_6 σ59 x1 x3 x4
    else
      m_take_164 σ x1 x3 x4
def m_take_134_4 (σ : St) (x1 : Int32) (x3 : Int32) (x4 : Int32) : St :=
  if x3 = 0 then
    m_take_164 σ x1 x3 x4
  else
    if x4 = 0 then
      bd (up2 σ 5 (ix 4) 0) fun σ55 =>
      m_take_134_5 σ55 x1 x3 x4
    else
      m_take_164 σ x1 x3 x4
def m_take_134_3 (σ : St) (x1 : Int32) (x3 : Int32) (x4 : Int32) : St :=
  if x3 = 0 then
    m_take_164 σ x1 x3 x4
  else
    if x4 = 0 then
      bd (up2 σ 5 (ix 3) 0) fun σ51 =>
      m_take_134_4 σ51 x1 x3 x4
    else
      m_take_164 σ x1 x3 x4
def m_take_134_2 (σ : St) (x1 : Int32) (x3 : Int32) (x4 : Int32) : St :=
  if x3 = 0 then
    m_take_164 σ x1 x3 x4
  else
    if x4 = 0 then
      bd (up2 σ 5 (ix 2) 0) fun σ47 =>
      m_take_134_3 σ47 x1 x3 x4
    else
      m_take_164 σ x1 x3 x4
def m_take_134_1 (σ : St) (x1 : Int32) (x3 : Int32) (x4 : Int32) : St :=
  if x3 = 0 then
    m_take_164 σ x1 x3 x4
  else
    if x4 = 0 then
      bd (up2 σ 5 (ix 1) 0) fun σ43 =>
      m_take_134_2 σ43 x1 x3 x4
    else
      m_take_164 σ x1 x3 x4
def m_take_134_0 (σ : St) (x1 : Int32) (x3 : Int32) (x4 : Int32) : St :=
  if x3 = 0 then
    m_take_164 σ x1 x3 x4
  else
    if x4 = 0 then
      bd (up2 σ 5 (ix 0) 0) fun σ39 =>
      m_take_134_1 σ39 x1 x3 x4
    else
      m_take_164 σ x1 x3 x4
def m_take_129_6 (σ : St) (x1 : Int32) (x3 : Int32) (x4 : Int32) (y0 : Int32) (y1 : Int32) : St :=
  bd (up2 σ 5 (ix 6) (y1 + y0)) fun σ26 =>
  m_take_134_0 σ26 x1 x3 x4
def m_take_96 (σ : St) (x1 : Int32) (y0 : Int32) : St :=
  bd2 (m_isClosedOne σ x1) fun σ23 v24 =>
  if y0 = 0 then
    m_take_129_6 σ23 x1 y0 v24 0 (65408 + (16 * (σ23 0 10)))
  else
    m_take_129_6 σ23 x1 y0 v24 1 (65408 + (16 * (σ23 0 10)))
def m_take_33_6 (σ : St) (x1 : Int32) : St :=
  bd (m_push σ (1000 + (σ 0 10))) fun σ18 =>
  if (σ18 0 14) = 0 then
    bd2 (m_isOpenWorld σ18) fun σ20 v21 =>
    if v21 = 0 then
      m_take_96 σ20 x1 1
    else
      m_take_96 σ20 x1 0
  else
    bd (m_takeBack σ18) fun σ61 =>
    bd (up2 σ61 0 11 2) fun σ62 =>
    σ62
def m_take_33_5 (σ : St) (x1 : Int32) : St :=
  bd (m_push σ (σ 5 (ix 5))) fun σ16 =>
  m_take_33_6 σ16 x1
def m_take_33_4 (σ : St) (x1 : Int32) : St :=
  bd (m_push σ (σ 5 (ix 4))) fun σ14 =>
  m_take_33_5 σ14 x1
def m_take_33_3 (σ : St) (x1 : Int32) : St :=
  bd (m_push σ (σ 5 (ix 3))) fun σ12 =>
  m_take_33_4 σ12 x1
def m_take_33_2 (σ : St) (x1 : Int32) : St :=
  bd (m_push σ (σ 5 (ix 2))) fun σ10 =>
  m_take_33_3 σ10 x1
def m_take_33_1 (σ : St) (x1 : Int32) : St :=
  bd (m_push σ (σ 5 (ix 1))) fun σ8 =>
  m_take_33_2 σ8 x1
def m_take_33_0 (σ : St) (x1 : Int32) : St :=
  bd (m_push σ (σ 5 (ix 0))) fun σ6 =>
  m_take_33_1 σ6 x1
def m_take (σ : St) (a1 : Int32) (a2 : Int32) : St :=
  bd (m_keep σ) fun σ1 =>
  bd (m_push σ1 a2) fun σ2 =>
  bd (m_push σ2 (σ2 5 (ix 10))) fun σ3 =>
  bd (m_push σ3 (σ3 5 (ix 6))) fun σ4 =>
  m_take_33_0 σ4 a1
def m_fault_69 (σ : St) : St :=
  σ
def m_fault_49 (σ : St) : St :=
  bd (up2 σ 0 11 2) fun σ4 =>
  m_fault_69 σ4
def m_fault_57 (σ : St) (x1 : Int32) : St :=
  bd (m_take σ x1 (σ 5 (ix 7))) fun σ6 =>
  m_fault_69 σ6
def m_fault_23 (σ : St) (y0 : Int32) : St :=
  bd (m_takeBack σ) fun σ2 =>
  if (σ2 0 10) = 1 then
    m_fault_49 σ2
  else
    if (σ2 0 10) = 2 then
      if y0 = 1 then
        m_fault_57 σ2 y0
      else
        m_fault_49 σ2
    else
      m_fault_57 σ2 y0
def m_fault_19 (σ : St) : St :=
  m_fault_23 σ (σ 0 14)
def m_fault (σ : St) : St :=
  if (σ 0 14) = 2 then
    if (σ 0 4) = 0 then
      m_fault_23 σ 1
    else
      m_fault_19 σ
  else
    m_fault_19 σ
def m_endException_136 (σ : St) : St :=
  σ
def m_endException_108_10 (σ : St) (x2 : Int32) (y0 : Int32) : St :=
  bd (up2 σ 5 (ix 10) y0) fun σ37 =>
  bd2 (m_pop σ37) fun σ38 v39 =>
  bd (up2 σ38 5 (ix 7) (v39 &&& 255)) fun σ40 =>
  if (σ40 0 14) = 0 then
    bd (up2 σ40 0 10 x2) fun σ42 =>
    m_endException_136 σ42
  else
    m_endException_136 σ40
def m_endException_57_n1 (σ : St) (x2 : Int32) : St :=
  bd2 (m_pop σ) fun σ31 v32 =>
  bd (up2 σ31 5 (ix 6) v32) fun σ33 =>
  bd2 (m_pop σ33) fun σ34 v35 =>
  if v35 = 0 then
    m_endException_108_10 σ34 x2 0
  else
    m_endException_108_10 σ34 x2 1
def m_endException_57_0 (σ : St) (x2 : Int32) : St :=
  bd2 (m_pop σ) fun σ27 v28 =>
  bd (up2 σ27 5 (ix 0) v28) fun σ29 =>
  m_endException_57_n1 σ29 x2
def m_endException_57_1 (σ : St) (x2 : Int32) : St :=
  bd2 (m_pop σ) fun σ23 v24 =>
  bd (up2 σ23 5 (ix 1) v24) fun σ25 =>
  m_endException_57_0 σ25 x2
def m_endException_57_2 (σ : St) (x2 : Int32) : St :=
  bd2 (m_pop σ) fun σ19 v20 =>
  bd (up2 σ19 5 (ix 2) v20) fun σ21 =>
  m_endException_57_1 σ21 x2
def m_endException_57_3 (σ : St) (x2 : Int32) : St :=
  bd2 (m_pop σ) fun σ15 v16 =>
  bd (up2 σ15 5 (ix 3) v16) fun σ17 =>
  m_endException_57_2 σ17 x2
def m_endException_57_4 (σ : St) (x2 : Int32) : St :=
  bd2 (m_pop σ) fun σ11 v12 =>
  bd (up2 σ11 5 (ix 4) v12) fun σ13 =>
  m_endException_57_3 σ13 x2
def m_endException_57_5 (σ : St) (x2 : Int32) : St :=
  bd2 (m_pop σ) fun σ7 v8 =>
  bd (up2 σ7 5 (ix 5) v8) fun σ9 =>
  m_endException_57_4 σ9 x2
def m_endException_54 (σ : St) (x2 : Int32) : St :=
  m_endException_57_5 σ x2
def m_endException_34_11 (σ : St) (x2 : Int32) (y0 : Int32) : St :=
  bd (up2 σ 5 (ix 11) y0) fun σ2 =>
  bd2 (m_pop σ2) fun σ3 v4 =>
  if v4 = (1000 + x2) then
    m_endException_54 σ3 x2
  else
    bd (m_speak σ3 2) fun σ43 =>
    m_endException_54 σ43 x2
def m_endException (σ : St) : St :=
  if (((σ 5 (ix 6)) - 65408) &&& 1) = 1 then
    m_endException_34_11 σ (((σ 5 (ix 6)) - 65408) / 16) 0
  else
    m_endException_34_11 σ (((σ 5 (ix 6)) - 65408) / 16) 1
def m_returns_152 (σ : St) : St :=
  σ
def m_returns_147 (σ : St) : St :=
  bd (m_speak σ 2) fun σ5 =>
  m_returns_152 σ5
def m_returns_121 (σ : St) (x1 : Int32) : St :=
  if x1 < 65408 then
    m_returns_147 σ
  else
    if 65520 ≤ x1 then
      m_returns_147 σ
    else
      if (σ 0 10) = 0 then
        m_returns_147 σ
      else
        bd (m_endException σ) fun σ8 =>
        m_returns_152 σ8
def m_returns_103 (σ : St) : St :=
  bd2 (m_pop σ) fun σ16 v17 =>
  bd (up2 σ16 5 (ix 7) (v17 &&& 255)) fun σ18 =>
  m_returns_152 σ18
def m_returns_65 (σ : St) (x1 : Int32) : St :=
  if x1 = 65520 then
    bd2 (m_isOpenWorld σ) fun σ9 v10 =>
    if v10 = 0 then
      m_returns_121 σ9 x1
    else
      bd (up2 σ9 5 (ix 11) 0) fun σ12 =>
      bd2 (m_pop σ12) fun σ13 v14 =>
      if v14 = 4096 then
        m_returns_103 σ13
      else
        bd (m_speak σ13 2) fun σ19 =>
        m_returns_103 σ19
  else
    m_returns_121 σ x1
def m_returns (σ : St) : St :=
  if 32768 ≤ (σ 5 (ix 6)) then
    if 65408 ≤ (σ 5 (ix 6)) then
      m_returns_65 σ (σ 5 (ix 6))
    else
      bd2 (m_isOpenWorld σ) fun σ20 v21 =>
      if v21 = 0 then
        bd (up2 σ20 5 (ix 11) 1) fun σ23 =>
        bd (up2 σ23 5 (ix 7) ((σ 5 (ix 6)) &&& 255)) fun σ24 =>
        m_returns_152 σ24
      else
        m_returns_65 σ20 (σ 5 (ix 6))
  else
    bd (up2 σ 5 (ix 7) ((σ 5 (ix 6)) &&& 255)) fun σ25 =>
    m_returns_152 σ25
def m_namesSeven_91 (σ : St) (y0 : Int32) : St × Int32 :=
  (σ, y0)
def m_namesSeven_86 (σ : St) : St × Int32 :=
  m_namesSeven_91 σ 1
def m_namesSeven_90 (σ : St) : St × Int32 :=
  m_namesSeven_91 σ 0
def m_namesSeven_80 (σ : St) (x3 : Int32) : St × Int32 :=
  if x3 = 7 then
    m_namesSeven_86 σ
  else
    m_namesSeven_90 σ
def m_namesSeven_58 (σ : St) (x0 : Int32) (x3 : Int32) (x4 : Int32) (y0 : Int32) : St × Int32 :=
  if x4 = 0 then
    if y0 = 0 then
      if x0 = 1 then
        m_namesSeven_80 σ x3
      else
        if x0 = 2 then
          m_namesSeven_80 σ x3
        else
          m_namesSeven_90 σ
    else
      m_namesSeven_86 σ
  else
    m_namesSeven_86 σ
def m_namesSeven_57 (σ : St) (x0 : Int32) (x3 : Int32) (x4 : Int32) : St × Int32 :=
  m_namesSeven_58 σ x0 x3 x4 0
def m_namesSeven_47 (σ : St) (x0 : Int32) (x2 : Int32) (x3 : Int32) (x4 : Int32) : St × Int32 :=
  if x2 = 7 then
    m_namesSeven_58 σ x0 x3 x4 1
  else
    m_namesSeven_57 σ x0 x3 x4
def m_namesSeven_29 (σ : St) (x0 : Int32) (x2 : Int32) (x3 : Int32) (x4 : Int32) : St × Int32 :=
  if x0 = 9 then
    m_namesSeven_47 σ x0 x2 x3 x4
  else
    if x0 = 11 then
      m_namesSeven_47 σ x0 x2 x3 x4
    else
      if x0 = 12 then
        m_namesSeven_47 σ x0 x2 x3 x4
      else
        m_namesSeven_57 σ x0 x3 x4
def m_namesSeven_17 (σ : St) (x0 : Int32) (x2 : Int32) (x3 : Int32) (y0 : Int32) : St × Int32 :=
  if x0 < 1 then
    m_namesSeven_29 σ x0 x2 x3 y0
  else
    if x0 ≤ 4 then
      m_namesSeven_47 σ x0 x2 x3 y0
    else
      m_namesSeven_29 σ x0 x2 x3 y0
def m_namesSeven_16 (σ : St) (x0 : Int32) (x2 : Int32) (x3 : Int32) : St × Int32 :=
  m_namesSeven_17 σ x0 x2 x3 0
def m_namesSeven (σ : St) (a0 : Int32) (a1 : Int32) (a2 : Int32) (a3 : Int32) : St × Int32 :=
  if 6 < a0 then
    m_namesSeven_16 σ a0 a2 a3
  else
    if a1 = 7 then
      m_namesSeven_17 σ a0 a2 a3 1
    else
      m_namesSeven_16 σ a0 a2 a3
def m_outwards_37 (σ : St) (x4 : Int32) : St :=
  bd (up2 σ 5 (ix 11) 1) fun σ2 =>
  bd (up2 σ2 5 (ix 7) x4) fun σ3 =>
  σ3
def m_outwards (σ : St) (a1 : Int32) (a2 : Int32) (a3 : Int32) : St :=
  if a3 = 0 then
    m_outwards_37 σ ((σ 5 (ix a1)) &&& 255)
  else
    bd (m_push σ a2) fun σ4 =>
    bd (m_push σ4 4096) fun σ5 =>
    bd (up2 σ5 5 (ix 6) 65520) fun σ6 =>
    m_outwards_37 σ6 ((σ 5 (ix a1)) &&& 255)
def m_call (σ : St) (a1 : Int32) (a2 : Int32) : St :=
  bd (up2 σ 5 (ix 6) a2) fun σ1 =>
  bd (up2 σ1 5 (ix 7) ((σ 5 (ix a1)) &&& 255)) fun σ2 =>
  σ2
def m_perform_94 (σ : St) : St :=
  bd (m_speak σ 1) fun σ5 =>
  σ5
def m_perform_465 (σ : St) : St :=
  σ
def m_perform_269_10 (σ : St) (y0 : Int32) : St :=
  bd (up2 σ 5 (ix 10) y0) fun σ15 =>
  m_perform_465 σ15
def m_perform_391_7 (σ : St) (y0 : Int32) : St :=
  bd (up2 σ 5 (ix 7) y0) fun σ32 =>
  m_perform_465 σ32
def m_perform_100 (σ : St) (x1 : Int32) (x2 : Int32) (x3 : Int32) (x4 : Int32) (x5 : Int32) (x6 : Int32) : St :=
  bd (up2 σ 5 (ix 7) x6) fun σ7 =>
  if x2 = 0 then
    bd (up2 σ7 5 (ix x3) (x1 &&& 511)) fun σ9 =>
    m_perform_465 σ9
  else if x2 = 1 then
    bd (up2 σ7 5 (ix x3) (((σ7 5 (ix x4)) + (σ7 5 (ix x5))) &&& 65535)) fun σ11 =>
    m_perform_465 σ11
  else if x2 = 2 then
    bd (up2 σ7 5 (ix x3) (((σ7 5 (ix x4)) - (σ7 5 (ix x5))) &&& 65535)) fun σ13 =>
    if (σ13 5 (ix x3)) = 0 then
      m_perform_269_10 σ13 1
    else
      m_perform_269_10 σ13 0
  else if x2 = 3 then
    bd2 (m_read σ7 ((σ7 5 (ix x4)) + (x1 &&& 63))) fun σ17 v18 =>
    bd (up2 σ17 5 (ix x3) v18) fun σ19 =>
    m_perform_465 σ19
  else if x2 = 4 then
    bd (m_write σ7 ((σ7 5 (ix x4)) + (x1 &&& 63)) (σ7 5 (ix x3))) fun σ21 =>
    m_perform_465 σ21
  else if x2 = 5 then
    bd (m_push σ7 (σ7 5 (ix x3))) fun σ23 =>
    m_perform_465 σ23
  else if x2 = 6 then
    bd2 (m_pop σ7) fun σ25 v26 =>
    bd (up2 σ25 5 (ix x3) v26) fun σ27 =>
    m_perform_465 σ27
  else if x2 = 7 then
    bd (up2 σ7 5 (ix 7) (x1 &&& 255)) fun σ29 =>
    m_perform_465 σ29
  else if x2 = 8 then
    if (σ7 5 (ix 10)) = 1 then
      m_perform_391_7 σ7 (x1 &&& 255)
    else
      m_perform_391_7 σ7 x6
  else if x2 = 9 then
    bd (m_call σ7 x4 x6) fun σ34 =>
    m_perform_465 σ34
  else if x2 = 10 then
    m_perform_465 σ7
  else if x2 = 11 then
    bd (m_outwards σ7 x4 x6 0) fun σ37 =>
    m_perform_465 σ37
  else if x2 = 12 then
    bd (m_outwards σ7 x4 x6 1) fun σ39 =>
    m_perform_465 σ39
  else if x2 = 13 then
    bd (m_returns σ7) fun σ41 =>
    m_perform_465 σ41
  else if x2 = 14 then
    bd (up2 σ7 0 12 ((σ7 0 12) ||| ((1 : Int32) <<< ((3 + (x5 - x5 / 4 * 4)) &&& 31)))) fun σ43 =>
    m_perform_465 σ43
  else bd (up2 σ7 0 11 1) fun σ44 =>
    m_perform_465 σ44
def m_perform_68 (σ : St) (x1 : Int32) (x2 : Int32) (x3 : Int32) (x4 : Int32) (x5 : Int32) (x6 : Int32) (y0 : Int32) : St :=
  bd2 (m_namesSeven σ x2 x3 x4 x5) fun σ2 v3 =>
  if v3 = 0 then
    if y0 = 0 then
      m_perform_100 σ2 x1 x2 x3 x4 x5 x6
    else
      bd2 (m_isOpenWorld σ2) fun σ45 v46 =>
      if v46 = 0 then
        m_perform_100 σ45 x1 x2 x3 x4 x5 x6
      else
        m_perform_94 σ45
  else
    m_perform_94 σ2
def m_perform_63 (σ : St) (x1 : Int32) (x2 : Int32) (x3 : Int32) (x4 : Int32) (x5 : Int32) (x6 : Int32) : St :=
  m_perform_68 σ x1 x2 x3 x4 x5 x6 1
def m_perform (σ : St) (a1 : Int32) : St :=
  if (a1 >>> ((12 : Int32) &&& 31)) = 11 then
    m_perform_63 σ a1 (a1 >>> ((12 : Int32) &&& 31)) ((a1 >>> ((9 : Int32) &&& 31)) &&& 7) ((a1 >>> ((6 : Int32) &&& 31)) &&& 7) ((a1 >>> ((3 : Int32) &&& 31)) &&& 7) (((σ 5 (ix 7)) + 1) &&& 255)
  else
    if (a1 >>> ((12 : Int32) &&& 31)) = 12 then
      m_perform_63 σ a1 (a1 >>> ((12 : Int32) &&& 31)) ((a1 >>> ((9 : Int32) &&& 31)) &&& 7) ((a1 >>> ((6 : Int32) &&& 31)) &&& 7) ((a1 >>> ((3 : Int32) &&& 31)) &&& 7) (((σ 5 (ix 7)) + 1) &&& 255)
    else
      if (a1 >>> ((12 : Int32) &&& 31)) = 15 then
        m_perform_63 σ a1 (a1 >>> ((12 : Int32) &&& 31)) ((a1 >>> ((9 : Int32) &&& 31)) &&& 7) ((a1 >>> ((6 : Int32) &&& 31)) &&& 7) ((a1 >>> ((3 : Int32) &&& 31)) &&& 7) (((σ 5 (ix 7)) + 1) &&& 255)
      else
        m_perform_68 σ a1 (a1 >>> ((12 : Int32) &&& 31)) ((a1 >>> ((9 : Int32) &&& 31)) &&& 7) ((a1 >>> ((6 : Int32) &&& 31)) &&& 7) ((a1 >>> ((3 : Int32) &&& 31)) &&& 7) (((σ 5 (ix 7)) + 1) &&& 255) 0
def m_instruction_145 (σ : St) : St :=
  σ
def m_instruction_134 (σ : St) : St :=
  if (σ 0 14) = 0 then
    m_instruction_145 σ
  else
    bd (m_fault σ) fun σ15 =>
    m_instruction_145 σ15
def m_instruction_116 (σ : St) (x1 : Int32) (x4 : Int32) : St :=
  if x4 = 0 then
    bd (m_speak σ 2) fun σ13 =>
    m_instruction_134 σ13
  else
    bd (m_perform σ x1) fun σ16 =>
    m_instruction_134 σ16
def m_instruction_90 (σ : St) (x1 : Int32) (x3 : Int32) (y0 : Int32) : St :=
  if x3 = 0 then
    m_instruction_116 σ x1 y0
  else
    bd (up2 σ 5 (ix 11) 0) fun σ17 =>
    bd (up2 σ17 5 (ix 6) ((σ17 5 (ix 6)) ||| 32768)) fun σ18 =>
    m_instruction_116 σ18 x1 y0
def m_instruction_72 (σ : St) (x1 : Int32) (x3 : Int32) : St :=
  m_instruction_90 σ x1 x3 1
def m_instruction_55 (σ : St) (x1 : Int32) (x2 : Int32) (y0 : Int32) : St :=
  bd2 (m_isOpenWorld σ) fun σ7 v8 =>
  if v8 = 0 then
    if x2 = 1 then
      m_instruction_90 σ7 x1 y0 0
    else
      m_instruction_90 σ7 x1 y0 1
  else
    if x2 = 1 then
      m_instruction_72 σ7 x1 y0
    else
      if y0 = 0 then
        m_instruction_90 σ7 x1 y0 0
      else
        m_instruction_72 σ7 x1 y0
def m_instruction_54 (σ : St) (x1 : Int32) (x2 : Int32) : St :=
  m_instruction_55 σ x1 x2 0
def m_instruction (σ : St) : St :=
  bd (m_keep σ) fun σ1 =>
  bd2 (m_kindAt σ1 (σ1 5 (ix 7))) fun σ2 v3 =>
  bd2 (m_isOpenWorld σ2) fun σ4 v5 =>
  if v5 = 0 then
    m_instruction_54 σ4 (σ1 1 (ix (σ1 5 (ix 7)))) v3
  else
    if v3 = 2 then
      if ((σ1 1 (ix (σ1 5 (ix 7)))) >>> ((12 : Int32) &&& 31)) = 10 then
        m_instruction_55 σ4 (σ1 1 (ix (σ1 5 (ix 7)))) v3 1
      else
        m_instruction_54 σ4 (σ1 1 (ix (σ1 5 (ix 7)))) v3
    else
      m_instruction_54 σ4 (σ1 1 (ix (σ1 5 (ix 7)))) v3
def m_step_90 (σ : St) : St :=
  σ
def m_step_79 (σ : St) : St :=
  if (σ 0 11) = 0 then
    bd (m_instruction σ) fun σ12 =>
    m_step_90 σ12
  else
    m_step_90 σ
def m_step_5_2 (σ : St) (x1 : Int32) : St :=
  if x1 ≤ 0 then
    m_step_79 σ
  else
    bd (up2 σ 0 12 ((σ 0 12) &&& (((1 : Int32) <<< (x1 &&& 31)) ^^^ (-1)))) fun σ13 =>
    bd (m_take σ13 x1 (σ13 5 (ix 7))) fun σ14 =>
    m_step_79 σ14
def m_step_42_3 (σ : St) (y0 : Int32) : St :=
  m_step_5_2 σ y0
def m_step_41_3 (σ : St) (x1 : Int32) : St :=
  m_step_42_3 σ x1
def m_step_37_3 (σ : St) : St :=
  m_step_42_3 σ 3
def m_step_5_3 (σ : St) (x1 : Int32) : St :=
  if (((σ 0 12) >>> ((3 : Int32) &&& 31)) &&& 1) = 1 then
    if (σ 0 10) = 0 then
      m_step_37_3 σ
    else
      if (σ 0 10) ≤ 3 then
        m_step_41_3 σ x1
      else
        m_step_37_3 σ
  else
    m_step_41_3 σ x1
def m_step_42_4 (σ : St) (y0 : Int32) : St :=
  m_step_5_3 σ y0
def m_step_41_4 (σ : St) (x1 : Int32) : St :=
  m_step_42_4 σ x1
def m_step_37_4 (σ : St) : St :=
  m_step_42_4 σ 4
def m_step_5_4 (σ : St) (x1 : Int32) : St :=
  if (((σ 0 12) >>> ((4 : Int32) &&& 31)) &&& 1) = 1 then
    if (σ 0 10) = 0 then
      m_step_37_4 σ
    else
      if (σ 0 10) ≤ 4 then
        m_step_41_4 σ x1
      else
        m_step_37_4 σ
  else
    m_step_41_4 σ x1
def m_step_42_5 (σ : St) (y0 : Int32) : St :=
  m_step_5_4 σ y0
def m_step_41_5 (σ : St) (x1 : Int32) : St :=
  m_step_42_5 σ x1
def m_step_37_5 (σ : St) : St :=
  m_step_42_5 σ 5
def m_step_5_5 (σ : St) (x1 : Int32) : St :=
  if (((σ 0 12) >>> ((5 : Int32) &&& 31)) &&& 1) = 1 then
    if (σ 0 10) = 0 then
      m_step_37_5 σ
    else
      if (σ 0 10) ≤ 5 then
        m_step_41_5 σ x1
      else
        m_step_37_5 σ
  else
    m_step_41_5 σ x1
def m_step_42_6 (σ : St) (y0 : Int32) : St :=
  m_step_5_5 σ y0
def m_step_41_6 (σ : St) (x1 : Int32) : St :=
  m_step_42_6 σ x1
def m_step_37_6 (σ : St) : St :=
  m_step_42_6 σ 6
def m_step_5_6 (σ : St) (x1 : Int32) : St :=
  if (((σ 0 12) >>> ((6 : Int32) &&& 31)) &&& 1) = 1 then
    if (σ 0 10) = 0 then
      m_step_37_6 σ
    else
      if (σ 0 10) ≤ 6 then
        m_step_41_6 σ x1
      else
        m_step_37_6 σ
  else
    m_step_41_6 σ x1
def m_step (σ : St) : St :=
  m_step_5_6 σ 0
def m_word (σ : St) (a1 : Int32) : St × Int32 :=
  (σ, (σ 1 (ix (a1 &&& 255))))
def m_register_10 (σ : St) : St × Int32 :=
  (σ, (-1))
def m_register_68 (σ : St) (y0 : Int32) : St × Int32 :=
  (σ, y0)
def m_register (σ : St) (a1 : Int32) : St × Int32 :=
  if a1 < 0 then
    m_register_10 σ
  else
    if a1 ≤ 15 then
      if 12 ≤ a1 then
        if a1 = 12 then
          m_register_68 σ (σ 0 10)
        else
          if a1 = 13 then
            m_register_68 σ (σ 0 11)
          else
            if a1 = 14 then
              m_register_68 σ (σ 0 12)
            else
              m_register_68 σ (σ 0 13)
      else
        (σ, (σ 5 (ix a1)))
    else
      m_register_10 σ
def m_kind (σ : St) (a1 : Int32) : St × Int32 :=
  bd2 (m_kindAt σ a1) fun σ1 v2 =>
  (σ1, v2)
def itr (f : St → St) : Nat → St → St
  | 0, σ => σ
  | j + 1, σ => itr f j (f σ)
def k_region_63 : Nat → St → Int32 → St × Int32
  | 0, σ, _ => (σ, 1)
  | f + 1, σ, x => bd2 (k_kindByRegions σ x) fun σ1 v2 => bd (up2 σ1 2 (ix x) v2) fun σ3 => k_region_63 f σ3 (x + 1)
def k_region (σ : St) (a1 a2 a3 a4 : Int32) : St × Int32 :=
  if a1 < 0 then (σ, 0) else if 4 ≤ a1 then (σ, 0) else if a4 < 0 then (σ, 0) else if a4 ≤ 2 then
    bd2 (k_isAddress σ a2) fun σ5 v6 => if v6 = 0 then (σ5, 0) else
    bd2 (k_isAddress σ5 a3) fun σ8 v9 => if v9 = 0 then (σ8, 0) else
    bd (up2 σ8 3 (ix a1) a2) fun σ11 =>
    bd (up2 σ11 4 (ix a1) a3) fun σ12 =>
    bd (up2 σ12 5 (ix a1) a4) fun σ13 =>
    k_region_63 256 σ13 0
  else (σ, 0)
def k_run_15 : Nat → St → Int32 → St × Int32
  | 0, σ, x => (σ, x)
  | f + 1, σ, x => if (σ 0 11) = 0 then bd (k_step σ) fun σ1 => k_run_15 f σ1 (x + 1) else (σ, x)
def k_run (σ : St) (a1 : Int32) : St × Int32 := if a1 < 0 then (σ, (-1)) else if a1 ≤ 200 then k_run_15 (ix a1) σ 0 else (σ, (-1))
def m_run_15 : Nat → St → Int32 → St × Int32
  | 0, σ, x => (σ, x)
  | f + 1, σ, x => if (σ 0 11) = 0 then bd (m_step σ) fun σ1 => m_run_15 f σ1 (x + 1) else (σ, x)
def m_run (σ : St) (a1 : Int32) : St × Int32 := if a1 < 0 then (σ, (-1)) else if a1 ≤ 200 then m_run_15 (ix a1) σ 0 else (σ, (-1))
abbrev actOK (σ : St) : Prop := bt0 (σ 6 6) 7
abbrev pcOK (σ : St) : Prop := vp_in (σ 5 (ix 7)) 256
end
section

theorem ix_0 : ix 0 = 0 := by decide
theorem ix_1 : ix 1 = 1 := by decide
theorem ix_2 : ix 2 = 2 := by decide
theorem ix_3 : ix 3 = 3 := by decide
theorem ix_4 : ix 4 = 4 := by decide
theorem ix_5 : ix 5 = 5 := by decide
theorem ix_6 : ix 6 = 6 := by decide
theorem ix_7 : ix 7 = 7 := by decide
theorem ix_8 : ix 8 = 8 := by decide
theorem ix_9 : ix 9 = 9 := by decide
theorem ix_10 : ix 10 = 10 := by decide
theorem ix_11 : ix 11 = 11 := by decide
theorem up2_at {σ : St} {c k : Nat} {v : Int32} : up2 σ c k v c k = v := by simp [up2, upd]
theorem up2_k {σ : St} {c k j : Nat} {v : Int32} (h : j ≠ k) : up2 σ c k v c j = σ c j := by simp [up2, upd, h]
theorem up2_c {σ : St} {c d k : Nat} {v : Int32} (h : d ≠ c) : up2 σ c k v d = σ d := by simp [up2, h]
theorem up2_same {σ : St} {c k : Nat} {v : Int32} (h : σ c k = v) : up2 σ c k v = σ := by
  funext d j
  by_cases hd : d = c
  · subst hd
    by_cases hj : j = k
    · subst hj
      simp [up2, upd, h]
    · simp [up2, upd, hj]
  · simp [up2, hd]
theorem up2_comm {σ : St} {c k c' k' : Nat} {v v' : Int32} (h : c ≠ c' ∨ k ≠ k') : up2 (up2 σ c k v) c' k' v' = up2 (up2 σ c' k' v') c k v := by
  funext d j
  by_cases h1 : d = c
  · by_cases h2 : d = c'
    · subst h1
      subst h2
      have hk : k ≠ k' := h.resolve_left (fun z => z rfl)
      by_cases h3 : j = k
      · subst h3
        simp [up2, upd, hk]
      · by_cases h4 : j = k'
        · subst h4
          simp [up2, upd, h3]
        · simp [up2, upd, h3, h4]
    · subst h1
      simp [up2, h2]
  · by_cases h2 : d = c'
    · subst h2
      simp [up2, h1]
    · simp [up2, h1, h2]
theorem st_ext {τ τ' : St} (h0 : τ 0 = τ' 0) (h1 : τ 1 = τ' 1) (h2 : τ 2 = τ' 2) (h3 : τ 3 = τ' 3) (h4 : τ 4 = τ' 4) (h5 : τ 5 = τ' 5) (h6 : τ 6 = τ' 6) (h7 : ∀ c, τ (c + 7) = τ' (c + 7)) : τ = τ' := by
  funext c
  match c with
  | 0 => exact h0
  | 1 => exact h1
  | 2 => exact h2
  | 3 => exact h3
  | 4 => exact h4
  | 5 => exact h5
  | 6 => exact h6
  | c + 7 => exact h7 c
/-- the class's present registers (object o, row r) in the reference's order -/
def rg (o r : Nat → Int32) : Nat → Int32 := fun k => if k < 7 then r k else if k = 7 then o 3 else if k = 8 then o 1 else if k = 9 then o 2 else if k = 10 then o 4 else if k = 11 then o 5 else 0
def v0 (σ : St) (act : Int32) : Nat → Int32 := fun k => if k = 4 then σ 0 7 else if k = 5 then σ 0 8 else if k = 6 then σ 0 9 else if k = 7 then σ 0 10 else if k = 10 then act else if k = 11 then σ 0 11 else if k = 12 then σ 0 12 else if k = 13 then σ 0 13 else if k = 14 then σ 0 14 else 0
/-- the class's state, read as a state of the reference -/
def vK (σ : St) : St := fun c => if c = 0 then v0 σ (σ 6 6) else if c = 1 then σ 1 else if c = 2 then σ 3 else if c = 3 then σ 4 else if c = 4 then σ 5 else if c = 5 then rg (σ 6) (σ 8) else if c = 6 then rg (σ 7) (σ 9) else fun _ => 0
theorem rg_3 {o r : Nat → Int32} {v : Int32} : rg (upd o 3 v) r = upd (rg o r) 7 v := by
  funext k
  by_cases h : k = 7 <;> simp [rg, upd, h]
theorem rg_1 {o r : Nat → Int32} {v : Int32} : rg (upd o 1 v) r = upd (rg o r) 8 v := by
  funext k
  by_cases h : k = 8 <;> simp [rg, upd, h]
theorem rg_2 {o r : Nat → Int32} {v : Int32} : rg (upd o 2 v) r = upd (rg o r) 9 v := by
  funext k
  by_cases h : k = 9 <;> simp [rg, upd, h]
theorem rg_4 {o r : Nat → Int32} {v : Int32} : rg (upd o 4 v) r = upd (rg o r) 10 v := by
  funext k
  by_cases h : k = 10 <;> simp [rg, upd, h]
theorem rg_5 {o r : Nat → Int32} {v : Int32} : rg (upd o 5 v) r = upd (rg o r) 11 v := by
  funext k
  by_cases h : k = 11 <;> simp [rg, upd, h]
theorem rg_6 {o r : Nat → Int32} {v : Int32} : rg (upd o 6 v) r = rg o r := by
  funext k
  simp [rg, upd]
theorem rg_r {o r : Nat → Int32} {v : Int32} {j : Nat} (hj : j < 7) : rg o (upd r j v) = upd (rg o r) j v := by
  funext k
  by_cases h : k = j
  · subst h
    simp [rg, upd, hj]
  · simp [rg, upd, h]
theorem vK_r {σ : St} {k : Nat} (h : k < 7) : vK σ 5 k = σ 8 k := by
  show rg (σ 6) (σ 8) k = σ 8 k
  simp [rg, h]
theorem vK_6_3 {σ : St} {v : Int32} : vK (up2 σ 6 3 v) = up2 (vK σ) 5 7 v := st_ext rfl rfl rfl rfl rfl (rg_3 (o := σ 6) (r := σ 8) (v := v)) rfl (fun _ => rfl)
theorem vK_6_1 {σ : St} {v : Int32} : vK (up2 σ 6 1 v) = up2 (vK σ) 5 8 v := st_ext rfl rfl rfl rfl rfl (rg_1 (o := σ 6) (r := σ 8) (v := v)) rfl (fun _ => rfl)
theorem vK_6_2 {σ : St} {v : Int32} : vK (up2 σ 6 2 v) = up2 (vK σ) 5 9 v := st_ext rfl rfl rfl rfl rfl (rg_2 (o := σ 6) (r := σ 8) (v := v)) rfl (fun _ => rfl)
theorem vK_6_4 {σ : St} {v : Int32} : vK (up2 σ 6 4 v) = up2 (vK σ) 5 10 v := st_ext rfl rfl rfl rfl rfl (rg_4 (o := σ 6) (r := σ 8) (v := v)) rfl (fun _ => rfl)
theorem vK_6_5 {σ : St} {v : Int32} : vK (up2 σ 6 5 v) = up2 (vK σ) 5 11 v := st_ext rfl rfl rfl rfl rfl (rg_5 (o := σ 6) (r := σ 8) (v := v)) rfl (fun _ => rfl)
theorem vK_8 {σ : St} {k : Nat} (h : k < 7) {v : Int32} : vK (up2 σ 8 k v) = up2 (vK σ) 5 k v := st_ext rfl rfl rfl rfl rfl (rg_r (o := σ 6) (r := σ 8) (v := v) h) rfl (fun _ => rfl)
theorem vK_1 {σ : St} {k : Nat} {v : Int32} : vK (up2 σ 1 k v) = up2 (vK σ) 1 k v := st_ext rfl rfl rfl rfl rfl rfl rfl (fun _ => rfl)
theorem v0_7 {σ : St} {v x : Int32} : v0 (up2 σ 0 7 v) x = upd (v0 σ x) 4 v := by
  funext k
  by_cases h : k = 4 <;> simp [v0, up2, upd, h]
theorem vK_0_7 {σ : St} {v : Int32} : vK (up2 σ 0 7 v) = up2 (vK σ) 0 4 v := st_ext v0_7 rfl rfl rfl rfl rfl rfl (fun _ => rfl)
theorem v0_8 {σ : St} {v x : Int32} : v0 (up2 σ 0 8 v) x = upd (v0 σ x) 5 v := by
  funext k
  by_cases h : k = 5 <;> simp [v0, up2, upd, h]
theorem vK_0_8 {σ : St} {v : Int32} : vK (up2 σ 0 8 v) = up2 (vK σ) 0 5 v := st_ext v0_8 rfl rfl rfl rfl rfl rfl (fun _ => rfl)
theorem v0_9 {σ : St} {v x : Int32} : v0 (up2 σ 0 9 v) x = upd (v0 σ x) 6 v := by
  funext k
  by_cases h : k = 6 <;> simp [v0, up2, upd, h]
theorem vK_0_9 {σ : St} {v : Int32} : vK (up2 σ 0 9 v) = up2 (vK σ) 0 6 v := st_ext v0_9 rfl rfl rfl rfl rfl rfl (fun _ => rfl)
theorem v0_10 {σ : St} {v x : Int32} : v0 (up2 σ 0 10 v) x = upd (v0 σ x) 7 v := by
  funext k
  by_cases h : k = 7 <;> simp [v0, up2, upd, h]
theorem vK_0_10 {σ : St} {v : Int32} : vK (up2 σ 0 10 v) = up2 (vK σ) 0 7 v := st_ext v0_10 rfl rfl rfl rfl rfl rfl (fun _ => rfl)
theorem v0_11 {σ : St} {v x : Int32} : v0 (up2 σ 0 11 v) x = upd (v0 σ x) 11 v := by
  funext k
  by_cases h : k = 11 <;> simp [v0, up2, upd, h]
theorem vK_0_11 {σ : St} {v : Int32} : vK (up2 σ 0 11 v) = up2 (vK σ) 0 11 v := st_ext v0_11 rfl rfl rfl rfl rfl rfl (fun _ => rfl)
theorem v0_12 {σ : St} {v x : Int32} : v0 (up2 σ 0 12 v) x = upd (v0 σ x) 12 v := by
  funext k
  by_cases h : k = 12 <;> simp [v0, up2, upd, h]
theorem vK_0_12 {σ : St} {v : Int32} : vK (up2 σ 0 12 v) = up2 (vK σ) 0 12 v := st_ext v0_12 rfl rfl rfl rfl rfl rfl (fun _ => rfl)
theorem v0_13 {σ : St} {v x : Int32} : v0 (up2 σ 0 13 v) x = upd (v0 σ x) 13 v := by
  funext k
  by_cases h : k = 13 <;> simp [v0, up2, upd, h]
theorem vK_0_13 {σ : St} {v : Int32} : vK (up2 σ 0 13 v) = up2 (vK σ) 0 13 v := st_ext v0_13 rfl rfl rfl rfl rfl rfl (fun _ => rfl)
theorem v0_14 {σ : St} {v x : Int32} : v0 (up2 σ 0 14 v) x = upd (v0 σ x) 14 v := by
  funext k
  by_cases h : k = 14 <;> simp [v0, up2, upd, h]
theorem vK_0_14 {σ : St} {v : Int32} : vK (up2 σ 0 14 v) = up2 (vK σ) 0 14 v := st_ext v0_14 rfl rfl rfl rfl rfl rfl (fun _ => rfl)
theorem v0_act {σ : St} {v x : Int32} : v0 (up2 σ 6 6 v) v = upd (v0 σ x) 10 v := by
  funext k
  by_cases h : k = 10 <;> simp [v0, up2, upd, h]
theorem vK_6_6 {σ : St} {v : Int32} : vK (up2 σ 6 6 v) = up2 (vK σ) 0 10 v := st_ext v0_act rfl rfl rfl rfl (rg_6 (o := σ 6) (r := σ 8) (v := v)) rfl (fun _ => rfl)
end
section
-- numbers
abbrev wd (x : Int32) : Prop := x.toBitVec.toNat < 65536
abbrev b8 (x : Int32) : Prop := x.toBitVec.toNat < 256
abbrev ac (x : Int32) : Prop := x = 0 ∨ x = 1 ∨ x = 2 ∨ x = 3 ∨ x = 4 ∨ x = 5 ∨ x = 6
theorem i_ext {x y : Int32} (h : x.toBitVec.toNat = y.toBitVec.toNat) : x = y := Int32.toBitVec_inj.mp (BitVec.eq_of_toNat_eq h)
theorem and_nat (x y : Int32) : (x &&& y).toBitVec.toNat = x.toBitVec.toNat &&& y.toBitVec.toNat := by rw [Int32.toBitVec_and, BitVec.toNat_and]
theorem or_nat (x y : Int32) : (x ||| y).toBitVec.toNat = x.toBitVec.toNat ||| y.toBitVec.toNat := by rw [Int32.toBitVec_or, BitVec.toNat_or]
theorem and_lt (x y : Int32) {n : Nat} (h : y.toBitVec.toNat < n) : (x &&& y).toBitVec.toNat < n := by rw [and_nat]; exact Nat.lt_of_le_of_lt Nat.and_le_right h
theorem wd_and (x : Int32) : wd (x &&& 65535) := and_lt x 65535 (by decide)
theorem wd_511 (x : Int32) : wd (x &&& 511) := and_lt x 511 (by decide)
theorem b8_and (x : Int32) : b8 (x &&& 255) := and_lt x 255 (by decide)
theorem b8_wd {x : Int32} (h : b8 x) : wd x := Nat.lt_trans h (by decide)
theorem and_id {x m : Int32} (k : Nat) (hm : m.toBitVec.toNat = 2 ^ k - 1) (h : x.toBitVec.toNat < 2 ^ k) : x &&& m = x := i_ext (by rw [and_nat, hm, Nat.and_two_pow_sub_one_eq_mod, Nat.mod_eq_of_lt h])
theorem wd_id {x : Int32} (h : wd x) : x &&& 65535 = x := and_id 16 (by decide) h
theorem b8_id {x : Int32} (h : b8 x) : x &&& 255 = x := and_id 8 (by decide) h
theorem wd_or {x : Int32} (h : wd x) : wd (x ||| 32768) := by
  show (x ||| 32768).toBitVec.toNat < 2 ^ 16
  rw [or_nat]
  exact Nat.or_lt_two_pow h (by decide)
theorem zb_wd {x : Int32} (h : zb x) : wd x := by rcases h with rfl | rfl <;> decide
theorem wd_1000 {a : Int32} (h : ac a) : wd (1000 + a) := by rcases h with rfl | rfl | rfl | rfl | rfl | rfl | rfl <;> decide
theorem wd_link {a y : Int32} (h : ac a) (hy : zb y) : wd (65408 + 16 * a + y) := by rcases h with rfl | rfl | rfl | rfl | rfl | rfl | rfl <;> rcases hy with rfl | rfl <;> decide
theorem bit_01 (x : Int32) : x &&& 1 = 0 ∨ x &&& 1 = 1 := by
  have h : (x &&& 1).toBitVec.toNat < 2 := and_lt x 1 (by decide)
  have h2 : (x &&& 1).toBitVec.toNat = 0 ∨ (x &&& 1).toBitVec.toNat = 1 := by omega
  rcases h2 with h2 | h2
  · exact Or.inl (i_ext h2)
  · exact Or.inr (i_ext h2)
theorem nat_nI (x : Int32) : x = nI x.toBitVec.toNat := i_ext (by rw [pk_tn x.toBitVec.isLt])
theorem nI_nat {j : Nat} (h : j < 2 ^ 32) : (nI j).toBitVec.toNat = j := pk_tn h
theorem wd_ix {x : Int32} (h : wd x) : ix x = x.toBitVec.toNat := by
  have h1 : x.toBitVec.toNat < 65536 := h
  show x.toNatClampNeg = x.toBitVec.toNat
  conv => lhs; rw [nat_nI x]
  exact nI_clamp (by omega)
theorem ix_and {x m : Int32} {n : Nat} (h : m.toBitVec.toNat < n) (hn : n ≤ 65536) : ix (x &&& m) < n := by
  have h1 := and_lt x m h
  rw [wd_ix (Nat.lt_of_lt_of_le h1 hn)]
  exact h1
/-- a register's number of three bits, not seven -/
theorem ix_lt7 {x : Int32} (h : ¬ (x &&& 7) = 7) : ix (x &&& 7) < 7 := by
  have h1 : (x &&& 7).toBitVec.toNat < 8 := and_lt x 7 (by decide)
  have h2 : ¬ (x &&& 7).toBitVec.toNat = 7 := fun e => h (i_ext e)
  rw [wd_ix (by omega)]
  omega
-- the kind of an address
def ks (f g h : Nat → Int32) (a : Int32) (k : Nat) (p : Int32 × Int32) : Int32 × Int32 := if h k = 0 then p else if a < f k then p else if g k < a then p else (h k, p.2 + 1)
def kfin (p : Int32 × Int32) : Int32 := if p.2 = 1 then p.1 else 0
def kof (f g h : Nat → Int32) (a : Int32) : Int32 := kfin (ks f g h a 3 (ks f g h a 2 (ks f g h a 1 (ks f g h a 0 (0, 0)))))
theorem pr_ite {α β : Type} {c : Prop} {_ : Decidable c} (a : α) (x y : β) : (if c then (a, x) else (a, y)) = (a, if c then x else y) := by split <;> rfl
theorem kk_4 (σ : St) (a x y : Int32) : k_kindByRegions_7_4 σ a x y = (σ, kfin (x, y)) := by
  unfold k_kindByRegions_7_4 k_kindByRegions_72 kfin
  split <;> rfl
theorem kk_3 (σ : St) (a x y : Int32) : k_kindByRegions_7_3 σ a x y = (σ, kfin (ks (σ 3) (σ 4) (σ 5) a 3 (x, y))) := by
  unfold k_kindByRegions_7_3 k_kindByRegions_56_3 ks
  simp only [kk_4, ix_3]
  split
  · rfl
  · split
    · rfl
    · split <;> rfl
theorem kk_2 (σ : St) (a x y : Int32) : k_kindByRegions_7_2 σ a x y = (σ, kfin (ks (σ 3) (σ 4) (σ 5) a 3 (ks (σ 3) (σ 4) (σ 5) a 2 (x, y)))) := by
  unfold k_kindByRegions_7_2 k_kindByRegions_56_2
  simp only [kk_3, ix_2]
  conv => rhs; rw [show ks (σ 3) (σ 4) (σ 5) a 2 (x, y) = if σ 5 2 = 0 then (x, y) else if a < σ 3 2 then (x, y) else if σ 4 2 < a then (x, y) else (σ 5 2, y + 1) from rfl]
  split
  · rfl
  · split
    · rfl
    · split <;> rfl
theorem kk_1 (σ : St) (a x y : Int32) : k_kindByRegions_7_1 σ a x y = (σ, kfin (ks (σ 3) (σ 4) (σ 5) a 3 (ks (σ 3) (σ 4) (σ 5) a 2 (ks (σ 3) (σ 4) (σ 5) a 1 (x, y))))) := by
  unfold k_kindByRegions_7_1 k_kindByRegions_56_1
  simp only [kk_2, ix_1]
  conv => rhs; rw [show ks (σ 3) (σ 4) (σ 5) a 1 (x, y) = if σ 5 1 = 0 then (x, y) else if a < σ 3 1 then (x, y) else if σ 4 1 < a then (x, y) else (σ 5 1, y + 1) from rfl]
  split
  · rfl
  · split
    · rfl
    · split <;> rfl
theorem kk_0 (σ : St) (a x y : Int32) : k_kindByRegions_7_0 σ a x y = (σ, kfin (ks (σ 3) (σ 4) (σ 5) a 3 (ks (σ 3) (σ 4) (σ 5) a 2 (ks (σ 3) (σ 4) (σ 5) a 1 (ks (σ 3) (σ 4) (σ 5) a 0 (x, y)))))) := by
  unfold k_kindByRegions_7_0 k_kindByRegions_56_0
  simp only [kk_1, ix_0]
  conv => rhs; rw [show ks (σ 3) (σ 4) (σ 5) a 0 (x, y) = if σ 5 0 = 0 then (x, y) else if a < σ 3 0 then (x, y) else if σ 4 0 < a then (x, y) else (σ 5 0, y + 1) from rfl]
  split
  · rfl
  · split
    · rfl
    · split <;> rfl
theorem kk (σ : St) (a : Int32) : k_kindByRegions σ a = (σ, kof (σ 3) (σ 4) (σ 5) a) := kk_0 σ a 0 0
theorem mk_4 (σ : St) (a x y : Int32) : m_kindAt_14_4 σ a y x = (σ, kfin (x, y)) := by
  unfold m_kindAt_14_4 m_kindAt_81 kfin
  split <;> rfl
theorem mk_3 (σ : St) (a x y : Int32) : m_kindAt_14_3 σ a y x = (σ, kfin (ks (σ 2) (σ 3) (σ 4) a 3 (x, y))) := by
  unfold m_kindAt_14_3 m_kindAt_64_3 ks
  simp only [mk_4, ix_3]
  split
  · rfl
  · split
    · rfl
    · split <;> rfl
theorem mk_2 (σ : St) (a x y : Int32) : m_kindAt_14_2 σ a y x = (σ, kfin (ks (σ 2) (σ 3) (σ 4) a 3 (ks (σ 2) (σ 3) (σ 4) a 2 (x, y)))) := by
  unfold m_kindAt_14_2 m_kindAt_64_2
  simp only [mk_3, ix_2]
  conv => rhs; rw [show ks (σ 2) (σ 3) (σ 4) a 2 (x, y) = if σ 4 2 = 0 then (x, y) else if a < σ 2 2 then (x, y) else if σ 3 2 < a then (x, y) else (σ 4 2, y + 1) from rfl]
  split
  · rfl
  · split
    · rfl
    · split <;> rfl
theorem mk_1 (σ : St) (a x y : Int32) : m_kindAt_14_1 σ a y x = (σ, kfin (ks (σ 2) (σ 3) (σ 4) a 3 (ks (σ 2) (σ 3) (σ 4) a 2 (ks (σ 2) (σ 3) (σ 4) a 1 (x, y))))) := by
  unfold m_kindAt_14_1 m_kindAt_64_1
  simp only [mk_2, ix_1]
  conv => rhs; rw [show ks (σ 2) (σ 3) (σ 4) a 1 (x, y) = if σ 4 1 = 0 then (x, y) else if a < σ 2 1 then (x, y) else if σ 3 1 < a then (x, y) else (σ 4 1, y + 1) from rfl]
  split
  · rfl
  · split
    · rfl
    · split <;> rfl
theorem mk_0 (σ : St) (a x y : Int32) : m_kindAt_14_0 σ a y x = (σ, kfin (ks (σ 2) (σ 3) (σ 4) a 3 (ks (σ 2) (σ 3) (σ 4) a 2 (ks (σ 2) (σ 3) (σ 4) a 1 (ks (σ 2) (σ 3) (σ 4) a 0 (x, y)))))) := by
  unfold m_kindAt_14_0 m_kindAt_64_0
  simp only [mk_1, ix_0]
  conv => rhs; rw [show ks (σ 2) (σ 3) (σ 4) a 0 (x, y) = if σ 4 0 = 0 then (x, y) else if a < σ 2 0 then (x, y) else if σ 3 0 < a then (x, y) else (σ 4 0, y + 1) from rfl]
  split
  · rfl
  · split
    · rfl
    · split <;> rfl
theorem mk (τ : St) (a : Int32) : m_kindAt τ a = (τ, kof (τ 2) (τ 3) (τ 4) (a &&& 255)) := mk_0 τ (a &&& 255) 0 0
-- what holds of every state of the class
def kd (σ : St) : Prop := ∀ j, j < 256 → σ 2 j = kof (σ 3) (σ 4) (σ 5) (nI j)
def RB (o r : Nat → Int32) : Prop := wd (o 1) ∧ wd (o 2) ∧ b8 (o 3) ∧ zb (o 4) ∧ zb (o 5) ∧ ac (o 6) ∧ ∀ k, wd (r k)
def JJ (σ : St) : Prop := kd σ ∧ (∀ k, wd (σ 1 k)) ∧ RB (σ 6) (σ 8) ∧ RB (σ 7) (σ 9)
theorem upd_all {P : Int32 → Prop} {f : Nat → Int32} {k : Nat} {v : Int32} (h : ∀ j, P (f j)) (hv : P v) : ∀ j, P (upd f k v j) := by
  intro j
  unfold upd
  split
  · exact hv
  · exact h j
theorem JJ_0 {σ : St} {k : Nat} {v : Int32} (h : JJ σ) : JJ (up2 σ 0 k v) := h
theorem JJ_1 {σ : St} {k : Nat} {v : Int32} (h : JJ σ) (hv : wd v) : JJ (up2 σ 1 k v) := ⟨h.1, upd_all h.2.1 hv, h.2.2⟩
theorem JJ_8 {σ : St} {k : Nat} {v : Int32} (h : JJ σ) (hv : wd v) : JJ (up2 σ 8 k v) := by
  obtain ⟨h1, h2, ⟨r1, r2, r3, r4, r5, r6, r7⟩, h4⟩ := h
  exact ⟨h1, h2, ⟨r1, r2, r3, r4, r5, r6, upd_all r7 hv⟩, h4⟩
theorem JJ_6_1 {σ : St} {v : Int32} (h : JJ σ) (hv : wd v) : JJ (up2 σ 6 1 v) := by
  obtain ⟨h1, h2, ⟨r1, r2, r3, r4, r5, r6, r7⟩, h4⟩ := h
  exact ⟨h1, h2, ⟨hv, r2, r3, r4, r5, r6, r7⟩, h4⟩
theorem JJ_6_2 {σ : St} {v : Int32} (h : JJ σ) (hv : wd v) : JJ (up2 σ 6 2 v) := by
  obtain ⟨h1, h2, ⟨r1, r2, r3, r4, r5, r6, r7⟩, h4⟩ := h
  exact ⟨h1, h2, ⟨r1, hv, r3, r4, r5, r6, r7⟩, h4⟩
theorem JJ_6_3 {σ : St} {v : Int32} (h : JJ σ) (hv : b8 v) : JJ (up2 σ 6 3 v) := by
  obtain ⟨h1, h2, ⟨r1, r2, r3, r4, r5, r6, r7⟩, h4⟩ := h
  exact ⟨h1, h2, ⟨r1, r2, hv, r4, r5, r6, r7⟩, h4⟩
theorem JJ_6_4 {σ : St} {v : Int32} (h : JJ σ) (hv : zb v) : JJ (up2 σ 6 4 v) := by
  obtain ⟨h1, h2, ⟨r1, r2, r3, r4, r5, r6, r7⟩, h4⟩ := h
  exact ⟨h1, h2, ⟨r1, r2, r3, hv, r5, r6, r7⟩, h4⟩
theorem JJ_6_5 {σ : St} {v : Int32} (h : JJ σ) (hv : zb v) : JJ (up2 σ 6 5 v) := by
  obtain ⟨h1, h2, ⟨r1, r2, r3, r4, r5, r6, r7⟩, h4⟩ := h
  exact ⟨h1, h2, ⟨r1, r2, r3, r4, hv, r6, r7⟩, h4⟩
theorem JJ_6_6 {σ : St} {v : Int32} (h : JJ σ) (hv : ac v) : JJ (up2 σ 6 6 v) := by
  obtain ⟨h1, h2, ⟨r1, r2, r3, r4, r5, r6, r7⟩, h4⟩ := h
  exact ⟨h1, h2, ⟨r1, r2, r3, r4, r5, hv, r7⟩, h4⟩
theorem cpy_all {P : Int32 → Prop} {f g : Nat → Int32} {n : Nat} (hf : ∀ j, P (f j)) (hg : ∀ j, P (g j)) : ∀ j, P (va_cpy f g 0 0 n j) := by
  intro j
  unfold va_cpy
  split
  · exact hf _
  · exact hg j
theorem JJ_cp {σ : St} (h : JJ σ) : JJ (k_copy_76 σ) := by
  obtain ⟨h1, h2, ⟨r1, r2, r3, r4, r5, r6, r7⟩, ⟨q1, q2, q3, q4, q5, q6, q7⟩⟩ := h
  exact ⟨h1, h2, ⟨r1, r2, r3, r4, r5, r6, r7⟩, ⟨r1, r2, r3, r4, r5, r6, cpy_all r7 q7⟩⟩
theorem JJ_bk {σ : St} (h : JJ σ) : JJ (k_copy_67 σ) := by
  obtain ⟨h1, h2, ⟨r1, r2, r3, r4, r5, r6, r7⟩, ⟨q1, q2, q3, q4, q5, q6, q7⟩⟩ := h
  exact ⟨h1, h2, ⟨q1, q2, q3, q4, q5, q6, cpy_all q7 r7⟩, ⟨q1, q2, q3, q4, q5, q6, q7⟩⟩
theorem JJ_kd {σ : St} (h : JJ σ) : kd σ := h.1
theorem JJ_zo {σ : St} (h : JJ σ) : zb (σ 6 5) := h.2.2.1.2.2.2.2.1
theorem JJ_zz {σ : St} (h : JJ σ) : zb (σ 6 4) := h.2.2.1.2.2.2.1
theorem JJ_pc {σ : St} (h : JJ σ) : b8 (σ 6 3) := h.2.2.1.2.2.1
theorem JJ_ac {σ : St} (h : JJ σ) : ac (σ 6 6) := h.2.2.1.2.2.2.2.2.1
theorem JJ_r {σ : St} (h : JJ σ) (k : Nat) : wd (σ 8 k) := h.2.2.1.2.2.2.2.2.2 k
theorem JJ_w {σ : St} (h : JJ σ) (k : Nat) : wd (σ 1 k) := h.2.1 k
end
section
-- access
def mayP (σ : St) (a : Int32) : Prop := σ 6 5 = 0 ∨ σ 2 (ix (a &&& 255)) = 1
theorem kat {σ : St} (hk : kd σ) (a : Int32) : m_kindAt (vK σ) a = (vK σ, σ 2 (ix (a &&& 255))) := by
  rw [mk]
  show (vK σ, kof (σ 3) (σ 4) (σ 5) (a &&& 255)) = _
  have h : (a &&& 255).toBitVec.toNat < 256 := and_lt a 255 (by decide)
  rw [wd_ix (Nat.lt_trans h (by decide)), hk _ h, ← nat_nI]
theorem iow {σ : St} (hz : zb (σ 6 5)) : m_isOpenWorld (vK σ) = (vK σ, σ 6 5) := by
  have e : vK σ 5 (ix 11) = σ 6 5 := rfl
  unfold m_isOpenWorld m_isOpenWorld_16
  rw [e]
  rcases hz with h | h <;> rw [h] <;> rfl
theorem may_t {σ : St} {a : Int32} (hk : kd σ) (hz : zb (σ 6 5)) (h : mayP σ a) : m_mayUse (vK σ) a = (vK σ, 1) := by
  unfold m_mayUse
  simp only [bd2, iow hz]
  by_cases h0 : σ 6 5 = 0
  · rw [if_pos h0]
    rfl
  · rw [if_neg h0]
    simp only [kat hk]
    rw [if_pos (h.resolve_left h0)]
    rfl
theorem may_f {σ : St} {a : Int32} (hk : kd σ) (hz : zb (σ 6 5)) (h : ¬ mayP σ a) : m_mayUse (vK σ) a = (vK σ, 0) := by
  unfold m_mayUse
  simp only [bd2, iow hz]
  rw [if_neg (fun z => h (Or.inl z))]
  simp only [kat hk]
  rw [if_neg (fun z => h (Or.inr z))]
  rfl
theorem spk {τ : St} {x : Int32} (h : τ 0 14 = 0) : m_speak τ x = up2 τ 0 14 x := by
  unfold m_speak
  rw [if_pos h]
  rfl
theorem spk_n {τ : St} {x : Int32} (h : ¬ τ 0 14 = 0) : m_speak τ x = τ := by
  unfold m_speak
  rw [if_neg h]
  rfl
theorem k_read_t {σ : St} {a : Int32} (h : mayP σ a) : k_read σ a = (σ, σ 1 (ix (a &&& 255))) := by
  unfold k_read k_read_33
  by_cases h0 : σ 6 5 = 0
  · rw [if_pos h0]
  · rw [if_neg h0, if_pos (h.resolve_left h0)]
theorem k_read_f {σ : St} {a : Int32} (h : ¬ mayP σ a) : k_read σ a = (up2 σ 0 14 2, 0) := by
  unfold k_read
  rw [if_neg (fun z => h (Or.inl z)), if_neg (fun z => h (Or.inr z))]
  rfl
theorem m_read_t {σ : St} {a : Int32} (hk : kd σ) (hz : zb (σ 6 5)) (h : mayP σ a) : m_read (vK σ) a = (vK σ, σ 1 (ix (a &&& 255))) := by
  unfold m_read
  simp only [bd2, may_t hk hz h]
  rw [if_neg (by decide)]
  rfl
theorem m_read_f {σ : St} {a : Int32} (hk : kd σ) (hz : zb (σ 6 5)) (hf : σ 0 14 = 0) (h : ¬ mayP σ a) : m_read (vK σ) a = (vK (up2 σ 0 14 2), σ 1 (ix (a &&& 255))) := by
  unfold m_read
  simp only [bd2, bd, may_f hk hz h]
  rw [if_pos trivial, spk (show vK σ 0 14 = 0 from hf), ← vK_0_14]
  rfl
theorem k_write_t {σ : St} {a v : Int32} (h : mayP σ a) (hf : σ 0 14 = 0) : k_write σ a v = up2 σ 1 (ix (a &&& 255)) v := by
  have e : k_write_31 σ v (a &&& 255) = up2 σ 1 (ix (a &&& 255)) v := by
    unfold k_write_31
    rw [if_pos hf]
    rfl
  unfold k_write
  by_cases h0 : σ 6 5 = 0
  · rw [if_pos h0, e]
  · rw [if_neg h0, if_pos (h.resolve_left h0), e]
theorem k_write_d {σ : St} {a v : Int32} (h : mayP σ a) (hf : ¬ σ 0 14 = 0) : k_write σ a v = σ := by
  have e : k_write_31 σ v (a &&& 255) = σ := by
    unfold k_write_31
    rw [if_neg hf]
    rfl
  unfold k_write
  by_cases h0 : σ 6 5 = 0
  · rw [if_pos h0, e]
  · rw [if_neg h0, if_pos (h.resolve_left h0), e]
theorem k_write_f {σ : St} {a v : Int32} (h : ¬ mayP σ a) : k_write σ a v = up2 σ 0 14 2 := by
  unfold k_write
  rw [if_neg (fun z => h (Or.inl z)), if_neg (fun z => h (Or.inr z))]
  show k_write_31 (up2 σ 0 14 2) v (a &&& 255) = _
  unfold k_write_31
  rw [if_neg (show ¬ (up2 σ 0 14 2) 0 14 = 0 from (show ¬ (2 : Int32) = 0 by decide))]
  rfl
theorem m_write_t {σ : St} {a v : Int32} (hk : kd σ) (hz : zb (σ 6 5)) (hf : σ 0 14 = 0) (hv : wd v) (h : mayP σ a) : m_write (vK σ) a v = vK (up2 σ 1 (ix (a &&& 255)) v) := by
  unfold m_write
  rw [if_pos (show vK σ 0 14 = 0 from hf)]
  simp only [bd2, bd, may_t hk hz h]
  rw [if_neg (by decide), wd_id hv, vK_1]
  rfl
theorem m_write_f {σ : St} {a v : Int32} (hk : kd σ) (hz : zb (σ 6 5)) (hf : σ 0 14 = 0) (h : ¬ mayP σ a) : m_write (vK σ) a v = vK (up2 σ 0 14 2) := by
  unfold m_write
  rw [if_pos (show vK σ 0 14 = 0 from hf)]
  simp only [bd2, bd, may_f hk hz h]
  rw [if_pos trivial, spk (show vK σ 0 14 = 0 from hf), ← vK_0_14]
  rfl
theorem m_write_d {τ : St} {a v : Int32} (hf : ¬ τ 0 14 = 0) : m_write τ a v = τ := by
  unfold m_write
  rw [if_neg hf]
abbrev f02 (σ : St) : Prop := σ 0 14 = 0 ∨ σ 0 14 = 2
theorem write_eq {σ : St} {a v : Int32} (hk : kd σ) (hz : zb (σ 6 5)) (hf : f02 σ) (hv : wd v) : m_write (vK σ) a v = vK (k_write σ a v) := by
  by_cases h : mayP σ a
  · rcases hf with hf | hf
    · rw [m_write_t hk hz hf hv h, k_write_t h hf]
    · have hn : ¬ σ 0 14 = 0 := by rw [hf]; decide
      rw [m_write_d (show ¬ vK σ 0 14 = 0 from hn), k_write_d h hn]
  · rw [k_write_f h]
    rcases hf with hf | hf
    · rw [m_write_f hk hz hf h]
    · have hn : ¬ σ 0 14 = 0 := by rw [hf]; decide
      rw [m_write_d (show ¬ vK σ 0 14 = 0 from hn), up2_same hf]
-- before and now agree on ACTIVE
abbrev AE (σ : St) : Prop := σ 6 6 = σ 7 6
def XX (σ : St) : Prop := JJ σ ∧ AE σ ∧ f02 σ
theorem XX_write {σ : St} {a v : Int32} (h : XX σ) (hv : wd v) : XX (k_write σ a v) := by
  obtain ⟨hJ, hA, hf⟩ := h
  by_cases hm : mayP σ a
  · by_cases h0 : σ 0 14 = 0
    · rw [k_write_t hm h0]
      exact ⟨JJ_1 hJ hv, hA, hf⟩
    · rw [k_write_d hm h0]
      exact ⟨hJ, hA, hf⟩
  · rw [k_write_f hm]
    exact ⟨JJ_0 hJ, hA, Or.inr rfl⟩
theorem k_push_c {σ : St} {v : Int32} (h : σ 6 5 = 0) : k_push σ v = k_write (up2 σ 6 1 ((σ 6 1 - 1) &&& 65535)) ((σ 6 1 - 1) &&& 65535) v := by
  unfold k_push k_stack k_stack_18 k_setStack k_setStack_20
  rw [if_pos h]
  simp only [bd2, bd]
  rw [if_pos h]
theorem k_push_o {σ : St} {v : Int32} (h : ¬ σ 6 5 = 0) : k_push σ v = k_write (up2 σ 6 2 ((σ 6 2 - 1) &&& 65535)) ((σ 6 2 - 1) &&& 65535) v := by
  unfold k_push k_stack k_stack_18 k_setStack k_setStack_20
  rw [if_neg h]
  simp only [bd2, bd]
  rw [if_neg h]
theorem m_stack_c {σ : St} (hz : zb (σ 6 5)) (h : σ 6 5 = 0) : m_stack (vK σ) = (vK σ, 8) := by
  unfold m_stack m_stack_14
  simp only [bd2, iow hz]
  rw [if_pos h]
theorem m_stack_o {σ : St} (hz : zb (σ 6 5)) (h : ¬ σ 6 5 = 0) : m_stack (vK σ) = (vK σ, 9) := by
  unfold m_stack m_stack_14
  simp only [bd2, iow hz]
  rw [if_neg h]
theorem m_push_c {σ : St} {v : Int32} (hz : zb (σ 6 5)) (h : σ 6 5 = 0) : m_push (vK σ) v = m_write (vK (up2 σ 6 1 ((σ 6 1 - 1) &&& 65535))) ((σ 6 1 - 1) &&& 65535) v := by
  unfold m_push
  simp only [bd2, bd, m_stack_c hz h, ix_8]
  rw [vK_6_1]
  rfl
theorem m_push_o {σ : St} {v : Int32} (hz : zb (σ 6 5)) (h : ¬ σ 6 5 = 0) : m_push (vK σ) v = m_write (vK (up2 σ 6 2 ((σ 6 2 - 1) &&& 65535))) ((σ 6 2 - 1) &&& 65535) v := by
  unfold m_push
  simp only [bd2, bd, m_stack_o hz h, ix_9]
  rw [vK_6_2]
  rfl
theorem push_eq {σ : St} {v : Int32} (h : XX σ) (hv : wd v) : m_push (vK σ) v = vK (k_push σ v) ∧ XX (k_push σ v) := by
  obtain ⟨hJ, hA, hf⟩ := h
  by_cases h0 : σ 6 5 = 0
  · have hx : XX (up2 σ 6 1 ((σ 6 1 - 1) &&& 65535)) := ⟨JJ_6_1 hJ (wd_and _), hA, hf⟩
    rw [m_push_c (JJ_zo hJ) h0, k_push_c h0]
    exact ⟨write_eq hx.1.1 (JJ_zo hx.1) hx.2.2 hv, XX_write hx hv⟩
  · have hx : XX (up2 σ 6 2 ((σ 6 2 - 1) &&& 65535)) := ⟨JJ_6_2 hJ (wd_and _), hA, hf⟩
    rw [m_push_o (JJ_zo hJ) h0, k_push_o h0]
    exact ⟨write_eq hx.1.1 (JJ_zo hx.1) hx.2.2 hv, XX_write hx hv⟩
-- an instruction that has failed: all but the present registers agree
def DD (f : Int32) (σ τ : St) : Prop := σ 0 14 = f ∧ τ 0 = v0 σ (σ 7 6) ∧ τ 1 = σ 1 ∧ τ 2 = σ 3 ∧ τ 3 = σ 4 ∧ τ 4 = σ 5 ∧ τ 6 = rg (σ 7) (σ 9) ∧ (∀ k, 12 ≤ k → τ 5 k = 0) ∧ ∀ c, τ (c + 7) = fun _ => 0
theorem rg_12 {o r : Nat → Int32} {k : Nat} (h : 12 ≤ k) : rg o r k = 0 := by
  unfold rg
  rw [if_neg (by omega), if_neg (by omega), if_neg (by omega), if_neg (by omega), if_neg (by omega), if_neg (by omega)]
theorem DD_of {σ : St} (hA : AE σ) : DD (σ 0 14) σ (vK σ) := by
  refine ⟨rfl, ?_, rfl, rfl, rfl, rfl, rfl, fun k hk => rg_12 hk, fun c => rfl⟩
  show v0 σ (σ 6 6) = v0 σ (σ 7 6)
  rw [hA]
theorem dk6 {f : Int32} {σ τ : St} {k : Nat} {v : Int32} (h : DD f σ τ) : DD f (up2 σ 6 k v) τ := h
theorem dk8 {f : Int32} {σ τ : St} {k : Nat} {v : Int32} (h : DD f σ τ) : DD f (up2 σ 8 k v) τ := h
theorem dk14 {f : Int32} {σ τ : St} (h : DD f σ τ) : DD f (up2 σ 0 14 f) τ := by rw [up2_same h.1]; exact h
theorem dm5 {f : Int32} {σ τ : St} {k : Nat} {v : Int32} (hk : k < 12) (h : DD f σ τ) : DD f σ (up2 τ 5 k v) := by
  obtain ⟨h1, h2, h3, h4, h5, h6, h7, h8, h9⟩ := h
  refine ⟨h1, h2, h3, h4, h5, h6, h7, fun j hj => ?_, h9⟩
  show upd (τ 5) k v j = 0
  unfold upd
  rw [if_neg (by omega)]
  exact h8 j hj
theorem DD_f {f : Int32} {σ τ : St} (h : DD f σ τ) : τ 0 14 = f := by
  rw [h.2.1]
  exact h.1
def MM (σ τ : St) : Prop := (σ 0 14 = 0 ∧ τ = vK σ ∧ AE σ) ∨ DD 2 σ τ
theorem mm_r {σ τ : St} {k : Nat} {v v' : Int32} (hk : k < 7) (h : MM σ τ) (hv : σ 0 14 = 0 → v' = v) : MM (up2 σ 8 k v) (up2 τ 5 k v') := by
  rcases h with ⟨h1, rfl, h3⟩ | h
  · rw [hv h1, ← vK_8 hk]
    exact Or.inl ⟨h1, rfl, h3⟩
  · exact Or.inr (dm5 (by omega) (dk8 h))
theorem mm_z {σ τ : St} {v v' : Int32} (h : MM σ τ) (hv : σ 0 14 = 0 → v' = v) : MM (up2 σ 6 4 v) (up2 τ 5 10 v') := by
  rcases h with ⟨h1, rfl, h3⟩ | h
  · rw [hv h1, ← vK_6_4]
    exact Or.inl ⟨h1, rfl, h3⟩
  · exact Or.inr (dm5 (by omega) (dk6 h))
theorem mm_pc {σ τ : St} {v v' : Int32} (h : MM σ τ) (hv : σ 0 14 = 0 → v' = v) : MM (up2 σ 6 3 v) (up2 τ 5 7 v') := by
  rcases h with ⟨h1, rfl, h3⟩ | h
  · rw [hv h1, ← vK_6_3]
    exact Or.inl ⟨h1, rfl, h3⟩
  · exact Or.inr (dm5 (by omega) (dk6 h))
theorem mm_o {σ τ : St} {v : Int32} (h : MM σ τ) : MM (up2 σ 6 5 v) (up2 τ 5 11 v) := by
  rcases h with ⟨h1, rfl, h3⟩ | h
  · rw [← vK_6_5]
    exact Or.inl ⟨h1, rfl, h3⟩
  · exact Or.inr (dm5 (by omega) (dk6 h))
theorem mm_f {σ τ : St} (h : MM σ τ) : MM (up2 σ 0 14 2) (m_speak τ 2) := by
  rcases h with ⟨h1, rfl, h3⟩ | h
  · rw [spk (show vK σ 0 14 = 0 from h1), ← vK_0_14]
    exact Or.inr (DD_of (σ := up2 σ 0 14 2) h3)
  · rw [spk_n (by rw [DD_f h]; decide)]
    exact Or.inr (dk14 h)
theorem k_pop_c {σ : St} (h : σ 6 5 = 0) : k_pop σ = (up2 σ 6 1 ((σ 6 1 + 1) &&& 65535), σ 1 (ix (σ 6 1 &&& 255))) := by
  have hm : mayP (up2 σ 6 1 ((σ 6 1 + 1) &&& 65535)) (σ 6 1) := Or.inl h
  unfold k_pop k_stack k_stack_18 k_setStack k_setStack_20
  rw [if_pos h]
  simp only [bd2, bd]
  rw [if_pos h, k_read_t hm]
  rfl
theorem k_pop_o {σ : St} (h : ¬ σ 6 5 = 0) : k_pop σ = k_read (up2 σ 6 2 ((σ 6 2 + 1) &&& 65535)) (σ 6 2) := by
  unfold k_pop k_stack k_stack_18 k_setStack k_setStack_20
  rw [if_neg h]
  simp only [bd2, bd]
  rw [if_neg h]
theorem m_pop_c {σ : St} (hk : kd σ) (hz : zb (σ 6 5)) (hf : σ 0 14 = 0) (h : σ 6 5 = 0) : m_pop (vK σ) = (vK (up2 σ 6 1 ((σ 6 1 + 1) &&& 65535)), σ 1 (ix (σ 6 1 &&& 255))) := by
  have hm : mayP σ (σ 6 1) := Or.inl h
  unfold m_pop
  rw [if_pos (show vK σ 0 14 = 0 from hf)]
  simp only [bd2, bd, m_stack_c hz h, ix_8]
  rw [show vK σ 5 8 = σ 6 1 from rfl, m_read_t hk hz hm, vK_6_1]
  rfl
theorem m_pop_t {σ : St} (hk : kd σ) (hz : zb (σ 6 5)) (hf : σ 0 14 = 0) (h : ¬ σ 6 5 = 0) (hm : mayP σ (σ 6 2)) : m_pop (vK σ) = (vK (up2 σ 6 2 ((σ 6 2 + 1) &&& 65535)), σ 1 (ix (σ 6 2 &&& 255))) := by
  unfold m_pop
  rw [if_pos (show vK σ 0 14 = 0 from hf)]
  simp only [bd2, bd, m_stack_o hz h, ix_9]
  rw [show vK σ 5 9 = σ 6 2 from rfl, m_read_t hk hz hm, vK_6_2]
  rfl
theorem m_pop_f {σ : St} (hk : kd σ) (hz : zb (σ 6 5)) (hf : σ 0 14 = 0) (h : ¬ σ 6 5 = 0) (hm : ¬ mayP σ (σ 6 2)) : m_pop (vK σ) = (up2 (vK (up2 σ 0 14 2)) 5 9 ((σ 6 2 + 1) &&& 65535), σ 1 (ix (σ 6 2 &&& 255))) := by
  unfold m_pop
  rw [if_pos (show vK σ 0 14 = 0 from hf)]
  simp only [bd2, bd, m_stack_o hz h, ix_9]
  rw [show vK σ 5 9 = σ 6 2 from rfl, m_read_f hk hz hf hm]
  rfl
theorem m_pop_d {τ : St} (hf : ¬ τ 0 14 = 0) : m_pop τ = (τ, 0) := by
  unfold m_pop
  rw [if_neg hf]
theorem JJ_pop {σ : St} (h : JJ σ) : JJ (k_pop σ).1 ∧ wd (k_pop σ).2 := by
  by_cases h0 : σ 6 5 = 0
  · rw [k_pop_c h0]
    exact ⟨JJ_6_1 h (wd_and _), JJ_w h _⟩
  · rw [k_pop_o h0]
    have h1 : JJ (up2 σ 6 2 ((σ 6 2 + 1) &&& 65535)) := JJ_6_2 h (wd_and _)
    by_cases hm : mayP (up2 σ 6 2 ((σ 6 2 + 1) &&& 65535)) (σ 6 2)
    · rw [k_read_t hm]
      exact ⟨h1, JJ_w h _⟩
    · rw [k_read_f hm]
      exact ⟨JJ_0 h1, show wd 0 by decide⟩
theorem mm_pop {σ τ : St} (hJ : JJ σ) (h : MM σ τ) : MM (k_pop σ).1 (m_pop τ).1 ∧ ((k_pop σ).1 0 14 = 0 → (m_pop τ).2 = (k_pop σ).2) := by
  rcases h with ⟨h1, rfl, h3⟩ | h
  · by_cases h0 : σ 6 5 = 0
    · rw [k_pop_c h0, m_pop_c hJ.1 (JJ_zo hJ) h1 h0]
      exact ⟨Or.inl ⟨h1, rfl, h3⟩, fun _ => rfl⟩
    · rw [k_pop_o h0]
      by_cases hm : mayP σ (σ 6 2)
      · rw [k_read_t (σ := up2 σ 6 2 ((σ 6 2 + 1) &&& 65535)) hm, m_pop_t hJ.1 (JJ_zo hJ) h1 h0 hm]
        exact ⟨Or.inl ⟨h1, rfl, h3⟩, fun _ => rfl⟩
      · rw [k_read_f (σ := up2 σ 6 2 ((σ 6 2 + 1) &&& 65535)) hm, m_pop_f hJ.1 (JJ_zo hJ) h1 h0 hm]
        refine ⟨Or.inr (dm5 (by omega) ?_), fun z => absurd z (show ¬ (2 : Int32) = 0 by decide)⟩
        have hd : DD 2 (up2 σ 0 14 2) (vK (up2 σ 0 14 2)) := DD_of (σ := up2 σ 0 14 2) h3
        exact hd
  · have hn : ¬ τ 0 14 = 0 := by rw [DD_f h]; decide
    rw [m_pop_d hn]
    by_cases h0 : σ 6 5 = 0
    · rw [k_pop_c h0]
      exact ⟨Or.inr (dk6 h), fun z => absurd (h.1.symm.trans z) (by decide)⟩
    · rw [k_pop_o h0]
      by_cases hm : mayP (up2 σ 6 2 ((σ 6 2 + 1) &&& 65535)) (σ 6 2)
      · rw [k_read_t hm]
        exact ⟨Or.inr (dk6 h), fun z => absurd (h.1.symm.trans z) (by decide)⟩
      · rw [k_read_f hm]
        exact ⟨Or.inr (dk14 (dk6 h)), fun z => absurd z (show ¬ (2 : Int32) = 0 by decide)⟩
end
section
-- at rest: all cells agree but what was kept
def RR (σ τ : St) : Prop := (∀ c, c ≠ 6 → τ c = vK σ c) ∧ ∀ k, 12 ≤ k → τ 6 k = 0
theorem RR_of (σ : St) : RR σ (vK σ) := ⟨fun _ _ => rfl, fun _ hk => rg_12 hk⟩
theorem RR_up {σ τ : St} {c k c' k' : Nat} {v : Int32} (h : RR σ τ) (e : vK (up2 σ c k v) = up2 (vK σ) c' k' v) (hc : c' ≠ 6) : RR (up2 σ c k v) (up2 τ c' k' v) := by
  refine ⟨fun d hd => ?_, fun j hj => ?_⟩
  · rw [e]
    by_cases h1 : d = c'
    · subst h1
      show (if d = d then upd (τ d) k' v else τ d) = if d = d then upd (vK σ d) k' v else vK σ d
      rw [h.1 d hd]
    · rw [up2_c h1, up2_c h1]
      exact h.1 d hd
  · rw [up2_c (Ne.symm hc)]
    exact h.2 j hj
theorem keep6 (τ : St) : m_keep τ 6 = fun k => if k < 12 then τ 5 k else τ 6 k := by
  funext k
  match k with
  | 0 => rfl
  | 1 => rfl
  | 2 => rfl
  | 3 => rfl
  | 4 => rfl
  | 5 => rfl
  | 6 => rfl
  | 7 => rfl
  | 8 => rfl
  | 9 => rfl
  | 10 => rfl
  | 11 => rfl
  | k + 12 =>
    simp [m_keep, m_keep_2_0, m_keep_2_1, m_keep_2_2, m_keep_2_3, m_keep_2_4, m_keep_2_5, m_keep_2_6, m_keep_2_7, m_keep_2_8, m_keep_2_9, m_keep_2_10, m_keep_2_11, m_keep_2_12, bd, up2, upd, ix_0, ix_1, ix_2, ix_3, ix_4, ix_5, ix_6, ix_7, ix_8, ix_9, ix_10, ix_11]
    intro h
    exact absurd h (by omega)
theorem back5 (τ : St) : m_takeBack τ 5 = fun k => if k < 12 then τ 6 k else τ 5 k := by
  funext k
  match k with
  | 0 => rfl
  | 1 => rfl
  | 2 => rfl
  | 3 => rfl
  | 4 => rfl
  | 5 => rfl
  | 6 => rfl
  | 7 => rfl
  | 8 => rfl
  | 9 => rfl
  | 10 => rfl
  | 11 => rfl
  | k + 12 =>
    simp [m_takeBack, m_takeBack_2_0, m_takeBack_2_1, m_takeBack_2_2, m_takeBack_2_3, m_takeBack_2_4, m_takeBack_2_5, m_takeBack_2_6, m_takeBack_2_7, m_takeBack_2_8, m_takeBack_2_9, m_takeBack_2_10, m_takeBack_2_11, m_takeBack_2_12, bd, up2, upd, ix_0, ix_1, ix_2, ix_3, ix_4, ix_5, ix_6, ix_7, ix_8, ix_9, ix_10, ix_11]
    intro h
    exact absurd h (by omega)
theorem rg_cp (σ : St) : rg (k_copy_76 σ 7) (k_copy_76 σ 9) = rg (σ 6) (σ 8) := by
  funext k
  by_cases h : k < 7
  · unfold rg
    rw [if_pos h, if_pos h]
    show va_cpy (σ 8) (σ 9) 0 0 8 k = σ 8 k
    unfold va_cpy
    rw [if_pos ⟨Nat.zero_le _, by omega⟩]
    simp
  · unfold rg
    rw [if_neg h, if_neg h]
    rfl
theorem rg_bk (σ : St) : rg (k_copy_67 σ 6) (k_copy_67 σ 8) = rg (σ 7) (σ 9) := by
  funext k
  by_cases h : k < 7
  · unfold rg
    rw [if_pos h, if_pos h]
    show va_cpy (σ 9) (σ 8) 0 0 8 k = σ 9 k
    unfold va_cpy
    rw [if_pos ⟨Nat.zero_le _, by omega⟩]
    simp
  · unfold rg
    rw [if_neg h, if_neg h]
    rfl
theorem keep_eq {σ τ : St} (h : RR σ τ) : m_keep τ = vK (up2 (k_copy_76 σ) 0 14 0) := by
  refine st_ext ?_ (h.1 1 (by decide)) (h.1 2 (by decide)) (h.1 3 (by decide)) (h.1 4 (by decide)) (h.1 5 (by decide)) ?_ (fun c => h.1 (c + 7) (by omega))
  · show upd (τ 0) 14 0 = v0 (up2 (k_copy_76 σ) 0 14 0) (σ 6 6)
    rw [v0_14, h.1 0 (by decide)]
    rfl
  · rw [keep6]
    show _ = rg (k_copy_76 σ 7) (k_copy_76 σ 9)
    rw [rg_cp]
    funext k
    by_cases hk : k < 12
    · show (if k < 12 then τ 5 k else τ 6 k) = _
      rw [if_pos hk, h.1 5 (by decide)]
      rfl
    · show (if k < 12 then τ 5 k else τ 6 k) = _
      rw [if_neg hk, h.2 k (by omega), rg_12 (by omega)]
theorem back_eq {f : Int32} {σ τ : St} (h : DD f σ τ) : m_takeBack τ = vK (k_copy_67 σ) := by
  obtain ⟨h1, h2, h3, h4, h5, h6, h7, h8, h9⟩ := h
  refine st_ext h2 h3 h4 h5 h6 ?_ h7 h9
  rw [back5]
  show _ = rg (k_copy_67 σ 6) (k_copy_67 σ 8)
  rw [rg_bk]
  funext k
  by_cases hk : k < 12
  · show (if k < 12 then τ 6 k else τ 5 k) = _
    rw [if_pos hk, h7]
  · show (if k < 12 then τ 6 k else τ 5 k) = _
    rw [if_neg hk, h8 k (by omega), rg_12 (by omega)]
-- a frame
def mfr (τ : St) (b : Int32) : St :=
  bd (m_push τ b) fun σ2 =>
  bd (m_push σ2 (σ2 5 (ix 10))) fun σ3 =>
  bd (m_push σ3 (σ3 5 (ix 6))) fun σ4 =>
  bd (m_push σ4 (σ4 5 (ix 0))) fun σ5 =>
  bd (m_push σ5 (σ5 5 (ix 1))) fun σ6 =>
  bd (m_push σ6 (σ6 5 (ix 2))) fun σ7 =>
  bd (m_push σ7 (σ7 5 (ix 3))) fun σ8 =>
  bd (m_push σ8 (σ8 5 (ix 4))) fun σ9 =>
  bd (m_push σ9 (σ9 5 (ix 5))) fun σ10 =>
  m_push σ10 (1000 + (σ10 0 10))
def mrest (τ : St) (x1 : Int32) : St :=
  if (τ 0 14) = 0 then
    bd2 (m_isOpenWorld τ) fun σ20 v21 =>
    if v21 = 0 then
      m_take_96 σ20 x1 1
    else
      m_take_96 σ20 x1 0
  else
    bd (m_takeBack τ) fun σ61 =>
    bd (up2 σ61 0 11 2) fun σ62 =>
    σ62

theorem m_take_split (τ : St) (e b : Int32) : m_take τ e b = mrest (mfr (m_keep τ) b) e := by
  have hE : m_take τ e b = m_take τ e b := rfl
  obtain ⟨τ0, t0⟩ : ∃ z, z = m_keep τ := ⟨_, rfl⟩
  have hE := hE.trans (bd_e t0)
  rw [← t0]
  have hM : mfr τ0 b = mfr τ0 b := rfl
  obtain ⟨τ1, t1⟩ : ∃ z, z = m_push τ0 (b) := ⟨_, rfl⟩
  have hM := hM.trans (bd_e t1)
  have hE := hE.trans (bd_e t1)
  obtain ⟨τ2, t2⟩ : ∃ z, z = m_push τ1 (τ1 5 (ix 10)) := ⟨_, rfl⟩
  have hM := hM.trans (bd_e t2)
  have hE := hE.trans (bd_e t2)
  obtain ⟨τ3, t3⟩ : ∃ z, z = m_push τ2 (τ2 5 (ix 6)) := ⟨_, rfl⟩
  have hM := hM.trans (bd_e t3)
  have hE := hE.trans (bd_e t3)
  obtain ⟨τ4, t4⟩ : ∃ z, z = m_push τ3 (τ3 5 (ix 0)) := ⟨_, rfl⟩
  have hM := hM.trans (bd_e t4)
  have hE := hE.trans (bd_e t4)
  obtain ⟨τ5, t5⟩ : ∃ z, z = m_push τ4 (τ4 5 (ix 1)) := ⟨_, rfl⟩
  have hM := hM.trans (bd_e t5)
  have hE := hE.trans (bd_e t5)
  obtain ⟨τ6, t6⟩ : ∃ z, z = m_push τ5 (τ5 5 (ix 2)) := ⟨_, rfl⟩
  have hM := hM.trans (bd_e t6)
  have hE := hE.trans (bd_e t6)
  obtain ⟨τ7, t7⟩ : ∃ z, z = m_push τ6 (τ6 5 (ix 3)) := ⟨_, rfl⟩
  have hM := hM.trans (bd_e t7)
  have hE := hE.trans (bd_e t7)
  obtain ⟨τ8, t8⟩ : ∃ z, z = m_push τ7 (τ7 5 (ix 4)) := ⟨_, rfl⟩
  have hM := hM.trans (bd_e t8)
  have hE := hE.trans (bd_e t8)
  obtain ⟨τ9, t9⟩ : ∃ z, z = m_push τ8 (τ8 5 (ix 5)) := ⟨_, rfl⟩
  have hM := hM.trans (bd_e t9)
  have hE := hE.trans (bd_e t9)
  obtain ⟨τ10, t10⟩ : ∃ z, z = m_push τ9 (1000 + τ9 0 10) := ⟨_, rfl⟩
  have hE := hE.trans (bd_e t10)
  have hM := hM.trans t10.symm
  rw [hM]
  exact hE
theorem frame_eq {σ : St} (h : XX σ) : mfr (vK σ) (σ 6 3) = vK (k_pushFrame σ) ∧ XX (k_pushFrame σ) := by
  have hM : mfr (vK σ) (σ 6 3) = mfr (vK σ) (σ 6 3) := rfl
  have hE : k_pushFrame σ = k_pushFrame σ := rfl
  obtain ⟨σ1, s1⟩ : ∃ z, z = k_push σ (σ 6 3) := ⟨_, rfl⟩
  obtain ⟨e1, x1⟩ := push_eq h (v := σ 6 3) (b8_wd (JJ_pc h.1))
  rw [← s1] at e1 x1
  have hM := hM.trans (bd_e e1.symm)
  have hE := hE.trans (bd_e s1)
  have hz : (if (σ1 6 4) = 0 then k_pushFrame_27 σ1 0 else k_pushFrame_27 σ1 1) = k_pushFrame_27 σ1 (σ1 6 4) := by
    rcases JJ_zz x1.1 with z | z <;> rw [z] <;> rfl
  have hE := hE.trans hz
  obtain ⟨σ2, s2⟩ : ∃ z, z = k_push σ1 (σ1 6 4) := ⟨_, rfl⟩
  obtain ⟨e2, x2⟩ := push_eq x1 (v := σ1 6 4) (zb_wd (JJ_zz x1.1))
  rw [← s2] at e2 x2
  have hM := hM.trans (bd_e e2.symm)
  have hE := hE.trans (bd_e s2)
  obtain ⟨σ3, s3⟩ : ∃ z, z = k_push σ2 (σ2 8 (ix 6)) := ⟨_, rfl⟩
  obtain ⟨e3, x3⟩ := push_eq x2 (v := σ2 8 (ix 6)) (JJ_r x2.1 _)
  rw [← s3] at e3 x3
  have hM := hM.trans (bd_e e3.symm)
  have hE := hE.trans (bd_e s3)
  obtain ⟨σ4, s4⟩ : ∃ z, z = k_push σ3 (σ3 8 (ix 0)) := ⟨_, rfl⟩
  obtain ⟨e4, x4⟩ := push_eq x3 (v := σ3 8 (ix 0)) (JJ_r x3.1 _)
  rw [← s4] at e4 x4
  have hM := hM.trans (bd_e e4.symm)
  have hE := hE.trans (bd_e s4)
  obtain ⟨σ5, s5⟩ : ∃ z, z = k_push σ4 (σ4 8 (ix 1)) := ⟨_, rfl⟩
  obtain ⟨e5, x5⟩ := push_eq x4 (v := σ4 8 (ix 1)) (JJ_r x4.1 _)
  rw [← s5] at e5 x5
  have hM := hM.trans (bd_e e5.symm)
  have hE := hE.trans (bd_e s5)
  obtain ⟨σ6, s6⟩ : ∃ z, z = k_push σ5 (σ5 8 (ix 2)) := ⟨_, rfl⟩
  obtain ⟨e6, x6⟩ := push_eq x5 (v := σ5 8 (ix 2)) (JJ_r x5.1 _)
  rw [← s6] at e6 x6
  have hM := hM.trans (bd_e e6.symm)
  have hE := hE.trans (bd_e s6)
  obtain ⟨σ7, s7⟩ : ∃ z, z = k_push σ6 (σ6 8 (ix 3)) := ⟨_, rfl⟩
  obtain ⟨e7, x7⟩ := push_eq x6 (v := σ6 8 (ix 3)) (JJ_r x6.1 _)
  rw [← s7] at e7 x7
  have hM := hM.trans (bd_e e7.symm)
  have hE := hE.trans (bd_e s7)
  obtain ⟨σ8, s8⟩ : ∃ z, z = k_push σ7 (σ7 8 (ix 4)) := ⟨_, rfl⟩
  obtain ⟨e8, x8⟩ := push_eq x7 (v := σ7 8 (ix 4)) (JJ_r x7.1 _)
  rw [← s8] at e8 x8
  have hM := hM.trans (bd_e e8.symm)
  have hE := hE.trans (bd_e s8)
  obtain ⟨σ9, s9⟩ : ∃ z, z = k_push σ8 (σ8 8 (ix 5)) := ⟨_, rfl⟩
  obtain ⟨e9, x9⟩ := push_eq x8 (v := σ8 8 (ix 5)) (JJ_r x8.1 _)
  rw [← s9] at e9 x9
  have hM := hM.trans (bd_e e9.symm)
  have hE := hE.trans (bd_e s9)
  obtain ⟨σ10, s10⟩ : ∃ z, z = k_push σ9 (1000 + σ9 6 6) := ⟨_, rfl⟩
  obtain ⟨e10, x10⟩ := push_eq x9 (v := 1000 + σ9 6 6) (wd_1000 (JJ_ac x9.1))
  rw [← s10] at e10 x10
  have hM := hM.trans e10
  have hE := hE.trans (bd_e s10)
  have hE : k_pushFrame σ = σ10 := hE
  rw [hE, hM]
  exact ⟨rfl, x10⟩
theorem iho (σ : St) (e : Int32) : (k_isHandledOpen σ e = (σ, 0) ∧ m_isClosedOne (vK σ) e = (vK σ, 1)) ∨ (k_isHandledOpen σ e = (σ, 1) ∧ m_isClosedOne (vK σ) e = (vK σ, 0)) := by
  unfold k_isHandledOpen m_isClosedOne k_isHandledOpen_22 k_isHandledOpen_23 m_isClosedOne_19 m_isClosedOne_24
  rw [show vK σ 0 5 = σ 0 8 from rfl]
  by_cases h3 : e < 3
  · rw [if_pos h3, if_pos h3]
    exact Or.inl ⟨rfl, rfl⟩
  · rw [if_neg h3, if_neg h3]
    rcases bit_01 ((σ 0 8) >>> ((e - 3) &&& 31)) with h | h
    · rw [h]
      exact Or.inr ⟨rfl, rfl⟩
    · rw [h]
      exact Or.inl ⟨rfl, rfl⟩

theorem k_enter_00 {σ : St} {e : Int32} (h : σ 6 5 = 0) (hi : k_isHandledOpen σ e = (σ, 0)) : k_enter σ e = up2 (up2 (up2 (up2 (up2 σ 8 (ix 6) (65408 + (16 * (σ 6 6)) + 1)) 6 5 0) 6 6 e) 6 3 ((σ 1 (ix (((8 * (σ 0 9)) + e) &&& 255))) &&& 255)) 0 13 e := by
  unfold k_enter
  simp only [bd2, hi]
  rw [if_pos h]
  unfold k_enter_43_6
  simp only [bd]
  rw [if_pos (show up2 σ 8 (ix 6) (65408 + (16 * (σ 6 6)) + 1) 6 5 = 0 from h)]
  first | rw [if_pos trivial] | rw [if_pos rfl]
  unfold k_enter_66
  simp only [bd]
  first | rw [if_pos trivial] | rw [if_pos rfl]
  rfl
theorem m_enter_00 {σ : St} {e : Int32} (h : σ 6 5 = 0) (hz : zb (σ 6 5)) (hf : σ 0 14 = 0) (hi : m_isClosedOne (vK σ) e = (vK σ, 1)) : mrest (vK σ) e = up2 (up2 (up2 (up2 (up2 (vK σ) 5 (ix 6) (65408 + (16 * (σ 6 6)) + 1)) 5 (ix 11) 0) 5 (ix 7) ((σ 1 (ix (((8 * (σ 0 9)) + e) &&& 255))) &&& 255)) 0 10 e) 0 13 e := by
  unfold mrest
  rw [if_pos (show vK σ 0 14 = 0 from hf)]
  simp only [bd2, iow hz]
  rw [if_pos h]
  unfold m_take_96
  simp only [bd2, hi]
  rw [if_neg (by decide)]
  rfl
theorem enter_00 {σ : St} {e : Int32} (hJ : JJ σ) (he : ac e) (h : σ 6 5 = 0) (hf : σ 0 14 = 0) (hi : k_isHandledOpen σ e = (σ, 0)) (hi' : m_isClosedOne (vK σ) e = (vK σ, 1)) : mrest (vK σ) e = vK (k_enter σ e) ∧ JJ (k_enter σ e) := by
  rw [k_enter_00 h hi, m_enter_00 h (JJ_zo hJ) hf hi']
  refine ⟨?_, JJ_0 (JJ_6_3 (JJ_6_6 (JJ_6_5 (JJ_8 hJ (wd_link (JJ_ac hJ) (by decide))) (by decide)) he) (b8_and _))⟩
  rw [vK_0_13, vK_6_3, vK_6_6, vK_6_5, vK_8 (show ix 6 < 7 by decide)]
  rw [up2_comm (c := 0) (c' := 5) (Or.inl (by decide))]
  rfl
theorem k_enter_01 {σ : St} {e : Int32} (h : σ 6 5 = 0) (hi : k_isHandledOpen σ e = (σ, 1)) : k_enter σ e = up2 (up2 (up2 (up2 (up2 (up2 (up2 (up2 (up2 (up2 (up2 (up2 σ 8 (ix 6) (65408 + (16 * (σ 6 6)) + 1)) 8 (ix 0) 0) 8 (ix 1) 0) 8 (ix 2) 0) 8 (ix 3) 0) 8 (ix 4) 0) 8 (ix 5) 0) 6 4 0) 6 5 1) 6 6 e) 6 3 ((σ 1 (ix (((8 * (σ 0 10)) + e) &&& 255))) &&& 255)) 0 13 e := by
  unfold k_enter
  simp only [bd2, hi]
  rw [if_pos h]
  unfold k_enter_43_6
  simp only [bd]
  rw [if_pos (show up2 σ 8 (ix 6) (65408 + (16 * (σ 6 6)) + 1) 6 5 = 0 from h)]
  rw [if_neg (by decide)]
  unfold k_enter_66
  simp only [bd]
  rw [if_neg (by decide)]
  rfl
theorem m_enter_01 {σ : St} {e : Int32} (h : σ 6 5 = 0) (hz : zb (σ 6 5)) (hf : σ 0 14 = 0) (hi : m_isClosedOne (vK σ) e = (vK σ, 0)) : mrest (vK σ) e = up2 (up2 (up2 (up2 (up2 (up2 (up2 (up2 (up2 (up2 (up2 (up2 (vK σ) 5 (ix 6) (65408 + (16 * (σ 6 6)) + 1)) 5 (ix 0) 0) 5 (ix 1) 0) 5 (ix 2) 0) 5 (ix 3) 0) 5 (ix 4) 0) 5 (ix 5) 0) 5 (ix 10) 0) 5 (ix 11) 1) 5 (ix 7) ((σ 1 (ix (((8 * (σ 0 10)) + e) &&& 255))) &&& 255)) 0 10 e) 0 13 e := by
  unfold mrest
  rw [if_pos (show vK σ 0 14 = 0 from hf)]
  simp only [bd2, iow hz]
  rw [if_pos h]
  unfold m_take_96
  simp only [bd2, hi]
  rw [if_neg (by decide)]
  rfl
theorem enter_01 {σ : St} {e : Int32} (hJ : JJ σ) (he : ac e) (h : σ 6 5 = 0) (hf : σ 0 14 = 0) (hi : k_isHandledOpen σ e = (σ, 1)) (hi' : m_isClosedOne (vK σ) e = (vK σ, 0)) : mrest (vK σ) e = vK (k_enter σ e) ∧ JJ (k_enter σ e) := by
  rw [k_enter_01 h hi, m_enter_01 h (JJ_zo hJ) hf hi']
  refine ⟨?_, JJ_0 (JJ_6_3 (JJ_6_6 (JJ_6_5 (JJ_6_4 (JJ_8 (JJ_8 (JJ_8 (JJ_8 (JJ_8 (JJ_8 (JJ_8 hJ (wd_link (JJ_ac hJ) (by decide))) (by decide)) (by decide)) (by decide)) (by decide)) (by decide)) (by decide)) (by decide)) (by decide)) he) (b8_and _))⟩
  rw [vK_0_13, vK_6_3, vK_6_6, vK_6_5, vK_6_4, vK_8 (show ix 5 < 7 by decide), vK_8 (show ix 4 < 7 by decide), vK_8 (show ix 3 < 7 by decide), vK_8 (show ix 2 < 7 by decide), vK_8 (show ix 1 < 7 by decide), vK_8 (show ix 0 < 7 by decide), vK_8 (show ix 6 < 7 by decide)]
  rw [up2_comm (c := 0) (c' := 5) (Or.inl (by decide))]
  rfl
theorem k_enter_10 {σ : St} {e : Int32} (h : ¬ σ 6 5 = 0) (hi : k_isHandledOpen σ e = (σ, 0)) : k_enter σ e = up2 (up2 (up2 (up2 (up2 σ 8 (ix 6) (65408 + (16 * (σ 6 6)) + 0)) 6 5 0) 6 6 e) 6 3 ((σ 1 (ix (((8 * (σ 0 9)) + e) &&& 255))) &&& 255)) 0 13 e := by
  unfold k_enter
  simp only [bd2, hi]
  rw [if_neg h]
  unfold k_enter_43_6
  simp only [bd]
  rw [if_neg (show ¬ up2 σ 8 (ix 6) (65408 + (16 * (σ 6 6)) + 0) 6 5 = 0 from h)]
  unfold k_enter_66
  simp only [bd]
  first | rw [if_pos trivial] | rw [if_pos rfl]
  rfl
theorem m_enter_10 {σ : St} {e : Int32} (h : ¬ σ 6 5 = 0) (hz : zb (σ 6 5)) (hf : σ 0 14 = 0) (hi : m_isClosedOne (vK σ) e = (vK σ, 1)) : mrest (vK σ) e = up2 (up2 (up2 (up2 (up2 (vK σ) 5 (ix 6) (65408 + (16 * (σ 6 6)) + 0)) 5 (ix 11) 0) 5 (ix 7) ((σ 1 (ix (((8 * (σ 0 9)) + e) &&& 255))) &&& 255)) 0 10 e) 0 13 e := by
  unfold mrest
  rw [if_pos (show vK σ 0 14 = 0 from hf)]
  simp only [bd2, iow hz]
  rw [if_neg h]
  unfold m_take_96
  simp only [bd2, hi]
  first | rw [if_pos trivial] | rw [if_pos rfl]
  rfl
theorem enter_10 {σ : St} {e : Int32} (hJ : JJ σ) (he : ac e) (h : ¬ σ 6 5 = 0) (hf : σ 0 14 = 0) (hi : k_isHandledOpen σ e = (σ, 0)) (hi' : m_isClosedOne (vK σ) e = (vK σ, 1)) : mrest (vK σ) e = vK (k_enter σ e) ∧ JJ (k_enter σ e) := by
  rw [k_enter_10 h hi, m_enter_10 h (JJ_zo hJ) hf hi']
  refine ⟨?_, JJ_0 (JJ_6_3 (JJ_6_6 (JJ_6_5 (JJ_8 hJ (wd_link (JJ_ac hJ) (by decide))) (by decide)) he) (b8_and _))⟩
  rw [vK_0_13, vK_6_3, vK_6_6, vK_6_5, vK_8 (show ix 6 < 7 by decide)]
  rw [up2_comm (c := 0) (c' := 5) (Or.inl (by decide))]
  rfl
theorem k_enter_11 {σ : St} {e : Int32} (h : ¬ σ 6 5 = 0) (hi : k_isHandledOpen σ e = (σ, 1)) : k_enter σ e = up2 (up2 (up2 (up2 (up2 σ 8 (ix 6) (65408 + (16 * (σ 6 6)) + 0)) 6 5 1) 6 6 e) 6 3 ((σ 1 (ix (((8 * (σ 0 10)) + e) &&& 255))) &&& 255)) 0 13 e := by
  unfold k_enter
  simp only [bd2, hi]
  rw [if_neg h]
  unfold k_enter_43_6
  simp only [bd]
  rw [if_neg (show ¬ up2 σ 8 (ix 6) (65408 + (16 * (σ 6 6)) + 0) 6 5 = 0 from h)]
  unfold k_enter_66
  simp only [bd]
  rw [if_neg (by decide)]
  rfl
theorem m_enter_11 {σ : St} {e : Int32} (h : ¬ σ 6 5 = 0) (hz : zb (σ 6 5)) (hf : σ 0 14 = 0) (hi : m_isClosedOne (vK σ) e = (vK σ, 0)) : mrest (vK σ) e = up2 (up2 (up2 (up2 (up2 (vK σ) 5 (ix 6) (65408 + (16 * (σ 6 6)) + 0)) 5 (ix 11) 1) 5 (ix 7) ((σ 1 (ix (((8 * (σ 0 10)) + e) &&& 255))) &&& 255)) 0 10 e) 0 13 e := by
  unfold mrest
  rw [if_pos (show vK σ 0 14 = 0 from hf)]
  simp only [bd2, iow hz]
  rw [if_neg h]
  unfold m_take_96
  simp only [bd2, hi]
  first | rw [if_pos trivial] | rw [if_pos rfl]
  rfl
theorem enter_11 {σ : St} {e : Int32} (hJ : JJ σ) (he : ac e) (h : ¬ σ 6 5 = 0) (hf : σ 0 14 = 0) (hi : k_isHandledOpen σ e = (σ, 1)) (hi' : m_isClosedOne (vK σ) e = (vK σ, 0)) : mrest (vK σ) e = vK (k_enter σ e) ∧ JJ (k_enter σ e) := by
  rw [k_enter_11 h hi, m_enter_11 h (JJ_zo hJ) hf hi']
  refine ⟨?_, JJ_0 (JJ_6_3 (JJ_6_6 (JJ_6_5 (JJ_8 hJ (wd_link (JJ_ac hJ) (by decide))) (by decide)) he) (b8_and _))⟩
  rw [vK_0_13, vK_6_3, vK_6_6, vK_6_5, vK_8 (show ix 6 < 7 by decide)]
  rw [up2_comm (c := 0) (c' := 5) (Or.inl (by decide))]
  rfl
theorem enter_eq {σ : St} {e : Int32} (hJ : JJ σ) (he : ac e) (hf : σ 0 14 = 0) : mrest (vK σ) e = vK (k_enter σ e) ∧ JJ (k_enter σ e) := by
  by_cases h : σ 6 5 = 0
  · rcases iho σ e with ⟨a, b⟩ | ⟨a, b⟩
    · exact enter_00 hJ he h hf a b
    · exact enter_01 hJ he h hf a b
  · rcases iho σ e with ⟨a, b⟩ | ⟨a, b⟩
    · exact enter_10 hJ he h hf a b
    · exact enter_11 hJ he h hf a b
theorem take_eq {σ τ : St} {e : Int32} (hR : RR σ τ) (hJ : JJ σ) (he : ac e) : m_take τ e (τ 5 (ix 7)) = vK (k_take σ e) ∧ JJ (k_take σ e) := by
  have hX : XX (up2 (k_copy_76 σ) 0 14 0) := ⟨JJ_0 (JJ_cp hJ), rfl, Or.inl rfl⟩
  have hb : τ 5 (ix 7) = (up2 (k_copy_76 σ) 0 14 0) 6 3 := by
    rw [hR.1 5 (by decide)]
    rfl
  rw [m_take_split, keep_eq hR, hb]
  have hE : k_take σ e = k_take σ e := rfl
  have hE := hE.trans (bd_e rfl)
  obtain ⟨σ2, s2⟩ : ∃ z, z = up2 (k_copy_76 σ) 0 14 0 := ⟨_, rfl⟩
  have hE := hE.trans (bd_e s2)
  rw [← s2] at hX ⊢
  obtain ⟨e3, x3⟩ := frame_eq hX
  rw [e3]
  obtain ⟨σ3, s3⟩ : ∃ z, z = k_pushFrame σ2 := ⟨_, rfl⟩
  have hE := hE.trans (bd_e s3)
  rw [← s3] at x3 ⊢
  by_cases hf : σ3 0 14 = 0
  · have hE := hE.trans (if_pos hf)
    have hE : k_take σ e = k_enter σ3 e := hE
    rw [hE]
    exact enter_eq x3.1 he hf
  · have hE := hE.trans (if_neg hf)
    have hE : k_take σ e = up2 (k_copy_67 σ3) 0 11 2 := hE
    rw [hE]
    refine ⟨?_, JJ_0 (JJ_bk x3.1)⟩
    unfold mrest
    rw [if_neg (show ¬ vK σ3 0 14 = 0 from hf), vK_0_11]
    simp only [bd]
    rw [back_eq (DD_of x3.2.1)]
theorem ms6t {τ : St} {x : Int32} (h : ((τ 0 12) >>> ((6 : Int32) &&& 31)) &&& 1 = 1) (ha : (τ 0 10) = 0 ∨ ¬ (τ 0 10) ≤ 6) : m_step_5_6 τ x = m_step_5_5 τ 6 := by
  unfold m_step_5_6
  rw [if_pos h]
  by_cases h0 : (τ 0 10) = 0
  · rw [if_pos h0]
    rfl
  · rw [if_neg h0, if_neg (ha.resolve_left h0)]
    rfl
theorem ms6f {τ : St} {x : Int32} (h : ((τ 0 12) >>> ((6 : Int32) &&& 31)) &&& 1 = 0 ∨ (¬ (τ 0 10) = 0 ∧ (τ 0 10) ≤ 6)) : m_step_5_6 τ x = m_step_5_5 τ x := by
  unfold m_step_5_6
  by_cases h1 : ((τ 0 12) >>> ((6 : Int32) &&& 31)) &&& 1 = 1
  · have h2 := h.resolve_left (fun z => absurd (z.symm.trans h1) (by decide))
    rw [if_pos h1, if_neg h2.1, if_pos h2.2]
    rfl
  · rw [if_neg h1]
    rfl
theorem ms5t {τ : St} {x : Int32} (h : ((τ 0 12) >>> ((5 : Int32) &&& 31)) &&& 1 = 1) (ha : (τ 0 10) = 0 ∨ ¬ (τ 0 10) ≤ 5) : m_step_5_5 τ x = m_step_5_4 τ 5 := by
  unfold m_step_5_5
  rw [if_pos h]
  by_cases h0 : (τ 0 10) = 0
  · rw [if_pos h0]
    rfl
  · rw [if_neg h0, if_neg (ha.resolve_left h0)]
    rfl
theorem ms5f {τ : St} {x : Int32} (h : ((τ 0 12) >>> ((5 : Int32) &&& 31)) &&& 1 = 0 ∨ (¬ (τ 0 10) = 0 ∧ (τ 0 10) ≤ 5)) : m_step_5_5 τ x = m_step_5_4 τ x := by
  unfold m_step_5_5
  by_cases h1 : ((τ 0 12) >>> ((5 : Int32) &&& 31)) &&& 1 = 1
  · have h2 := h.resolve_left (fun z => absurd (z.symm.trans h1) (by decide))
    rw [if_pos h1, if_neg h2.1, if_pos h2.2]
    rfl
  · rw [if_neg h1]
    rfl
theorem ms4t {τ : St} {x : Int32} (h : ((τ 0 12) >>> ((4 : Int32) &&& 31)) &&& 1 = 1) (ha : (τ 0 10) = 0 ∨ ¬ (τ 0 10) ≤ 4) : m_step_5_4 τ x = m_step_5_3 τ 4 := by
  unfold m_step_5_4
  rw [if_pos h]
  by_cases h0 : (τ 0 10) = 0
  · rw [if_pos h0]
    rfl
  · rw [if_neg h0, if_neg (ha.resolve_left h0)]
    rfl
theorem ms4f {τ : St} {x : Int32} (h : ((τ 0 12) >>> ((4 : Int32) &&& 31)) &&& 1 = 0 ∨ (¬ (τ 0 10) = 0 ∧ (τ 0 10) ≤ 4)) : m_step_5_4 τ x = m_step_5_3 τ x := by
  unfold m_step_5_4
  by_cases h1 : ((τ 0 12) >>> ((4 : Int32) &&& 31)) &&& 1 = 1
  · have h2 := h.resolve_left (fun z => absurd (z.symm.trans h1) (by decide))
    rw [if_pos h1, if_neg h2.1, if_pos h2.2]
    rfl
  · rw [if_neg h1]
    rfl
theorem ms3t {τ : St} {x : Int32} (h : ((τ 0 12) >>> ((3 : Int32) &&& 31)) &&& 1 = 1) (ha : (τ 0 10) = 0 ∨ ¬ (τ 0 10) ≤ 3) : m_step_5_3 τ x = m_step_5_2 τ 3 := by
  unfold m_step_5_3
  rw [if_pos h]
  by_cases h0 : (τ 0 10) = 0
  · rw [if_pos h0]
    rfl
  · rw [if_neg h0, if_neg (ha.resolve_left h0)]
    rfl
theorem ms3f {τ : St} {x : Int32} (h : ((τ 0 12) >>> ((3 : Int32) &&& 31)) &&& 1 = 0 ∨ (¬ (τ 0 10) = 0 ∧ (τ 0 10) ≤ 3)) : m_step_5_3 τ x = m_step_5_2 τ x := by
  unfold m_step_5_3
  by_cases h1 : ((τ 0 12) >>> ((3 : Int32) &&& 31)) &&& 1 = 1
  · have h2 := h.resolve_left (fun z => absurd (z.symm.trans h1) (by decide))
    rw [if_pos h1, if_neg h2.1, if_pos h2.2]
    rfl
  · rw [if_neg h1]
    rfl
theorem kt3l {σ : St} {x : Int32} (h : x ≤ 3) : k_takePending_25_3 σ x = σ := by
  unfold k_takePending_25_3
  rw [if_pos h]
theorem kt3f {σ : St} {x : Int32} (h : ((σ 0 12) >>> ((3 : Int32) &&& 31)) &&& 1 = 0) (hx : ¬ x ≤ 3) : k_takePending_25_3 σ x = k_takePending_25_4 σ x := by
  unfold k_takePending_25_3
  rw [if_neg hx, if_pos h]
theorem kt3t {σ : St} {x : Int32} (h : ¬ ((σ 0 12) >>> ((3 : Int32) &&& 31)) &&& 1 = 0) (hx : ¬ x ≤ 3) : k_takePending_25_3 σ x = k_take (up2 σ 0 12 ((σ 0 12) &&& (((1 : Int32) <<< ((3 : Int32) &&& 31)) ^^^ (-1)))) 3 := by
  unfold k_takePending_25_3
  rw [if_neg hx, if_neg h]
  exact (bd_e rfl).trans (bd_e rfl)
theorem kt4l {σ : St} {x : Int32} (h : x ≤ 4) : k_takePending_25_4 σ x = σ := by
  unfold k_takePending_25_4
  rw [if_pos h]
theorem kt4f {σ : St} {x : Int32} (h : ((σ 0 12) >>> ((4 : Int32) &&& 31)) &&& 1 = 0) (hx : ¬ x ≤ 4) : k_takePending_25_4 σ x = k_takePending_25_5 σ x := by
  unfold k_takePending_25_4
  rw [if_neg hx, if_pos h]
theorem kt4t {σ : St} {x : Int32} (h : ¬ ((σ 0 12) >>> ((4 : Int32) &&& 31)) &&& 1 = 0) (hx : ¬ x ≤ 4) : k_takePending_25_4 σ x = k_take (up2 σ 0 12 ((σ 0 12) &&& (((1 : Int32) <<< ((4 : Int32) &&& 31)) ^^^ (-1)))) 4 := by
  unfold k_takePending_25_4
  rw [if_neg hx, if_neg h]
  exact (bd_e rfl).trans (bd_e rfl)
theorem kt5l {σ : St} {x : Int32} (h : x ≤ 5) : k_takePending_25_5 σ x = σ := by
  unfold k_takePending_25_5
  rw [if_pos h]
theorem kt5f {σ : St} {x : Int32} (h : ((σ 0 12) >>> ((5 : Int32) &&& 31)) &&& 1 = 0) (hx : ¬ x ≤ 5) : k_takePending_25_5 σ x = k_takePending_25_6 σ x := by
  unfold k_takePending_25_5
  rw [if_neg hx, if_pos h]
theorem kt5t {σ : St} {x : Int32} (h : ¬ ((σ 0 12) >>> ((5 : Int32) &&& 31)) &&& 1 = 0) (hx : ¬ x ≤ 5) : k_takePending_25_5 σ x = k_take (up2 σ 0 12 ((σ 0 12) &&& (((1 : Int32) <<< ((5 : Int32) &&& 31)) ^^^ (-1)))) 5 := by
  unfold k_takePending_25_5
  rw [if_neg hx, if_neg h]
  exact (bd_e rfl).trans (bd_e rfl)
theorem kt6l {σ : St} {x : Int32} (h : x ≤ 6) : k_takePending_25_6 σ x = σ := by
  unfold k_takePending_25_6
  rw [if_pos h]
theorem kt6f {σ : St} {x : Int32} (h : ((σ 0 12) >>> ((6 : Int32) &&& 31)) &&& 1 = 0) (hx : ¬ x ≤ 6) : k_takePending_25_6 σ x = k_takePending_25_7 σ x := by
  unfold k_takePending_25_6
  rw [if_neg hx, if_pos h]
theorem kt6t {σ : St} {x : Int32} (h : ¬ ((σ 0 12) >>> ((6 : Int32) &&& 31)) &&& 1 = 0) (hx : ¬ x ≤ 6) : k_takePending_25_6 σ x = k_take (up2 σ 0 12 ((σ 0 12) &&& (((1 : Int32) <<< ((6 : Int32) &&& 31)) ^^^ (-1)))) 6 := by
  unfold k_takePending_25_6
  rw [if_neg hx, if_neg h]
  exact (bd_e rfl).trans (bd_e rfl)
theorem le_tr {a b c : Int32} (h : a ≤ b) (h2 : b ≤ c) : a ≤ c := Int32.le_trans h h2
/-- which pending exception a step takes first, on both sides -/
theorem pend_eq {σ τ : St} (h12 : τ 0 12 = σ 0 12) (h10 : τ 0 10 = σ 6 6) (hJ : JJ σ) : (k_takePending σ = σ ∧ m_step τ = m_step_79 τ) ∨ ∃ e : Int32, ac e ∧ k_takePending σ = k_take (up2 σ 0 12 ((σ 0 12) &&& (((1 : Int32) <<< (e &&& 31)) ^^^ (-1)))) e ∧ m_step τ = m_step_79 (m_take (up2 τ 0 12 ((σ 0 12) &&& (((1 : Int32) <<< (e &&& 31)) ^^^ (-1)))) e ((up2 τ 0 12 ((σ 0 12) &&& (((1 : Int32) <<< (e &&& 31)) ^^^ (-1)))) 5 (ix 7))) := by
  have hm : m_step τ = m_step_5_6 τ 0 := rfl
  have fin : ∀ e : Int32, ¬ e ≤ 0 → m_step_5_2 τ e = m_step_79 (m_take (up2 τ 0 12 ((σ 0 12) &&& (((1 : Int32) <<< (e &&& 31)) ^^^ (-1)))) e ((up2 τ 0 12 ((σ 0 12) &&& (((1 : Int32) <<< (e &&& 31)) ^^^ (-1)))) 5 (ix 7))) := by
    intro e he
    unfold m_step_5_2
    rw [if_neg he, h12]
    simp only [bd]
  have fin0 : m_step_5_2 τ 0 = m_step_79 τ := rfl
  obtain ⟨x, hx, hk⟩ : ∃ x : Int32, (∀ e : Int32, (e = 3 ∨ e = 4 ∨ e = 5 ∨ e = 6) → (¬ x ≤ e ↔ (σ 6 6 = 0 ∨ ¬ σ 6 6 ≤ e))) ∧ k_takePending σ = k_takePending_25_3 σ x := by
    unfold k_takePending k_takePending_22
    by_cases h0 : σ 6 6 = 0
    · rw [if_pos h0]
      refine ⟨7, fun e he => ⟨fun _ => Or.inl h0, fun _ => ?_⟩, rfl⟩
      rcases he with rfl | rfl | rfl | rfl <;> decide
    · rw [if_neg h0]
      exact ⟨σ 6 6, fun e _ => ⟨fun z => Or.inr z, fun z => z.resolve_left h0⟩, rfl⟩
  have due : ∀ e : Int32, (e = 3 ∨ e = 4 ∨ e = 5 ∨ e = 6) → ¬ x ≤ e → (τ 0 10 = 0 ∨ ¬ τ 0 10 ≤ e) := fun e he h => by rw [h10]; exact (hx e he).mp h
  have nod : ∀ e : Int32, (e = 3 ∨ e = 4 ∨ e = 5 ∨ e = 6) → x ≤ e → (¬ τ 0 10 = 0 ∧ τ 0 10 ≤ e) := fun e he h => by
    rw [h10]
    have h2 : ¬ (σ 6 6 = 0 ∨ ¬ σ 6 6 ≤ e) := fun z => (hx e he).mpr z h
    exact ⟨fun z => h2 (Or.inl z), Classical.byContradiction (fun z => h2 (Or.inr z))⟩
  rw [hk, hm]
  have m3 : (3 : Int32) = 3 ∨ (3 : Int32) = 4 ∨ (3 : Int32) = 5 ∨ (3 : Int32) = 6 := by decide
  have m4 : (4 : Int32) = 3 ∨ (4 : Int32) = 4 ∨ (4 : Int32) = 5 ∨ (4 : Int32) = 6 := by decide
  have m5 : (5 : Int32) = 3 ∨ (5 : Int32) = 4 ∨ (5 : Int32) = 5 ∨ (5 : Int32) = 6 := by decide
  have m6 : (6 : Int32) = 3 ∨ (6 : Int32) = 4 ∨ (6 : Int32) = 5 ∨ (6 : Int32) = 6 := by decide
  have l34 : (3 : Int32) ≤ 4 := by decide
  have l45 : (4 : Int32) ≤ 5 := by decide
  have l56 : (5 : Int32) ≤ 6 := by decide
  have bit : ∀ e : Int32, (((τ 0 12) >>> (e &&& 31)) &&& 1 = 0 ∧ ((σ 0 12) >>> (e &&& 31)) &&& 1 = 0) ∨ (((τ 0 12) >>> (e &&& 31)) &&& 1 = 1 ∧ ¬ ((σ 0 12) >>> (e &&& 31)) &&& 1 = 0) := by
    intro e
    rw [h12]
    rcases bit_01 ((σ 0 12) >>> (e &&& 31)) with h | h
    · exact Or.inl ⟨h, h⟩
    · exact Or.inr ⟨h, by rw [h]; decide⟩
  by_cases c3 : x ≤ 3
  · have n3 := Or.inr (a := ((τ 0 12) >>> ((3 : Int32) &&& 31)) &&& 1 = 0) (nod 3 m3 c3)
    have c4 := le_tr c3 l34
    have n4 := Or.inr (a := ((τ 0 12) >>> ((4 : Int32) &&& 31)) &&& 1 = 0) (nod 4 m4 c4)
    have c5 := le_tr c4 l45
    have n5 := Or.inr (a := ((τ 0 12) >>> ((5 : Int32) &&& 31)) &&& 1 = 0) (nod 5 m5 c5)
    have c6 := le_tr c5 l56
    have n6 := Or.inr (a := ((τ 0 12) >>> ((6 : Int32) &&& 31)) &&& 1 = 0) (nod 6 m6 c6)
    have g : m_step_5_6 τ 0 = m_step_5_2 τ 0 := by rw [ms6f n6, ms5f n5, ms4f n4, ms3f n3]
    exact Or.inl ⟨kt3l c3, g.trans fin0⟩
  · rcases bit 3 with ⟨b, b'⟩ | ⟨b, b'⟩
    · rw [kt3f b' c3]
      have n3 := Or.inl (b := ¬ τ 0 10 = 0 ∧ τ 0 10 ≤ 3) b
      by_cases c4 : x ≤ 4
      · have n4 := Or.inr (a := ((τ 0 12) >>> ((4 : Int32) &&& 31)) &&& 1 = 0) (nod 4 m4 c4)
        have c5 := le_tr c4 l45
        have n5 := Or.inr (a := ((τ 0 12) >>> ((5 : Int32) &&& 31)) &&& 1 = 0) (nod 5 m5 c5)
        have c6 := le_tr c5 l56
        have n6 := Or.inr (a := ((τ 0 12) >>> ((6 : Int32) &&& 31)) &&& 1 = 0) (nod 6 m6 c6)
        have g : m_step_5_6 τ 0 = m_step_5_2 τ 0 := by rw [ms6f n6, ms5f n5, ms4f n4, ms3f n3]
        exact Or.inl ⟨kt4l c4, g.trans fin0⟩
      · rcases bit 4 with ⟨b, b'⟩ | ⟨b, b'⟩
        · rw [kt4f b' c4]
          have n4 := Or.inl (b := ¬ τ 0 10 = 0 ∧ τ 0 10 ≤ 4) b
          by_cases c5 : x ≤ 5
          · have n5 := Or.inr (a := ((τ 0 12) >>> ((5 : Int32) &&& 31)) &&& 1 = 0) (nod 5 m5 c5)
            have c6 := le_tr c5 l56
            have n6 := Or.inr (a := ((τ 0 12) >>> ((6 : Int32) &&& 31)) &&& 1 = 0) (nod 6 m6 c6)
            have g : m_step_5_6 τ 0 = m_step_5_2 τ 0 := by rw [ms6f n6, ms5f n5, ms4f n4, ms3f n3]
            exact Or.inl ⟨kt5l c5, g.trans fin0⟩
          · rcases bit 5 with ⟨b, b'⟩ | ⟨b, b'⟩
            · rw [kt5f b' c5]
              have n5 := Or.inl (b := ¬ τ 0 10 = 0 ∧ τ 0 10 ≤ 5) b
              by_cases c6 : x ≤ 6
              · have n6 := Or.inr (a := ((τ 0 12) >>> ((6 : Int32) &&& 31)) &&& 1 = 0) (nod 6 m6 c6)
                have g : m_step_5_6 τ 0 = m_step_5_2 τ 0 := by rw [ms6f n6, ms5f n5, ms4f n4, ms3f n3]
                exact Or.inl ⟨kt6l c6, g.trans fin0⟩
              · rcases bit 6 with ⟨b, b'⟩ | ⟨b, b'⟩
                · rw [kt6f b' c6]
                  have n6 := Or.inl (b := ¬ τ 0 10 = 0 ∧ τ 0 10 ≤ 6) b
                  have g : m_step_5_6 τ 0 = m_step_5_2 τ 0 := by rw [ms6f n6, ms5f n5, ms4f n4, ms3f n3]
                  exact Or.inl ⟨rfl, g.trans fin0⟩
                · refine Or.inr ⟨6, by decide, kt6t b' c6, ?_⟩
                  have g : ∀ y : Int32, m_step_5_6 τ y = m_step_5_2 τ 6 := fun y => by rw [ms6t b (due 6 m6 c6), ms5f n5, ms4f n4, ms3f n3]
                  rw [g, fin 6 (by decide)]
            · refine Or.inr ⟨5, by decide, kt5t b' c5, ?_⟩
              have g : ∀ y : Int32, m_step_5_5 τ y = m_step_5_2 τ 5 := fun y => by rw [ms5t b (due 5 m5 c5), ms4f n4, ms3f n3]
              have g : ∀ y : Int32, m_step_5_6 τ y = m_step_5_2 τ 5 := fun y => by
                by_cases d : ((τ 0 12) >>> ((6 : Int32) &&& 31)) &&& 1 = 1 ∧ (τ 0 10 = 0 ∨ ¬ τ 0 10 ≤ 6)
                · rw [ms6t d.1 d.2, g]
                · rcases bit 6 with ⟨w, -⟩ | ⟨w, -⟩
                  · rw [ms6f (Or.inl w), g]
                  · have d2 : ¬ (τ 0 10 = 0 ∨ ¬ τ 0 10 ≤ 6) := fun z => d ⟨w, z⟩
                    rw [ms6f (Or.inr ⟨fun z => d2 (Or.inl z), Classical.byContradiction (fun z => d2 (Or.inr z))⟩), g]
              rw [g, fin 5 (by decide)]
        · refine Or.inr ⟨4, by decide, kt4t b' c4, ?_⟩
          have g : ∀ y : Int32, m_step_5_4 τ y = m_step_5_2 τ 4 := fun y => by rw [ms4t b (due 4 m4 c4), ms3f n3]
          have g : ∀ y : Int32, m_step_5_5 τ y = m_step_5_2 τ 4 := fun y => by
            by_cases d : ((τ 0 12) >>> ((5 : Int32) &&& 31)) &&& 1 = 1 ∧ (τ 0 10 = 0 ∨ ¬ τ 0 10 ≤ 5)
            · rw [ms5t d.1 d.2, g]
            · rcases bit 5 with ⟨w, -⟩ | ⟨w, -⟩
              · rw [ms5f (Or.inl w), g]
              · have d2 : ¬ (τ 0 10 = 0 ∨ ¬ τ 0 10 ≤ 5) := fun z => d ⟨w, z⟩
                rw [ms5f (Or.inr ⟨fun z => d2 (Or.inl z), Classical.byContradiction (fun z => d2 (Or.inr z))⟩), g]
          have g : ∀ y : Int32, m_step_5_6 τ y = m_step_5_2 τ 4 := fun y => by
            by_cases d : ((τ 0 12) >>> ((6 : Int32) &&& 31)) &&& 1 = 1 ∧ (τ 0 10 = 0 ∨ ¬ τ 0 10 ≤ 6)
            · rw [ms6t d.1 d.2, g]
            · rcases bit 6 with ⟨w, -⟩ | ⟨w, -⟩
              · rw [ms6f (Or.inl w), g]
              · have d2 : ¬ (τ 0 10 = 0 ∨ ¬ τ 0 10 ≤ 6) := fun z => d ⟨w, z⟩
                rw [ms6f (Or.inr ⟨fun z => d2 (Or.inl z), Classical.byContradiction (fun z => d2 (Or.inr z))⟩), g]
          rw [g, fin 4 (by decide)]
    · refine Or.inr ⟨3, by decide, kt3t b' c3, ?_⟩
      have g : ∀ y : Int32, m_step_5_3 τ y = m_step_5_2 τ 3 := fun y => by rw [ms3t b (due 3 m3 c3)]
      have g : ∀ y : Int32, m_step_5_4 τ y = m_step_5_2 τ 3 := fun y => by
        by_cases d : ((τ 0 12) >>> ((4 : Int32) &&& 31)) &&& 1 = 1 ∧ (τ 0 10 = 0 ∨ ¬ τ 0 10 ≤ 4)
        · rw [ms4t d.1 d.2, g]
        · rcases bit 4 with ⟨w, -⟩ | ⟨w, -⟩
          · rw [ms4f (Or.inl w), g]
          · have d2 : ¬ (τ 0 10 = 0 ∨ ¬ τ 0 10 ≤ 4) := fun z => d ⟨w, z⟩
            rw [ms4f (Or.inr ⟨fun z => d2 (Or.inl z), Classical.byContradiction (fun z => d2 (Or.inr z))⟩), g]
      have g : ∀ y : Int32, m_step_5_5 τ y = m_step_5_2 τ 3 := fun y => by
        by_cases d : ((τ 0 12) >>> ((5 : Int32) &&& 31)) &&& 1 = 1 ∧ (τ 0 10 = 0 ∨ ¬ τ 0 10 ≤ 5)
        · rw [ms5t d.1 d.2, g]
        · rcases bit 5 with ⟨w, -⟩ | ⟨w, -⟩
          · rw [ms5f (Or.inl w), g]
          · have d2 : ¬ (τ 0 10 = 0 ∨ ¬ τ 0 10 ≤ 5) := fun z => d ⟨w, z⟩
            rw [ms5f (Or.inr ⟨fun z => d2 (Or.inl z), Classical.byContradiction (fun z => d2 (Or.inr z))⟩), g]
      have g : ∀ y : Int32, m_step_5_6 τ y = m_step_5_2 τ 3 := fun y => by
        by_cases d : ((τ 0 12) >>> ((6 : Int32) &&& 31)) &&& 1 = 1 ∧ (τ 0 10 = 0 ∨ ¬ τ 0 10 ≤ 6)
        · rw [ms6t d.1 d.2, g]
        · rcases bit 6 with ⟨w, -⟩ | ⟨w, -⟩
          · rw [ms6f (Or.inl w), g]
          · have d2 : ¬ (τ 0 10 = 0 ∨ ¬ τ 0 10 ≤ 6) := fun z => d ⟨w, z⟩
            rw [ms6f (Or.inr ⟨fun z => d2 (Or.inl z), Classical.byContradiction (fun z => d2 (Or.inr z))⟩), g]
      rw [g, fin 3 (by decide)]
end
section
-- the end of an instruction: no fault and all agrees, or the same fault
def FM (σ τ : St) : Prop := (σ 0 14 = 0 ∧ τ = vK σ) ∨ ∃ f : Int32, (f = 1 ∨ f = 2) ∧ DD f σ τ
theorem fm_M {σ τ : St} (h : MM σ τ) : FM σ τ := by
  rcases h with ⟨a, b, -⟩ | h
  · exact Or.inl ⟨a, b⟩
  · exact Or.inr ⟨2, Or.inr rfl, h⟩
theorem fm_X {σ : St} (h : XX σ) : FM σ (vK σ) := by
  obtain ⟨-, hA, hf | hf⟩ := h
  · exact Or.inl ⟨hf, rfl⟩
  · exact Or.inr ⟨2, Or.inr rfl, hf ▸ DD_of hA⟩
theorem fm_1 {σ : St} (hA : AE σ) : FM (up2 σ 0 14 1) (vK (up2 σ 0 14 1)) := Or.inr ⟨1, Or.inl rfl, DD_of (σ := up2 σ 0 14 1) hA⟩
theorem mm_e {σ : St} (hA : AE σ) (hf : σ 0 14 = 0) : MM σ (vK σ) := Or.inl ⟨hf, rfl, hA⟩
theorem mm_pop' {σ τ σ' τ' : St} {v v' : Int32} (hs : (σ', v) = k_pop σ) (ht : (τ', v') = m_pop τ) (hJ : JJ σ) (h : MM σ τ) : MM σ' τ' ∧ (σ' 0 14 = 0 → v' = v) ∧ JJ σ' ∧ wd v := by
  have h1 := mm_pop hJ h
  have h2 := JJ_pop hJ
  rw [← hs, ← ht] at h1
  rw [← hs] at h2
  exact ⟨h1.1, h1.2, h2.1, h2.2⟩
theorem mm_read {σ σ' τ' : St} {a v v' : Int32} (hs : (σ', v) = k_read σ a) (ht : (τ', v') = m_read (vK σ) a) (hJ : JJ σ) (hA : AE σ) (hf : σ 0 14 = 0) : MM σ' τ' ∧ (σ' 0 14 = 0 → v' = v) ∧ JJ σ' ∧ wd v := by
  by_cases hm : mayP σ a
  · rw [k_read_t hm] at hs
    rw [m_read_t hJ.1 (JJ_zo hJ) hm] at ht
    cases hs
    cases ht
    exact ⟨mm_e hA hf, fun _ => rfl, hJ, JJ_w hJ _⟩
  · rw [k_read_f hm] at hs
    rw [m_read_f hJ.1 (JJ_zo hJ) hf hm] at ht
    cases hs
    cases ht
    exact ⟨Or.inr (DD_of (σ := up2 σ 0 14 2) hA), fun z => absurd z (show ¬ (2 : Int32) = 0 by decide), JJ_0 hJ, by decide⟩
theorem mm_mark {σ τ : St} {v v' K : Int32} (h : MM σ τ) (hv : σ 0 14 = 0 → v' = v) : MM (if v = K then σ else up2 σ 0 14 2) (if v' = K then τ else m_speak τ 2) := by
  rcases h with ⟨h1, h2, h3⟩ | h
  · rw [hv h1]
    by_cases hk : v = K
    · rw [if_pos hk, if_pos hk]
      exact Or.inl ⟨h1, h2, h3⟩
    · rw [if_neg hk, if_neg hk]
      exact mm_f (Or.inl ⟨h1, h2, h3⟩)
  · have hs : m_speak τ 2 = τ := spk_n (by rw [DD_f h]; decide)
    rw [hs]
    have e1 : (if v' = K then τ else τ) = τ := by split <;> rfl
    rw [e1]
    by_cases hk : v = K
    · rw [if_pos hk]
      exact Or.inr h
    · rw [if_neg hk]
      exact Or.inr (dk14 h)
theorem JJ_mark {σ : St} {v K : Int32} (h : JJ σ) : JJ (if v = K then σ else up2 σ 0 14 2) := by
  split
  · exact h
  · exact JJ_0 h
theorem ite_bd {α β : Type} {c : Prop} {_ : Decidable c} (F : α → β) (a b : α) : (if c then F a else bd b F) = F (if c then a else b) := by split <;> rfl
theorem ite_F {α β : Type} {c : Prop} {_ : Decidable c} (F : α → β) (a b : α) : (if c then F a else F b) = F (if c then a else b) := by split <;> rfl
theorem m_pop_ex (τ : St) : ∃ (a : St) (b : Int32), (a, b) = m_pop τ := ⟨_, _, rfl⟩
theorem k_pop_ex (σ : St) : ∃ (a : St) (b : Int32), (a, b) = k_pop σ := ⟨_, _, rfl⟩
-- END: what an exception's frame gives back
theorem zif {v : Int32} : zb (if v = 0 then (0 : Int32) else 1) := by split <;> decide
theorem ex_97 {σ τ : St} {x v w : Int32} (J : JJ σ) (M : MM σ τ) (hx : ac x) (hv : zb v) (hq : σ 0 14 = 0 → w = v) : FM (k_endException_97 σ x v) (m_endException_108_10 τ x w) ∧ JJ (k_endException_97 σ x v) := by
  have M0 := mm_z M hq
  have J0 := JJ_6_4 J hv
  obtain ⟨σ1, v1, s1⟩ := k_pop_ex (up2 σ 6 4 v)
  obtain ⟨τ1, w1, t1⟩ := m_pop_ex (up2 τ 5 10 w)
  obtain ⟨M1, q1, J1, d1⟩ := mm_pop' s1 t1 J0 M0
  have M2 := mm_pc (v := v1 &&& 255) (v' := w1 &&& 255) M1 (fun z => by rw [q1 z])
  have J2 := JJ_6_3 J1 (b8_and v1)
  have hE : k_endException_97 σ x v = up2 (up2 σ1 6 3 (v1 &&& 255)) 6 6 x := (bd_e rfl).trans ((bd2_e s1).trans ((bd_e rfl).trans (bd_e rfl)))
  have hT : m_endException_108_10 τ x w = if ((up2 τ1 5 7 (w1 &&& 255)) 0 14) = 0 then up2 (up2 τ1 5 7 (w1 &&& 255)) 0 10 x else up2 τ1 5 7 (w1 &&& 255) := (bd_e rfl).trans ((bd2_e t1).trans (bd_e rfl))
  rw [hE, hT]
  refine ⟨?_, JJ_6_6 J2 hx⟩
  generalize up2 σ1 6 3 (v1 &&& 255) = σ2 at *
  generalize up2 τ1 5 7 (w1 &&& 255) = τ2 at *
  rcases M2 with ⟨a, rfl, -⟩ | M2
  · rw [if_pos (show vK σ2 0 14 = 0 from a), ← vK_6_6]
    exact Or.inl ⟨a, rfl⟩
  · rw [if_neg (show ¬ τ2 0 14 = 0 by rw [DD_f M2]; decide)]
    exact Or.inr ⟨2, Or.inr rfl, dk6 M2⟩
theorem ex_n1 {σ τ : St} {x : Int32} (J : JJ σ) (M : MM σ τ) (hx : ac x) : FM (k_endException_44_n1 σ x) (m_endException_57_n1 τ x) ∧ JJ (k_endException_44_n1 σ x) := by
  obtain ⟨σ1, v1, s1⟩ := k_pop_ex σ
  obtain ⟨τ1, w1, t1⟩ := m_pop_ex τ
  obtain ⟨M1, q1, J1, d1⟩ := mm_pop' s1 t1 J M
  have M2 := mm_r (k := ix 6) (by decide) M1 q1
  have J2 := JJ_8 (k := ix 6) J1 d1
  obtain ⟨σ3, v3, s3⟩ := k_pop_ex (up2 σ1 8 (ix 6) v1)
  obtain ⟨τ3, w3, t3⟩ := m_pop_ex (up2 τ1 5 (ix 6) w1)
  obtain ⟨M3, q3, J3, d3⟩ := mm_pop' s3 t3 J2 M2
  have hE : k_endException_44_n1 σ x = k_endException_97 σ3 x (if v3 = 0 then 0 else 1) := (bd2_e s1).trans ((bd_e rfl).trans ((bd2_e s3).trans (ite_F (fun z => k_endException_97 σ3 x z) 0 1)))
  have hT : m_endException_57_n1 τ x = m_endException_108_10 τ3 x (if w3 = 0 then 0 else 1) := (bd2_e t1).trans ((bd_e rfl).trans ((bd2_e t3).trans (ite_F (fun z => m_endException_108_10 τ3 x z) 0 1)))
  rw [hE, hT]
  exact ex_97 J3 M3 hx zif (fun z => by rw [q3 z])
theorem ex_0 {σ τ : St} {x : Int32} (J : JJ σ) (M : MM σ τ) (hx : ac x) : FM (k_endException_44_0 σ x) (m_endException_57_0 τ x) ∧ JJ (k_endException_44_0 σ x) := by
  obtain ⟨σ1, v1, s1⟩ := k_pop_ex σ
  obtain ⟨τ1, w1, t1⟩ := m_pop_ex τ
  obtain ⟨M1, q1, J1, d1⟩ := mm_pop' s1 t1 J M
  have hE : k_endException_44_0 σ x = k_endException_44_n1 (up2 σ1 8 (ix 0) v1) x := (bd2_e s1).trans (bd_e rfl)
  have hT : m_endException_57_0 τ x = m_endException_57_n1 (up2 τ1 5 (ix 0) w1) x := (bd2_e t1).trans (bd_e rfl)
  rw [hE, hT]
  exact ex_n1 (JJ_8 J1 d1) (mm_r (by decide) M1 q1) hx
theorem ex_1 {σ τ : St} {x : Int32} (J : JJ σ) (M : MM σ τ) (hx : ac x) : FM (k_endException_44_1 σ x) (m_endException_57_1 τ x) ∧ JJ (k_endException_44_1 σ x) := by
  obtain ⟨σ1, v1, s1⟩ := k_pop_ex σ
  obtain ⟨τ1, w1, t1⟩ := m_pop_ex τ
  obtain ⟨M1, q1, J1, d1⟩ := mm_pop' s1 t1 J M
  have hE : k_endException_44_1 σ x = k_endException_44_0 (up2 σ1 8 (ix 1) v1) x := (bd2_e s1).trans (bd_e rfl)
  have hT : m_endException_57_1 τ x = m_endException_57_0 (up2 τ1 5 (ix 1) w1) x := (bd2_e t1).trans (bd_e rfl)
  rw [hE, hT]
  exact ex_0 (JJ_8 J1 d1) (mm_r (by decide) M1 q1) hx
theorem ex_2 {σ τ : St} {x : Int32} (J : JJ σ) (M : MM σ τ) (hx : ac x) : FM (k_endException_44_2 σ x) (m_endException_57_2 τ x) ∧ JJ (k_endException_44_2 σ x) := by
  obtain ⟨σ1, v1, s1⟩ := k_pop_ex σ
  obtain ⟨τ1, w1, t1⟩ := m_pop_ex τ
  obtain ⟨M1, q1, J1, d1⟩ := mm_pop' s1 t1 J M
  have hE : k_endException_44_2 σ x = k_endException_44_1 (up2 σ1 8 (ix 2) v1) x := (bd2_e s1).trans (bd_e rfl)
  have hT : m_endException_57_2 τ x = m_endException_57_1 (up2 τ1 5 (ix 2) w1) x := (bd2_e t1).trans (bd_e rfl)
  rw [hE, hT]
  exact ex_1 (JJ_8 J1 d1) (mm_r (by decide) M1 q1) hx
theorem ex_3 {σ τ : St} {x : Int32} (J : JJ σ) (M : MM σ τ) (hx : ac x) : FM (k_endException_44_3 σ x) (m_endException_57_3 τ x) ∧ JJ (k_endException_44_3 σ x) := by
  obtain ⟨σ1, v1, s1⟩ := k_pop_ex σ
  obtain ⟨τ1, w1, t1⟩ := m_pop_ex τ
  obtain ⟨M1, q1, J1, d1⟩ := mm_pop' s1 t1 J M
  have hE : k_endException_44_3 σ x = k_endException_44_2 (up2 σ1 8 (ix 3) v1) x := (bd2_e s1).trans (bd_e rfl)
  have hT : m_endException_57_3 τ x = m_endException_57_2 (up2 τ1 5 (ix 3) w1) x := (bd2_e t1).trans (bd_e rfl)
  rw [hE, hT]
  exact ex_2 (JJ_8 J1 d1) (mm_r (by decide) M1 q1) hx
theorem ex_4 {σ τ : St} {x : Int32} (J : JJ σ) (M : MM σ τ) (hx : ac x) : FM (k_endException_44_4 σ x) (m_endException_57_4 τ x) ∧ JJ (k_endException_44_4 σ x) := by
  obtain ⟨σ1, v1, s1⟩ := k_pop_ex σ
  obtain ⟨τ1, w1, t1⟩ := m_pop_ex τ
  obtain ⟨M1, q1, J1, d1⟩ := mm_pop' s1 t1 J M
  have hE : k_endException_44_4 σ x = k_endException_44_3 (up2 σ1 8 (ix 4) v1) x := (bd2_e s1).trans (bd_e rfl)
  have hT : m_endException_57_4 τ x = m_endException_57_3 (up2 τ1 5 (ix 4) w1) x := (bd2_e t1).trans (bd_e rfl)
  rw [hE, hT]
  exact ex_3 (JJ_8 J1 d1) (mm_r (by decide) M1 q1) hx
theorem ex_5 {σ τ : St} {x : Int32} (J : JJ σ) (M : MM σ τ) (hx : ac x) : FM (k_endException_44_5 σ x) (m_endException_57_5 τ x) ∧ JJ (k_endException_44_5 σ x) := by
  obtain ⟨σ1, v1, s1⟩ := k_pop_ex σ
  obtain ⟨τ1, w1, t1⟩ := m_pop_ex τ
  obtain ⟨M1, q1, J1, d1⟩ := mm_pop' s1 t1 J M
  have hE : k_endException_44_5 σ x = k_endException_44_4 (up2 σ1 8 (ix 5) v1) x := (bd2_e s1).trans (bd_e rfl)
  have hT : m_endException_57_5 τ x = m_endException_57_4 (up2 τ1 5 (ix 5) w1) x := (bd2_e t1).trans (bd_e rfl)
  rw [hE, hT]
  exact ex_4 (JJ_8 J1 d1) (mm_r (by decide) M1 q1) hx
theorem endx {σ τ : St} {x y : Int32} (hJ : JJ σ) (hM : MM σ τ) (hx : ac x) (hy : zb y) : FM (k_endException_22 σ x y) (m_endException_34_11 τ x y) ∧ JJ (k_endException_22 σ x y) := by
  have M0 := mm_o (v := y) hM
  have J0 := JJ_6_5 hJ hy
  obtain ⟨σ1, v1, s1⟩ := k_pop_ex (up2 σ 6 5 y)
  obtain ⟨τ1, w1, t1⟩ := m_pop_ex (up2 τ 5 11 y)
  obtain ⟨M1, q1, J1, d1⟩ := mm_pop' s1 t1 J0 M0
  have M2 := mm_mark (K := 1000 + x) M1 q1
  have J2 := JJ_mark (v := v1) (K := 1000 + x) J1
  have hE : k_endException_22 σ x y = k_endException_44_5 (if v1 = 1000 + x then σ1 else up2 σ1 0 14 2) x := (bd_e rfl).trans ((bd2_e s1).trans (ite_bd (fun z => k_endException_44_5 z x) σ1 (up2 σ1 0 14 2)))
  have hT : m_endException_34_11 τ x y = m_endException_57_5 (if w1 = 1000 + x then τ1 else m_speak τ1 2) x := (bd_e rfl).trans ((bd2_e t1).trans (ite_bd (fun z => m_endException_57_5 z x) τ1 (m_speak τ1 2)))
  rw [hE, hT]
  exact ex_5 J2 M2 hx
theorem endo {σ : St} (hJ : JJ σ) (hA : AE σ) (hf : σ 0 14 = 0) (ho : ¬ σ 6 5 = 0) : FM (k_endOutCall σ) (m_returns_65 (vK σ) 65520) ∧ JJ (k_endOutCall σ) := by
  have hE : k_endOutCall σ = k_endOutCall σ := rfl
  have hT : m_returns_65 (vK σ) 65520 = m_returns_65 (vK σ) 65520 := rfl
  have hT := hT.trans (if_pos rfl)
  have hT := hT.trans (bd2_e (iow (JJ_zo hJ)).symm)
  have hT := hT.trans (if_neg ho)
  obtain ⟨σ1, s1⟩ : ∃ z, z = up2 σ 6 5 0 := ⟨_, rfl⟩
  obtain ⟨τ1, t1⟩ : ∃ z, z = up2 (vK σ) 5 (ix 11) 0 := ⟨_, rfl⟩
  have hE := hE.trans (bd_e s1)
  have hT := hT.trans (bd_e t1)
  have M1 : MM σ1 τ1 := by rw [s1, t1]; exact mm_o (v := 0) (mm_e hA hf)
  have J1 : JJ σ1 := by rw [s1]; exact JJ_6_5 (v := 0) hJ (by decide)
  clear s1 t1
  obtain ⟨σ2, v2, s2⟩ := k_pop_ex σ1
  obtain ⟨τ2, w2, t2⟩ := m_pop_ex τ1
  have hE := hE.trans (bd2_e s2)
  have hT := hT.trans (bd2_e t2)
  obtain ⟨M2, q2, J2, d2⟩ := mm_pop' s2 t2 J1 M1
  clear s2 t2 M1 J1
  have hE := hE.trans (ite_bd (fun z => k_endOutCall_23 z) σ2 (up2 σ2 0 14 2))
  have hT := hT.trans (ite_bd (fun z => m_returns_103 z) τ2 (m_speak τ2 2))
  obtain ⟨σ3, s3⟩ : ∃ z, z = (if v2 = 4096 then σ2 else up2 σ2 0 14 2) := ⟨_, rfl⟩
  obtain ⟨τ3, t3⟩ : ∃ z, z = (if w2 = 4096 then τ2 else m_speak τ2 2) := ⟨_, rfl⟩
  have hE := hE.trans (congrArg (fun z => k_endOutCall_23 z) s3.symm)
  have hT := hT.trans (congrArg (fun z => m_returns_103 z) t3.symm)
  have M3 : MM σ3 τ3 := by rw [s3, t3]; exact mm_mark (K := 4096) M2 q2
  have J3 : JJ σ3 := by rw [s3]; exact JJ_mark (v := v2) (K := 4096) J2
  clear s3 t3
  obtain ⟨σ4, v4, s4⟩ := k_pop_ex σ3
  obtain ⟨τ4, w4, t4⟩ := m_pop_ex τ3
  have hE := hE.trans (bd2_e s4)
  have hT := hT.trans (bd2_e t4)
  obtain ⟨M4, q4, J4, d4⟩ := mm_pop' s4 t4 J3 M3
  clear s4 t4 M3 J3
  have hE : k_endOutCall σ = up2 σ4 6 3 (v4 &&& 255) := hE
  have hT : m_returns_65 (vK σ) 65520 = up2 τ4 5 7 (w4 &&& 255) := hT
  rw [hE, hT]
  exact ⟨fm_M (mm_pc M4 (fun z => by rw [q4 z])), JJ_6_3 J4 (b8_and _)⟩
theorem lnk {x : Int32} (hw : wd x) (h1 : ¬ x < 65408) (h2 : ¬ 65520 ≤ x) : ∃ j : Nat, j < 112 ∧ x - 65408 = nI j := by
  have e := nat_nI x
  have hw : x.toBitVec.toNat < 65536 := hw
  have hb : x.toBitVec.toNat < 2 ^ 31 := Nat.lt_trans hw (by decide)
  generalize x.toBitVec.toNat = n at *
  subst e
  have a1 : ¬ nI n < nI 65408 := h1
  have a2 : ¬ nI 65520 ≤ nI n := h2
  rw [nI_ltI hb (by decide)] at a1
  rw [nI_leI (by decide) hb] at a2
  refine ⟨n - 65408, by omega, ?_⟩
  show nI n - nI 65408 = _
  exact pk_sub (by omega)
theorem fr112 : ∀ j : Fin 112, (nI j.val >>> ((4 : Int32) &&& 31)) &&& 7 = nI j.val / 16 ∧ ac (nI j.val / 16) := by decide +kernel
theorem endE {σ : St} (hJ : JJ σ) (hA : AE σ) (hf : σ 0 14 = 0) (h1 : ¬ σ 8 6 < 65408) (h2 : ¬ 65520 ≤ σ 8 6) : FM (k_endException σ (σ 8 6 - 65408)) (m_endException (vK σ)) ∧ JJ (k_endException σ (σ 8 6 - 65408)) := by
  obtain ⟨j, hj, e⟩ := lnk (JJ_r hJ 6) h1 h2
  have f := fr112 ⟨j, hj⟩
  have f : (nI j >>> ((4 : Int32) &&& 31)) &&& 7 = nI j / 16 ∧ ac (nI j / 16) := f
  unfold k_endException m_endException
  rw [show vK σ 5 (ix 6) = σ 8 6 from rfl, e, f.1]
  rcases bit_01 (nI j) with b | b
  · rw [b]
    exact endx hJ (mm_e hA hf) f.2 (by decide)
  · rw [b]
    exact endx hJ (mm_e hA hf) f.2 (by decide)
theorem back49 {σ : St} (hJ : JJ σ) (hA : AE σ) (hf : σ 0 14 = 0) : FM (k_goBack_49 σ (σ 8 6)) (m_returns_65 (vK σ) (σ 8 6)) ∧ JJ (k_goBack_49 σ (σ 8 6)) := by
  have hbr : ∀ {a : St} {b : St}, a = up2 σ 0 14 2 → b = m_speak (vK σ) 2 → FM a b ∧ JJ a := fun h1 h2 => by
    rw [h1, h2]
    exact ⟨fm_M (mm_f (mm_e hA hf)), JJ_0 hJ⟩
  have h72 : FM (k_goBack_72 σ (σ 8 6)) (m_returns_121 (vK σ) (σ 8 6)) ∧ JJ (k_goBack_72 σ (σ 8 6)) := by
    unfold k_goBack_72 m_returns_121
    by_cases h1 : σ 8 6 < 65408
    · rw [if_pos h1, if_pos h1]
      exact hbr rfl rfl
    · rw [if_neg h1, if_neg h1]
      by_cases h2 : 65520 ≤ σ 8 6
      · rw [if_pos h2, if_pos h2]
        exact hbr rfl rfl
      · rw [if_neg h2, if_neg h2]
        by_cases h3 : σ 6 6 = 0
        · rw [if_pos h3, if_pos (show vK σ 0 10 = 0 from h3)]
          exact hbr rfl rfl
        · rw [if_neg h3, if_neg (show ¬ vK σ 0 10 = 0 from h3)]
          exact endE hJ hA hf h1 h2
  by_cases h1 : σ 8 6 = 65520
  · by_cases h2 : σ 6 5 = 0
    · have a : k_goBack_49 σ (σ 8 6) = k_goBack_72 σ (σ 8 6) := by
        unfold k_goBack_49
        rw [if_pos h1, if_pos h2]
      have b : m_returns_65 (vK σ) (σ 8 6) = m_returns_121 (vK σ) (σ 8 6) := by
        unfold m_returns_65
        rw [if_pos h1]
        simp only [bd2, iow (JJ_zo hJ)]
        rw [if_pos h2]
      rw [a, b]
      exact h72
    · have a : k_goBack_49 σ (σ 8 6) = k_endOutCall σ := by
        unfold k_goBack_49
        rw [if_pos h1, if_neg h2]
        rfl
      rw [a, h1]
      exact endo hJ hA hf h2
  · have a : k_goBack_49 σ (σ 8 6) = k_goBack_72 σ (σ 8 6) := by
      unfold k_goBack_49
      rw [if_neg h1]
    have b : m_returns_65 (vK σ) (σ 8 6) = m_returns_121 (vK σ) (σ 8 6) := by
      unfold m_returns_65
      rw [if_neg h1]
    rw [a, b]
    exact h72
theorem retn {σ : St} (hJ : JJ σ) (hA : AE σ) (hf : σ 0 14 = 0) : FM (k_goBack σ) (m_returns (vK σ)) ∧ JJ (k_goBack σ) := by
  have e6 : σ 8 (ix 6) = σ 8 6 := rfl
  have v6 : vK σ 5 (ix 6) = σ 8 6 := rfl
  unfold k_goBack m_returns
  rw [e6, v6]
  by_cases h1 : 32768 ≤ σ 8 6
  · rw [if_pos h1, if_pos h1]
    by_cases h2 : 65408 ≤ σ 8 6
    · rw [if_pos h2, if_pos h2]
      exact back49 hJ hA hf
    · rw [if_neg h2, if_neg h2]
      simp only [bd2, iow (JJ_zo hJ)]
      by_cases h3 : σ 6 5 = 0
      · rw [if_pos h3, if_pos h3]
        have a : (bd (k_goOut σ (σ 8 6)) fun σ14 => k_goBack_110 σ14) = up2 (up2 σ 6 5 1) 6 3 (σ 8 6 &&& 255) := rfl
        have b : (bd (up2 (vK σ) 5 (ix 11) 1) fun σ23 => bd (up2 σ23 5 (ix 7) (σ 8 6 &&& 255)) fun σ24 => m_returns_152 σ24) = up2 (up2 (vK σ) 5 11 1) 5 7 (σ 8 6 &&& 255) := rfl
        rw [a, b]
        exact ⟨fm_M (mm_pc (mm_o (mm_e hA hf)) (fun _ => rfl)), JJ_6_3 (JJ_6_5 hJ (by decide)) (b8_and _)⟩
      · rw [if_neg h3, if_neg h3]
        exact back49 hJ hA hf
  · rw [if_neg h1, if_neg h1]
    have a : (bd (k_goTo σ (σ 8 6)) fun σ15 => k_goBack_110 σ15) = up2 σ 6 3 (σ 8 6 &&& 255) := rfl
    have b : (bd (up2 (vK σ) 5 (ix 7) (σ 8 6 &&& 255)) fun σ25 => m_returns_152 σ25) = up2 (vK σ) 5 7 (σ 8 6 &&& 255) := rfl
    rw [a, b]
    exact ⟨fm_M (mm_pc (mm_e hA hf) (fun _ => rfl)), JJ_6_3 hJ (b8_and _)⟩
end
section
-- an instruction behind its fetch
def kQ (σ : St) (w : Int32) : St := bd (k_goTo σ ((σ 6 3) + 1)) fun σ11 => if 6 < (w >>> ((12 : Int32) &&& 31)) then k_changeFlow σ11 w else k_moveData σ11 w
def kP (σ : St) (w : Int32) : St := bd2 (k_isUnknown σ w) fun σ15 v16 => if v16 = 0 then kQ σ15 w else up2 σ15 0 14 1
theorem kP_u {σ : St} {w : Int32} (h : k_isUnknown σ w = (σ, 1)) : kP σ w = up2 σ 0 14 1 := by
  unfold kP
  simp only [bd2, h]
  rw [if_neg (by decide)]
theorem kP_k {σ : St} {w : Int32} (h : k_isUnknown σ w = (σ, 0)) : kP σ w = kQ σ w := by
  unfold kP
  simp only [bd2, h]
  first | rw [if_pos trivial] | rw [if_pos rfl]
/-- an unknown instruction -/
theorem perf_u {σ τ : St} {w : Int32} (hJ : JJ σ) (hA : AE σ) (hf : σ 0 14 = 0) (hk : k_isUnknown σ w = (σ, 1)) (hm : τ = m_perform_94 (vK σ)) : FM (kP σ w) τ ∧ JJ (kP σ w) := by
  have e : m_perform_94 (vK σ) = vK (up2 σ 0 14 1) := by
    rw [vK_0_14]
    show m_speak (vK σ) 1 = _
    rw [spk (show vK σ 0 14 = 0 from hf)]
  rw [kP_u hk, hm, e]
  exact ⟨fm_1 hA, JJ_0 hJ⟩
theorem named_0 : named (ix 0) = 1 := by decide
theorem ns_0 {τ : St} {a b c : Int32} (ha : ¬ a = 7) : m_namesSeven τ 0 a b c = (τ, 0) := by
  simp (decide := true) [m_namesSeven, m_namesSeven_17, m_namesSeven_16, m_namesSeven_29, m_namesSeven_47, m_namesSeven_57, m_namesSeven_58, m_namesSeven_80, m_namesSeven_90, m_namesSeven_86, m_namesSeven_91, ha]
theorem nb_0 {τ : St} {a b c : Int32} (h : a = 7) : m_namesSeven τ 0 a b c = (τ, 1) := by
  simp (decide := true) [m_namesSeven, m_namesSeven_17, m_namesSeven_16, m_namesSeven_29, m_namesSeven_47, m_namesSeven_57, m_namesSeven_58, m_namesSeven_80, m_namesSeven_90, m_namesSeven_86, m_namesSeven_91, h]
theorem ku_0 {σ : St} {w : Int32} (ho : (w >>> ((12 : Int32) &&& 31)) = 0) (ha : ¬ ((w >>> ((9 : Int32) &&& 31)) &&& 7) = 7) : k_isUnknown σ w = (σ, 0) := by
  have ho2 : (w >>> ((12 : Int32) &&& 31)) &&& 15 = 0 := by rw [ho]; decide
  simp (decide := true) [k_isUnknown, k_isUnknown_38, k_isUnknown_36, k_isUnknown_62, k_isUnknown_80, k_isUnknown_97, k_isUnknown_101, k_isUnknown_102, ho2, named_0, ha]
theorem kb_0 {σ : St} {w : Int32} (ho : (w >>> ((12 : Int32) &&& 31)) = 0) (h : ((w >>> ((9 : Int32) &&& 31)) &&& 7) = 7) : k_isUnknown σ w = (σ, 1) := by
  have ho2 : (w >>> ((12 : Int32) &&& 31)) &&& 15 = 0 := by rw [ho]; decide
  have z : ((w >>> ((9 : Int32) &&& 31)) &&& 7) = 7 := h
  by_cases h0 : σ 6 5 = 0
  · simp (decide := true) [k_isUnknown, k_isUnknown_38, k_isUnknown_36, k_isUnknown_62, k_isUnknown_80, k_isUnknown_97, k_isUnknown_101, k_isUnknown_102, ho2, named_0, h0, z]
  · simp (decide := true) [k_isUnknown, k_isUnknown_38, k_isUnknown_36, k_isUnknown_62, k_isUnknown_80, k_isUnknown_97, k_isUnknown_101, k_isUnknown_102, ho2, named_0, h0, z]
theorem mp_0 (τ : St) {w : Int32} (ho : (w >>> ((12 : Int32) &&& 31)) = 0) : m_perform τ w = m_perform_68 τ w 0 ((w >>> ((9 : Int32) &&& 31)) &&& 7) ((w >>> ((6 : Int32) &&& 31)) &&& 7) ((w >>> ((3 : Int32) &&& 31)) &&& 7) (((τ 5 (ix 7)) + 1) &&& 255) 0 := by
  unfold m_perform m_perform_63
  rw [ho]
  rfl
theorem mb_0 {τ : St} {w n y : Int32} (h : ((w >>> ((9 : Int32) &&& 31)) &&& 7) = 7) : m_perform_68 τ w 0 ((w >>> ((9 : Int32) &&& 31)) &&& 7) ((w >>> ((6 : Int32) &&& 31)) &&& 7) ((w >>> ((3 : Int32) &&& 31)) &&& 7) n y = m_perform_94 τ := by
  unfold m_perform_68
  simp only [bd2, nb_0 h]
  rw [if_neg (by decide)]
theorem mg_0 {σ : St} {w n : Int32} (ha : ¬ ((w >>> ((9 : Int32) &&& 31)) &&& 7) = 7) : m_perform_68 (vK σ) w 0 ((w >>> ((9 : Int32) &&& 31)) &&& 7) ((w >>> ((6 : Int32) &&& 31)) &&& 7) ((w >>> ((3 : Int32) &&& 31)) &&& 7) n 0 = m_perform_100 (vK σ) w 0 ((w >>> ((9 : Int32) &&& 31)) &&& 7) ((w >>> ((6 : Int32) &&& 31)) &&& 7) ((w >>> ((3 : Int32) &&& 31)) &&& 7) n := by
  unfold m_perform_68
  simp only [bd2, ns_0 ha]
  first | rw [if_pos trivial, if_pos trivial] | rw [if_pos rfl, if_pos rfl]
theorem named_1 : named (ix 1) = 7 := by decide
theorem ns_1 {τ : St} {a b c : Int32} (ha : ¬ a = 7) (hb : ¬ b = 7) (hc : ¬ c = 7) : m_namesSeven τ 1 a b c = (τ, 0) := by
  simp (decide := true) [m_namesSeven, m_namesSeven_17, m_namesSeven_16, m_namesSeven_29, m_namesSeven_47, m_namesSeven_57, m_namesSeven_58, m_namesSeven_80, m_namesSeven_90, m_namesSeven_86, m_namesSeven_91, ha, hb, hc]
theorem nb_1 {τ : St} {a b c : Int32} (h : a = 7 ∨ b = 7 ∨ c = 7) : m_namesSeven τ 1 a b c = (τ, 1) := by
  by_cases ha : a = 7
  · simp (decide := true) [m_namesSeven, m_namesSeven_17, m_namesSeven_16, m_namesSeven_29, m_namesSeven_47, m_namesSeven_57, m_namesSeven_58, m_namesSeven_80, m_namesSeven_90, m_namesSeven_86, m_namesSeven_91, ha]
  ·
    by_cases hb : b = 7
    · simp (decide := true) [m_namesSeven, m_namesSeven_17, m_namesSeven_16, m_namesSeven_29, m_namesSeven_47, m_namesSeven_57, m_namesSeven_58, m_namesSeven_80, m_namesSeven_90, m_namesSeven_86, m_namesSeven_91, ha, hb]
    ·
      have z : c = 7 := by simpa [ha, hb] using h
      simp (decide := true) [m_namesSeven, m_namesSeven_17, m_namesSeven_16, m_namesSeven_29, m_namesSeven_47, m_namesSeven_57, m_namesSeven_58, m_namesSeven_80, m_namesSeven_90, m_namesSeven_86, m_namesSeven_91, z, ha, hb]
theorem ku_1 {σ : St} {w : Int32} (ho : (w >>> ((12 : Int32) &&& 31)) = 1) (ha : ¬ ((w >>> ((9 : Int32) &&& 31)) &&& 7) = 7) (hb : ¬ ((w >>> ((6 : Int32) &&& 31)) &&& 7) = 7) (hc : ¬ ((w >>> ((3 : Int32) &&& 31)) &&& 7) = 7) : k_isUnknown σ w = (σ, 0) := by
  have ho2 : (w >>> ((12 : Int32) &&& 31)) &&& 15 = 1 := by rw [ho]; decide
  simp (decide := true) [k_isUnknown, k_isUnknown_38, k_isUnknown_36, k_isUnknown_62, k_isUnknown_80, k_isUnknown_97, k_isUnknown_101, k_isUnknown_102, ho2, named_1, ha, hb, hc]
theorem kb_1 {σ : St} {w : Int32} (ho : (w >>> ((12 : Int32) &&& 31)) = 1) (h : ((w >>> ((9 : Int32) &&& 31)) &&& 7) = 7 ∨ ((w >>> ((6 : Int32) &&& 31)) &&& 7) = 7 ∨ ((w >>> ((3 : Int32) &&& 31)) &&& 7) = 7) : k_isUnknown σ w = (σ, 1) := by
  have ho2 : (w >>> ((12 : Int32) &&& 31)) &&& 15 = 1 := by rw [ho]; decide
  by_cases ha : ((w >>> ((9 : Int32) &&& 31)) &&& 7) = 7
  · by_cases h0 : σ 6 5 = 0
    · simp (decide := true) [k_isUnknown, k_isUnknown_38, k_isUnknown_36, k_isUnknown_62, k_isUnknown_80, k_isUnknown_97, k_isUnknown_101, k_isUnknown_102, ho2, named_1, h0, ha]
    · simp (decide := true) [k_isUnknown, k_isUnknown_38, k_isUnknown_36, k_isUnknown_62, k_isUnknown_80, k_isUnknown_97, k_isUnknown_101, k_isUnknown_102, ho2, named_1, h0, ha]
  ·
    by_cases hb : ((w >>> ((6 : Int32) &&& 31)) &&& 7) = 7
    · by_cases h0 : σ 6 5 = 0
      · simp (decide := true) [k_isUnknown, k_isUnknown_38, k_isUnknown_36, k_isUnknown_62, k_isUnknown_80, k_isUnknown_97, k_isUnknown_101, k_isUnknown_102, ho2, named_1, h0, hb, ha]
      · simp (decide := true) [k_isUnknown, k_isUnknown_38, k_isUnknown_36, k_isUnknown_62, k_isUnknown_80, k_isUnknown_97, k_isUnknown_101, k_isUnknown_102, ho2, named_1, h0, hb, ha]
    ·
      have z : ((w >>> ((3 : Int32) &&& 31)) &&& 7) = 7 := (h.resolve_left ha).resolve_left hb
      by_cases h0 : σ 6 5 = 0
      · simp (decide := true) [k_isUnknown, k_isUnknown_38, k_isUnknown_36, k_isUnknown_62, k_isUnknown_80, k_isUnknown_97, k_isUnknown_101, k_isUnknown_102, ho2, named_1, h0, z, ha, hb]
      · simp (decide := true) [k_isUnknown, k_isUnknown_38, k_isUnknown_36, k_isUnknown_62, k_isUnknown_80, k_isUnknown_97, k_isUnknown_101, k_isUnknown_102, ho2, named_1, h0, z, ha, hb]
theorem mp_1 (τ : St) {w : Int32} (ho : (w >>> ((12 : Int32) &&& 31)) = 1) : m_perform τ w = m_perform_68 τ w 1 ((w >>> ((9 : Int32) &&& 31)) &&& 7) ((w >>> ((6 : Int32) &&& 31)) &&& 7) ((w >>> ((3 : Int32) &&& 31)) &&& 7) (((τ 5 (ix 7)) + 1) &&& 255) 0 := by
  unfold m_perform m_perform_63
  rw [ho]
  rfl
theorem mb_1 {τ : St} {w n y : Int32} (h : ((w >>> ((9 : Int32) &&& 31)) &&& 7) = 7 ∨ ((w >>> ((6 : Int32) &&& 31)) &&& 7) = 7 ∨ ((w >>> ((3 : Int32) &&& 31)) &&& 7) = 7) : m_perform_68 τ w 1 ((w >>> ((9 : Int32) &&& 31)) &&& 7) ((w >>> ((6 : Int32) &&& 31)) &&& 7) ((w >>> ((3 : Int32) &&& 31)) &&& 7) n y = m_perform_94 τ := by
  unfold m_perform_68
  simp only [bd2, nb_1 h]
  rw [if_neg (by decide)]
theorem mg_1 {σ : St} {w n : Int32} (ha : ¬ ((w >>> ((9 : Int32) &&& 31)) &&& 7) = 7) (hb : ¬ ((w >>> ((6 : Int32) &&& 31)) &&& 7) = 7) (hc : ¬ ((w >>> ((3 : Int32) &&& 31)) &&& 7) = 7) : m_perform_68 (vK σ) w 1 ((w >>> ((9 : Int32) &&& 31)) &&& 7) ((w >>> ((6 : Int32) &&& 31)) &&& 7) ((w >>> ((3 : Int32) &&& 31)) &&& 7) n 0 = m_perform_100 (vK σ) w 1 ((w >>> ((9 : Int32) &&& 31)) &&& 7) ((w >>> ((6 : Int32) &&& 31)) &&& 7) ((w >>> ((3 : Int32) &&& 31)) &&& 7) n := by
  unfold m_perform_68
  simp only [bd2, ns_1 ha hb hc]
  first | rw [if_pos trivial, if_pos trivial] | rw [if_pos rfl, if_pos rfl]
theorem named_2 : named (ix 2) = 7 := by decide
theorem ns_2 {τ : St} {a b c : Int32} (ha : ¬ a = 7) (hb : ¬ b = 7) (hc : ¬ c = 7) : m_namesSeven τ 2 a b c = (τ, 0) := by
  simp (decide := true) [m_namesSeven, m_namesSeven_17, m_namesSeven_16, m_namesSeven_29, m_namesSeven_47, m_namesSeven_57, m_namesSeven_58, m_namesSeven_80, m_namesSeven_90, m_namesSeven_86, m_namesSeven_91, ha, hb, hc]
theorem nb_2 {τ : St} {a b c : Int32} (h : a = 7 ∨ b = 7 ∨ c = 7) : m_namesSeven τ 2 a b c = (τ, 1) := by
  by_cases ha : a = 7
  · simp (decide := true) [m_namesSeven, m_namesSeven_17, m_namesSeven_16, m_namesSeven_29, m_namesSeven_47, m_namesSeven_57, m_namesSeven_58, m_namesSeven_80, m_namesSeven_90, m_namesSeven_86, m_namesSeven_91, ha]
  ·
    by_cases hb : b = 7
    · simp (decide := true) [m_namesSeven, m_namesSeven_17, m_namesSeven_16, m_namesSeven_29, m_namesSeven_47, m_namesSeven_57, m_namesSeven_58, m_namesSeven_80, m_namesSeven_90, m_namesSeven_86, m_namesSeven_91, ha, hb]
    ·
      have z : c = 7 := by simpa [ha, hb] using h
      simp (decide := true) [m_namesSeven, m_namesSeven_17, m_namesSeven_16, m_namesSeven_29, m_namesSeven_47, m_namesSeven_57, m_namesSeven_58, m_namesSeven_80, m_namesSeven_90, m_namesSeven_86, m_namesSeven_91, z, ha, hb]
theorem ku_2 {σ : St} {w : Int32} (ho : (w >>> ((12 : Int32) &&& 31)) = 2) (ha : ¬ ((w >>> ((9 : Int32) &&& 31)) &&& 7) = 7) (hb : ¬ ((w >>> ((6 : Int32) &&& 31)) &&& 7) = 7) (hc : ¬ ((w >>> ((3 : Int32) &&& 31)) &&& 7) = 7) : k_isUnknown σ w = (σ, 0) := by
  have ho2 : (w >>> ((12 : Int32) &&& 31)) &&& 15 = 2 := by rw [ho]; decide
  simp (decide := true) [k_isUnknown, k_isUnknown_38, k_isUnknown_36, k_isUnknown_62, k_isUnknown_80, k_isUnknown_97, k_isUnknown_101, k_isUnknown_102, ho2, named_2, ha, hb, hc]
theorem kb_2 {σ : St} {w : Int32} (ho : (w >>> ((12 : Int32) &&& 31)) = 2) (h : ((w >>> ((9 : Int32) &&& 31)) &&& 7) = 7 ∨ ((w >>> ((6 : Int32) &&& 31)) &&& 7) = 7 ∨ ((w >>> ((3 : Int32) &&& 31)) &&& 7) = 7) : k_isUnknown σ w = (σ, 1) := by
  have ho2 : (w >>> ((12 : Int32) &&& 31)) &&& 15 = 2 := by rw [ho]; decide
  by_cases ha : ((w >>> ((9 : Int32) &&& 31)) &&& 7) = 7
  · by_cases h0 : σ 6 5 = 0
    · simp (decide := true) [k_isUnknown, k_isUnknown_38, k_isUnknown_36, k_isUnknown_62, k_isUnknown_80, k_isUnknown_97, k_isUnknown_101, k_isUnknown_102, ho2, named_2, h0, ha]
    · simp (decide := true) [k_isUnknown, k_isUnknown_38, k_isUnknown_36, k_isUnknown_62, k_isUnknown_80, k_isUnknown_97, k_isUnknown_101, k_isUnknown_102, ho2, named_2, h0, ha]
  ·
    by_cases hb : ((w >>> ((6 : Int32) &&& 31)) &&& 7) = 7
    · by_cases h0 : σ 6 5 = 0
      · simp (decide := true) [k_isUnknown, k_isUnknown_38, k_isUnknown_36, k_isUnknown_62, k_isUnknown_80, k_isUnknown_97, k_isUnknown_101, k_isUnknown_102, ho2, named_2, h0, hb, ha]
      · simp (decide := true) [k_isUnknown, k_isUnknown_38, k_isUnknown_36, k_isUnknown_62, k_isUnknown_80, k_isUnknown_97, k_isUnknown_101, k_isUnknown_102, ho2, named_2, h0, hb, ha]
    ·
      have z : ((w >>> ((3 : Int32) &&& 31)) &&& 7) = 7 := (h.resolve_left ha).resolve_left hb
      by_cases h0 : σ 6 5 = 0
      · simp (decide := true) [k_isUnknown, k_isUnknown_38, k_isUnknown_36, k_isUnknown_62, k_isUnknown_80, k_isUnknown_97, k_isUnknown_101, k_isUnknown_102, ho2, named_2, h0, z, ha, hb]
      · simp (decide := true) [k_isUnknown, k_isUnknown_38, k_isUnknown_36, k_isUnknown_62, k_isUnknown_80, k_isUnknown_97, k_isUnknown_101, k_isUnknown_102, ho2, named_2, h0, z, ha, hb]
theorem mp_2 (τ : St) {w : Int32} (ho : (w >>> ((12 : Int32) &&& 31)) = 2) : m_perform τ w = m_perform_68 τ w 2 ((w >>> ((9 : Int32) &&& 31)) &&& 7) ((w >>> ((6 : Int32) &&& 31)) &&& 7) ((w >>> ((3 : Int32) &&& 31)) &&& 7) (((τ 5 (ix 7)) + 1) &&& 255) 0 := by
  unfold m_perform m_perform_63
  rw [ho]
  rfl
theorem mb_2 {τ : St} {w n y : Int32} (h : ((w >>> ((9 : Int32) &&& 31)) &&& 7) = 7 ∨ ((w >>> ((6 : Int32) &&& 31)) &&& 7) = 7 ∨ ((w >>> ((3 : Int32) &&& 31)) &&& 7) = 7) : m_perform_68 τ w 2 ((w >>> ((9 : Int32) &&& 31)) &&& 7) ((w >>> ((6 : Int32) &&& 31)) &&& 7) ((w >>> ((3 : Int32) &&& 31)) &&& 7) n y = m_perform_94 τ := by
  unfold m_perform_68
  simp only [bd2, nb_2 h]
  rw [if_neg (by decide)]
theorem mg_2 {σ : St} {w n : Int32} (ha : ¬ ((w >>> ((9 : Int32) &&& 31)) &&& 7) = 7) (hb : ¬ ((w >>> ((6 : Int32) &&& 31)) &&& 7) = 7) (hc : ¬ ((w >>> ((3 : Int32) &&& 31)) &&& 7) = 7) : m_perform_68 (vK σ) w 2 ((w >>> ((9 : Int32) &&& 31)) &&& 7) ((w >>> ((6 : Int32) &&& 31)) &&& 7) ((w >>> ((3 : Int32) &&& 31)) &&& 7) n 0 = m_perform_100 (vK σ) w 2 ((w >>> ((9 : Int32) &&& 31)) &&& 7) ((w >>> ((6 : Int32) &&& 31)) &&& 7) ((w >>> ((3 : Int32) &&& 31)) &&& 7) n := by
  unfold m_perform_68
  simp only [bd2, ns_2 ha hb hc]
  first | rw [if_pos trivial, if_pos trivial] | rw [if_pos rfl, if_pos rfl]
theorem named_3 : named (ix 3) = 3 := by decide
theorem ns_3 {τ : St} {a b c : Int32} (ha : ¬ a = 7) (hb : ¬ b = 7) : m_namesSeven τ 3 a b c = (τ, 0) := by
  simp (decide := true) [m_namesSeven, m_namesSeven_17, m_namesSeven_16, m_namesSeven_29, m_namesSeven_47, m_namesSeven_57, m_namesSeven_58, m_namesSeven_80, m_namesSeven_90, m_namesSeven_86, m_namesSeven_91, ha, hb]
theorem nb_3 {τ : St} {a b c : Int32} (h : a = 7 ∨ b = 7) : m_namesSeven τ 3 a b c = (τ, 1) := by
  by_cases ha : a = 7
  · simp (decide := true) [m_namesSeven, m_namesSeven_17, m_namesSeven_16, m_namesSeven_29, m_namesSeven_47, m_namesSeven_57, m_namesSeven_58, m_namesSeven_80, m_namesSeven_90, m_namesSeven_86, m_namesSeven_91, ha]
  ·
    have z : b = 7 := by simpa [ha] using h
    simp (decide := true) [m_namesSeven, m_namesSeven_17, m_namesSeven_16, m_namesSeven_29, m_namesSeven_47, m_namesSeven_57, m_namesSeven_58, m_namesSeven_80, m_namesSeven_90, m_namesSeven_86, m_namesSeven_91, z, ha]
theorem ku_3 {σ : St} {w : Int32} (ho : (w >>> ((12 : Int32) &&& 31)) = 3) (ha : ¬ ((w >>> ((9 : Int32) &&& 31)) &&& 7) = 7) (hb : ¬ ((w >>> ((6 : Int32) &&& 31)) &&& 7) = 7) : k_isUnknown σ w = (σ, 0) := by
  have ho2 : (w >>> ((12 : Int32) &&& 31)) &&& 15 = 3 := by rw [ho]; decide
  simp (decide := true) [k_isUnknown, k_isUnknown_38, k_isUnknown_36, k_isUnknown_62, k_isUnknown_80, k_isUnknown_97, k_isUnknown_101, k_isUnknown_102, ho2, named_3, ha, hb]
theorem kb_3 {σ : St} {w : Int32} (ho : (w >>> ((12 : Int32) &&& 31)) = 3) (h : ((w >>> ((9 : Int32) &&& 31)) &&& 7) = 7 ∨ ((w >>> ((6 : Int32) &&& 31)) &&& 7) = 7) : k_isUnknown σ w = (σ, 1) := by
  have ho2 : (w >>> ((12 : Int32) &&& 31)) &&& 15 = 3 := by rw [ho]; decide
  by_cases ha : ((w >>> ((9 : Int32) &&& 31)) &&& 7) = 7
  · by_cases h0 : σ 6 5 = 0
    · simp (decide := true) [k_isUnknown, k_isUnknown_38, k_isUnknown_36, k_isUnknown_62, k_isUnknown_80, k_isUnknown_97, k_isUnknown_101, k_isUnknown_102, ho2, named_3, h0, ha]
    · simp (decide := true) [k_isUnknown, k_isUnknown_38, k_isUnknown_36, k_isUnknown_62, k_isUnknown_80, k_isUnknown_97, k_isUnknown_101, k_isUnknown_102, ho2, named_3, h0, ha]
  ·
    have z : ((w >>> ((6 : Int32) &&& 31)) &&& 7) = 7 := h.resolve_left ha
    by_cases h0 : σ 6 5 = 0
    · simp (decide := true) [k_isUnknown, k_isUnknown_38, k_isUnknown_36, k_isUnknown_62, k_isUnknown_80, k_isUnknown_97, k_isUnknown_101, k_isUnknown_102, ho2, named_3, h0, z, ha]
    · simp (decide := true) [k_isUnknown, k_isUnknown_38, k_isUnknown_36, k_isUnknown_62, k_isUnknown_80, k_isUnknown_97, k_isUnknown_101, k_isUnknown_102, ho2, named_3, h0, z, ha]
theorem mp_3 (τ : St) {w : Int32} (ho : (w >>> ((12 : Int32) &&& 31)) = 3) : m_perform τ w = m_perform_68 τ w 3 ((w >>> ((9 : Int32) &&& 31)) &&& 7) ((w >>> ((6 : Int32) &&& 31)) &&& 7) ((w >>> ((3 : Int32) &&& 31)) &&& 7) (((τ 5 (ix 7)) + 1) &&& 255) 0 := by
  unfold m_perform m_perform_63
  rw [ho]
  rfl
theorem mb_3 {τ : St} {w n y : Int32} (h : ((w >>> ((9 : Int32) &&& 31)) &&& 7) = 7 ∨ ((w >>> ((6 : Int32) &&& 31)) &&& 7) = 7) : m_perform_68 τ w 3 ((w >>> ((9 : Int32) &&& 31)) &&& 7) ((w >>> ((6 : Int32) &&& 31)) &&& 7) ((w >>> ((3 : Int32) &&& 31)) &&& 7) n y = m_perform_94 τ := by
  unfold m_perform_68
  simp only [bd2, nb_3 h]
  rw [if_neg (by decide)]
theorem mg_3 {σ : St} {w n : Int32} (ha : ¬ ((w >>> ((9 : Int32) &&& 31)) &&& 7) = 7) (hb : ¬ ((w >>> ((6 : Int32) &&& 31)) &&& 7) = 7) : m_perform_68 (vK σ) w 3 ((w >>> ((9 : Int32) &&& 31)) &&& 7) ((w >>> ((6 : Int32) &&& 31)) &&& 7) ((w >>> ((3 : Int32) &&& 31)) &&& 7) n 0 = m_perform_100 (vK σ) w 3 ((w >>> ((9 : Int32) &&& 31)) &&& 7) ((w >>> ((6 : Int32) &&& 31)) &&& 7) ((w >>> ((3 : Int32) &&& 31)) &&& 7) n := by
  unfold m_perform_68
  simp only [bd2, ns_3 ha hb]
  first | rw [if_pos trivial, if_pos trivial] | rw [if_pos rfl, if_pos rfl]
theorem named_4 : named (ix 4) = 3 := by decide
theorem ns_4 {τ : St} {a b c : Int32} (ha : ¬ a = 7) (hb : ¬ b = 7) : m_namesSeven τ 4 a b c = (τ, 0) := by
  simp (decide := true) [m_namesSeven, m_namesSeven_17, m_namesSeven_16, m_namesSeven_29, m_namesSeven_47, m_namesSeven_57, m_namesSeven_58, m_namesSeven_80, m_namesSeven_90, m_namesSeven_86, m_namesSeven_91, ha, hb]
theorem nb_4 {τ : St} {a b c : Int32} (h : a = 7 ∨ b = 7) : m_namesSeven τ 4 a b c = (τ, 1) := by
  by_cases ha : a = 7
  · simp (decide := true) [m_namesSeven, m_namesSeven_17, m_namesSeven_16, m_namesSeven_29, m_namesSeven_47, m_namesSeven_57, m_namesSeven_58, m_namesSeven_80, m_namesSeven_90, m_namesSeven_86, m_namesSeven_91, ha]
  ·
    have z : b = 7 := by simpa [ha] using h
    simp (decide := true) [m_namesSeven, m_namesSeven_17, m_namesSeven_16, m_namesSeven_29, m_namesSeven_47, m_namesSeven_57, m_namesSeven_58, m_namesSeven_80, m_namesSeven_90, m_namesSeven_86, m_namesSeven_91, z, ha]
theorem ku_4 {σ : St} {w : Int32} (ho : (w >>> ((12 : Int32) &&& 31)) = 4) (ha : ¬ ((w >>> ((9 : Int32) &&& 31)) &&& 7) = 7) (hb : ¬ ((w >>> ((6 : Int32) &&& 31)) &&& 7) = 7) : k_isUnknown σ w = (σ, 0) := by
  have ho2 : (w >>> ((12 : Int32) &&& 31)) &&& 15 = 4 := by rw [ho]; decide
  simp (decide := true) [k_isUnknown, k_isUnknown_38, k_isUnknown_36, k_isUnknown_62, k_isUnknown_80, k_isUnknown_97, k_isUnknown_101, k_isUnknown_102, ho2, named_4, ha, hb]
theorem kb_4 {σ : St} {w : Int32} (ho : (w >>> ((12 : Int32) &&& 31)) = 4) (h : ((w >>> ((9 : Int32) &&& 31)) &&& 7) = 7 ∨ ((w >>> ((6 : Int32) &&& 31)) &&& 7) = 7) : k_isUnknown σ w = (σ, 1) := by
  have ho2 : (w >>> ((12 : Int32) &&& 31)) &&& 15 = 4 := by rw [ho]; decide
  by_cases ha : ((w >>> ((9 : Int32) &&& 31)) &&& 7) = 7
  · by_cases h0 : σ 6 5 = 0
    · simp (decide := true) [k_isUnknown, k_isUnknown_38, k_isUnknown_36, k_isUnknown_62, k_isUnknown_80, k_isUnknown_97, k_isUnknown_101, k_isUnknown_102, ho2, named_4, h0, ha]
    · simp (decide := true) [k_isUnknown, k_isUnknown_38, k_isUnknown_36, k_isUnknown_62, k_isUnknown_80, k_isUnknown_97, k_isUnknown_101, k_isUnknown_102, ho2, named_4, h0, ha]
  ·
    have z : ((w >>> ((6 : Int32) &&& 31)) &&& 7) = 7 := h.resolve_left ha
    by_cases h0 : σ 6 5 = 0
    · simp (decide := true) [k_isUnknown, k_isUnknown_38, k_isUnknown_36, k_isUnknown_62, k_isUnknown_80, k_isUnknown_97, k_isUnknown_101, k_isUnknown_102, ho2, named_4, h0, z, ha]
    · simp (decide := true) [k_isUnknown, k_isUnknown_38, k_isUnknown_36, k_isUnknown_62, k_isUnknown_80, k_isUnknown_97, k_isUnknown_101, k_isUnknown_102, ho2, named_4, h0, z, ha]
theorem mp_4 (τ : St) {w : Int32} (ho : (w >>> ((12 : Int32) &&& 31)) = 4) : m_perform τ w = m_perform_68 τ w 4 ((w >>> ((9 : Int32) &&& 31)) &&& 7) ((w >>> ((6 : Int32) &&& 31)) &&& 7) ((w >>> ((3 : Int32) &&& 31)) &&& 7) (((τ 5 (ix 7)) + 1) &&& 255) 0 := by
  unfold m_perform m_perform_63
  rw [ho]
  rfl
theorem mb_4 {τ : St} {w n y : Int32} (h : ((w >>> ((9 : Int32) &&& 31)) &&& 7) = 7 ∨ ((w >>> ((6 : Int32) &&& 31)) &&& 7) = 7) : m_perform_68 τ w 4 ((w >>> ((9 : Int32) &&& 31)) &&& 7) ((w >>> ((6 : Int32) &&& 31)) &&& 7) ((w >>> ((3 : Int32) &&& 31)) &&& 7) n y = m_perform_94 τ := by
  unfold m_perform_68
  simp only [bd2, nb_4 h]
  rw [if_neg (by decide)]
theorem mg_4 {σ : St} {w n : Int32} (ha : ¬ ((w >>> ((9 : Int32) &&& 31)) &&& 7) = 7) (hb : ¬ ((w >>> ((6 : Int32) &&& 31)) &&& 7) = 7) : m_perform_68 (vK σ) w 4 ((w >>> ((9 : Int32) &&& 31)) &&& 7) ((w >>> ((6 : Int32) &&& 31)) &&& 7) ((w >>> ((3 : Int32) &&& 31)) &&& 7) n 0 = m_perform_100 (vK σ) w 4 ((w >>> ((9 : Int32) &&& 31)) &&& 7) ((w >>> ((6 : Int32) &&& 31)) &&& 7) ((w >>> ((3 : Int32) &&& 31)) &&& 7) n := by
  unfold m_perform_68
  simp only [bd2, ns_4 ha hb]
  first | rw [if_pos trivial, if_pos trivial] | rw [if_pos rfl, if_pos rfl]
theorem named_5 : named (ix 5) = 1 := by decide
theorem ns_5 {τ : St} {a b c : Int32} (ha : ¬ a = 7) : m_namesSeven τ 5 a b c = (τ, 0) := by
  simp (decide := true) [m_namesSeven, m_namesSeven_17, m_namesSeven_16, m_namesSeven_29, m_namesSeven_47, m_namesSeven_57, m_namesSeven_58, m_namesSeven_80, m_namesSeven_90, m_namesSeven_86, m_namesSeven_91, ha]
theorem nb_5 {τ : St} {a b c : Int32} (h : a = 7) : m_namesSeven τ 5 a b c = (τ, 1) := by
  simp (decide := true) [m_namesSeven, m_namesSeven_17, m_namesSeven_16, m_namesSeven_29, m_namesSeven_47, m_namesSeven_57, m_namesSeven_58, m_namesSeven_80, m_namesSeven_90, m_namesSeven_86, m_namesSeven_91, h]
theorem ku_5 {σ : St} {w : Int32} (ho : (w >>> ((12 : Int32) &&& 31)) = 5) (ha : ¬ ((w >>> ((9 : Int32) &&& 31)) &&& 7) = 7) : k_isUnknown σ w = (σ, 0) := by
  have ho2 : (w >>> ((12 : Int32) &&& 31)) &&& 15 = 5 := by rw [ho]; decide
  simp (decide := true) [k_isUnknown, k_isUnknown_38, k_isUnknown_36, k_isUnknown_62, k_isUnknown_80, k_isUnknown_97, k_isUnknown_101, k_isUnknown_102, ho2, named_5, ha]
theorem kb_5 {σ : St} {w : Int32} (ho : (w >>> ((12 : Int32) &&& 31)) = 5) (h : ((w >>> ((9 : Int32) &&& 31)) &&& 7) = 7) : k_isUnknown σ w = (σ, 1) := by
  have ho2 : (w >>> ((12 : Int32) &&& 31)) &&& 15 = 5 := by rw [ho]; decide
  have z : ((w >>> ((9 : Int32) &&& 31)) &&& 7) = 7 := h
  by_cases h0 : σ 6 5 = 0
  · simp (decide := true) [k_isUnknown, k_isUnknown_38, k_isUnknown_36, k_isUnknown_62, k_isUnknown_80, k_isUnknown_97, k_isUnknown_101, k_isUnknown_102, ho2, named_5, h0, z]
  · simp (decide := true) [k_isUnknown, k_isUnknown_38, k_isUnknown_36, k_isUnknown_62, k_isUnknown_80, k_isUnknown_97, k_isUnknown_101, k_isUnknown_102, ho2, named_5, h0, z]
theorem mp_5 (τ : St) {w : Int32} (ho : (w >>> ((12 : Int32) &&& 31)) = 5) : m_perform τ w = m_perform_68 τ w 5 ((w >>> ((9 : Int32) &&& 31)) &&& 7) ((w >>> ((6 : Int32) &&& 31)) &&& 7) ((w >>> ((3 : Int32) &&& 31)) &&& 7) (((τ 5 (ix 7)) + 1) &&& 255) 0 := by
  unfold m_perform m_perform_63
  rw [ho]
  rfl
theorem mb_5 {τ : St} {w n y : Int32} (h : ((w >>> ((9 : Int32) &&& 31)) &&& 7) = 7) : m_perform_68 τ w 5 ((w >>> ((9 : Int32) &&& 31)) &&& 7) ((w >>> ((6 : Int32) &&& 31)) &&& 7) ((w >>> ((3 : Int32) &&& 31)) &&& 7) n y = m_perform_94 τ := by
  unfold m_perform_68
  simp only [bd2, nb_5 h]
  rw [if_neg (by decide)]
theorem mg_5 {σ : St} {w n : Int32} (ha : ¬ ((w >>> ((9 : Int32) &&& 31)) &&& 7) = 7) : m_perform_68 (vK σ) w 5 ((w >>> ((9 : Int32) &&& 31)) &&& 7) ((w >>> ((6 : Int32) &&& 31)) &&& 7) ((w >>> ((3 : Int32) &&& 31)) &&& 7) n 0 = m_perform_100 (vK σ) w 5 ((w >>> ((9 : Int32) &&& 31)) &&& 7) ((w >>> ((6 : Int32) &&& 31)) &&& 7) ((w >>> ((3 : Int32) &&& 31)) &&& 7) n := by
  unfold m_perform_68
  simp only [bd2, ns_5 ha]
  first | rw [if_pos trivial, if_pos trivial] | rw [if_pos rfl, if_pos rfl]
theorem named_6 : named (ix 6) = 1 := by decide
theorem ns_6 {τ : St} {a b c : Int32} (ha : ¬ a = 7) : m_namesSeven τ 6 a b c = (τ, 0) := by
  simp (decide := true) [m_namesSeven, m_namesSeven_17, m_namesSeven_16, m_namesSeven_29, m_namesSeven_47, m_namesSeven_57, m_namesSeven_58, m_namesSeven_80, m_namesSeven_90, m_namesSeven_86, m_namesSeven_91, ha]
theorem nb_6 {τ : St} {a b c : Int32} (h : a = 7) : m_namesSeven τ 6 a b c = (τ, 1) := by
  simp (decide := true) [m_namesSeven, m_namesSeven_17, m_namesSeven_16, m_namesSeven_29, m_namesSeven_47, m_namesSeven_57, m_namesSeven_58, m_namesSeven_80, m_namesSeven_90, m_namesSeven_86, m_namesSeven_91, h]
theorem ku_6 {σ : St} {w : Int32} (ho : (w >>> ((12 : Int32) &&& 31)) = 6) (ha : ¬ ((w >>> ((9 : Int32) &&& 31)) &&& 7) = 7) : k_isUnknown σ w = (σ, 0) := by
  have ho2 : (w >>> ((12 : Int32) &&& 31)) &&& 15 = 6 := by rw [ho]; decide
  simp (decide := true) [k_isUnknown, k_isUnknown_38, k_isUnknown_36, k_isUnknown_62, k_isUnknown_80, k_isUnknown_97, k_isUnknown_101, k_isUnknown_102, ho2, named_6, ha]
theorem kb_6 {σ : St} {w : Int32} (ho : (w >>> ((12 : Int32) &&& 31)) = 6) (h : ((w >>> ((9 : Int32) &&& 31)) &&& 7) = 7) : k_isUnknown σ w = (σ, 1) := by
  have ho2 : (w >>> ((12 : Int32) &&& 31)) &&& 15 = 6 := by rw [ho]; decide
  have z : ((w >>> ((9 : Int32) &&& 31)) &&& 7) = 7 := h
  by_cases h0 : σ 6 5 = 0
  · simp (decide := true) [k_isUnknown, k_isUnknown_38, k_isUnknown_36, k_isUnknown_62, k_isUnknown_80, k_isUnknown_97, k_isUnknown_101, k_isUnknown_102, ho2, named_6, h0, z]
  · simp (decide := true) [k_isUnknown, k_isUnknown_38, k_isUnknown_36, k_isUnknown_62, k_isUnknown_80, k_isUnknown_97, k_isUnknown_101, k_isUnknown_102, ho2, named_6, h0, z]
theorem mp_6 (τ : St) {w : Int32} (ho : (w >>> ((12 : Int32) &&& 31)) = 6) : m_perform τ w = m_perform_68 τ w 6 ((w >>> ((9 : Int32) &&& 31)) &&& 7) ((w >>> ((6 : Int32) &&& 31)) &&& 7) ((w >>> ((3 : Int32) &&& 31)) &&& 7) (((τ 5 (ix 7)) + 1) &&& 255) 0 := by
  unfold m_perform m_perform_63
  rw [ho]
  rfl
theorem mb_6 {τ : St} {w n y : Int32} (h : ((w >>> ((9 : Int32) &&& 31)) &&& 7) = 7) : m_perform_68 τ w 6 ((w >>> ((9 : Int32) &&& 31)) &&& 7) ((w >>> ((6 : Int32) &&& 31)) &&& 7) ((w >>> ((3 : Int32) &&& 31)) &&& 7) n y = m_perform_94 τ := by
  unfold m_perform_68
  simp only [bd2, nb_6 h]
  rw [if_neg (by decide)]
theorem mg_6 {σ : St} {w n : Int32} (ha : ¬ ((w >>> ((9 : Int32) &&& 31)) &&& 7) = 7) : m_perform_68 (vK σ) w 6 ((w >>> ((9 : Int32) &&& 31)) &&& 7) ((w >>> ((6 : Int32) &&& 31)) &&& 7) ((w >>> ((3 : Int32) &&& 31)) &&& 7) n 0 = m_perform_100 (vK σ) w 6 ((w >>> ((9 : Int32) &&& 31)) &&& 7) ((w >>> ((6 : Int32) &&& 31)) &&& 7) ((w >>> ((3 : Int32) &&& 31)) &&& 7) n := by
  unfold m_perform_68
  simp only [bd2, ns_6 ha]
  first | rw [if_pos trivial, if_pos trivial] | rw [if_pos rfl, if_pos rfl]
theorem named_7 : named (ix 7) = 0 := by decide
theorem ns_7 {τ : St} {a b c : Int32} : m_namesSeven τ 7 a b c = (τ, 0) := by
  simp (decide := true) [m_namesSeven, m_namesSeven_17, m_namesSeven_16, m_namesSeven_29, m_namesSeven_47, m_namesSeven_57, m_namesSeven_58, m_namesSeven_80, m_namesSeven_90, m_namesSeven_86, m_namesSeven_91]
theorem ku_7 {σ : St} {w : Int32} (ho : (w >>> ((12 : Int32) &&& 31)) = 7) : k_isUnknown σ w = (σ, 0) := by
  have ho2 : (w >>> ((12 : Int32) &&& 31)) &&& 15 = 7 := by rw [ho]; decide
  simp (decide := true) [k_isUnknown, k_isUnknown_38, k_isUnknown_36, k_isUnknown_62, k_isUnknown_80, k_isUnknown_97, k_isUnknown_101, k_isUnknown_102, ho2, named_7]
theorem mp_7 (τ : St) {w : Int32} (ho : (w >>> ((12 : Int32) &&& 31)) = 7) : m_perform τ w = m_perform_68 τ w 7 ((w >>> ((9 : Int32) &&& 31)) &&& 7) ((w >>> ((6 : Int32) &&& 31)) &&& 7) ((w >>> ((3 : Int32) &&& 31)) &&& 7) (((τ 5 (ix 7)) + 1) &&& 255) 0 := by
  unfold m_perform m_perform_63
  rw [ho]
  rfl
theorem mg_7 {σ : St} {w n : Int32} : m_perform_68 (vK σ) w 7 ((w >>> ((9 : Int32) &&& 31)) &&& 7) ((w >>> ((6 : Int32) &&& 31)) &&& 7) ((w >>> ((3 : Int32) &&& 31)) &&& 7) n 0 = m_perform_100 (vK σ) w 7 ((w >>> ((9 : Int32) &&& 31)) &&& 7) ((w >>> ((6 : Int32) &&& 31)) &&& 7) ((w >>> ((3 : Int32) &&& 31)) &&& 7) n := by
  unfold m_perform_68
  simp only [bd2, ns_7]
  first | rw [if_pos trivial, if_pos trivial] | rw [if_pos rfl, if_pos rfl]
theorem named_8 : named (ix 8) = 0 := by decide
theorem ns_8 {τ : St} {a b c : Int32} : m_namesSeven τ 8 a b c = (τ, 0) := by
  simp (decide := true) [m_namesSeven, m_namesSeven_17, m_namesSeven_16, m_namesSeven_29, m_namesSeven_47, m_namesSeven_57, m_namesSeven_58, m_namesSeven_80, m_namesSeven_90, m_namesSeven_86, m_namesSeven_91]
theorem ku_8 {σ : St} {w : Int32} (ho : (w >>> ((12 : Int32) &&& 31)) = 8) : k_isUnknown σ w = (σ, 0) := by
  have ho2 : (w >>> ((12 : Int32) &&& 31)) &&& 15 = 8 := by rw [ho]; decide
  simp (decide := true) [k_isUnknown, k_isUnknown_38, k_isUnknown_36, k_isUnknown_62, k_isUnknown_80, k_isUnknown_97, k_isUnknown_101, k_isUnknown_102, ho2, named_8]
theorem mp_8 (τ : St) {w : Int32} (ho : (w >>> ((12 : Int32) &&& 31)) = 8) : m_perform τ w = m_perform_68 τ w 8 ((w >>> ((9 : Int32) &&& 31)) &&& 7) ((w >>> ((6 : Int32) &&& 31)) &&& 7) ((w >>> ((3 : Int32) &&& 31)) &&& 7) (((τ 5 (ix 7)) + 1) &&& 255) 0 := by
  unfold m_perform m_perform_63
  rw [ho]
  rfl
theorem mg_8 {σ : St} {w n : Int32} : m_perform_68 (vK σ) w 8 ((w >>> ((9 : Int32) &&& 31)) &&& 7) ((w >>> ((6 : Int32) &&& 31)) &&& 7) ((w >>> ((3 : Int32) &&& 31)) &&& 7) n 0 = m_perform_100 (vK σ) w 8 ((w >>> ((9 : Int32) &&& 31)) &&& 7) ((w >>> ((6 : Int32) &&& 31)) &&& 7) ((w >>> ((3 : Int32) &&& 31)) &&& 7) n := by
  unfold m_perform_68
  simp only [bd2, ns_8]
  first | rw [if_pos trivial, if_pos trivial] | rw [if_pos rfl, if_pos rfl]
theorem named_9 : named (ix 9) = 2 := by decide
theorem ns_9 {τ : St} {a b c : Int32} (hb : ¬ b = 7) : m_namesSeven τ 9 a b c = (τ, 0) := by
  simp (decide := true) [m_namesSeven, m_namesSeven_17, m_namesSeven_16, m_namesSeven_29, m_namesSeven_47, m_namesSeven_57, m_namesSeven_58, m_namesSeven_80, m_namesSeven_90, m_namesSeven_86, m_namesSeven_91, hb]
theorem nb_9 {τ : St} {a b c : Int32} (h : b = 7) : m_namesSeven τ 9 a b c = (τ, 1) := by
  simp (decide := true) [m_namesSeven, m_namesSeven_17, m_namesSeven_16, m_namesSeven_29, m_namesSeven_47, m_namesSeven_57, m_namesSeven_58, m_namesSeven_80, m_namesSeven_90, m_namesSeven_86, m_namesSeven_91, h]
theorem ku_9 {σ : St} {w : Int32} (ho : (w >>> ((12 : Int32) &&& 31)) = 9) (hb : ¬ ((w >>> ((6 : Int32) &&& 31)) &&& 7) = 7) : k_isUnknown σ w = (σ, 0) := by
  have ho2 : (w >>> ((12 : Int32) &&& 31)) &&& 15 = 9 := by rw [ho]; decide
  simp (decide := true) [k_isUnknown, k_isUnknown_38, k_isUnknown_36, k_isUnknown_62, k_isUnknown_80, k_isUnknown_97, k_isUnknown_101, k_isUnknown_102, ho2, named_9, hb]
theorem kb_9 {σ : St} {w : Int32} (ho : (w >>> ((12 : Int32) &&& 31)) = 9) (h : ((w >>> ((6 : Int32) &&& 31)) &&& 7) = 7) : k_isUnknown σ w = (σ, 1) := by
  have ho2 : (w >>> ((12 : Int32) &&& 31)) &&& 15 = 9 := by rw [ho]; decide
  have z : ((w >>> ((6 : Int32) &&& 31)) &&& 7) = 7 := h
  by_cases h0 : σ 6 5 = 0
  · simp (decide := true) [k_isUnknown, k_isUnknown_38, k_isUnknown_36, k_isUnknown_62, k_isUnknown_80, k_isUnknown_97, k_isUnknown_101, k_isUnknown_102, ho2, named_9, h0, z]
  · simp (decide := true) [k_isUnknown, k_isUnknown_38, k_isUnknown_36, k_isUnknown_62, k_isUnknown_80, k_isUnknown_97, k_isUnknown_101, k_isUnknown_102, ho2, named_9, h0, z]
theorem mp_9 (τ : St) {w : Int32} (ho : (w >>> ((12 : Int32) &&& 31)) = 9) : m_perform τ w = m_perform_68 τ w 9 ((w >>> ((9 : Int32) &&& 31)) &&& 7) ((w >>> ((6 : Int32) &&& 31)) &&& 7) ((w >>> ((3 : Int32) &&& 31)) &&& 7) (((τ 5 (ix 7)) + 1) &&& 255) 0 := by
  unfold m_perform m_perform_63
  rw [ho]
  rfl
theorem mb_9 {τ : St} {w n y : Int32} (h : ((w >>> ((6 : Int32) &&& 31)) &&& 7) = 7) : m_perform_68 τ w 9 ((w >>> ((9 : Int32) &&& 31)) &&& 7) ((w >>> ((6 : Int32) &&& 31)) &&& 7) ((w >>> ((3 : Int32) &&& 31)) &&& 7) n y = m_perform_94 τ := by
  unfold m_perform_68
  simp only [bd2, nb_9 h]
  rw [if_neg (by decide)]
theorem mg_9 {σ : St} {w n : Int32} (hb : ¬ ((w >>> ((6 : Int32) &&& 31)) &&& 7) = 7) : m_perform_68 (vK σ) w 9 ((w >>> ((9 : Int32) &&& 31)) &&& 7) ((w >>> ((6 : Int32) &&& 31)) &&& 7) ((w >>> ((3 : Int32) &&& 31)) &&& 7) n 0 = m_perform_100 (vK σ) w 9 ((w >>> ((9 : Int32) &&& 31)) &&& 7) ((w >>> ((6 : Int32) &&& 31)) &&& 7) ((w >>> ((3 : Int32) &&& 31)) &&& 7) n := by
  unfold m_perform_68
  simp only [bd2, ns_9 hb]
  first | rw [if_pos trivial, if_pos trivial] | rw [if_pos rfl, if_pos rfl]
theorem named_10 : named (ix 10) = 0 := by decide
theorem ns_10 {τ : St} {a b c : Int32} : m_namesSeven τ 10 a b c = (τ, 0) := by
  simp (decide := true) [m_namesSeven, m_namesSeven_17, m_namesSeven_16, m_namesSeven_29, m_namesSeven_47, m_namesSeven_57, m_namesSeven_58, m_namesSeven_80, m_namesSeven_90, m_namesSeven_86, m_namesSeven_91]
theorem ku_10 {σ : St} {w : Int32} (ho : (w >>> ((12 : Int32) &&& 31)) = 10) : k_isUnknown σ w = (σ, 0) := by
  have ho2 : (w >>> ((12 : Int32) &&& 31)) &&& 15 = 10 := by rw [ho]; decide
  simp (decide := true) [k_isUnknown, k_isUnknown_38, k_isUnknown_36, k_isUnknown_62, k_isUnknown_80, k_isUnknown_97, k_isUnknown_101, k_isUnknown_102, ho2, named_10]
theorem mp_10 (τ : St) {w : Int32} (ho : (w >>> ((12 : Int32) &&& 31)) = 10) : m_perform τ w = m_perform_68 τ w 10 ((w >>> ((9 : Int32) &&& 31)) &&& 7) ((w >>> ((6 : Int32) &&& 31)) &&& 7) ((w >>> ((3 : Int32) &&& 31)) &&& 7) (((τ 5 (ix 7)) + 1) &&& 255) 0 := by
  unfold m_perform m_perform_63
  rw [ho]
  rfl
theorem mg_10 {σ : St} {w n : Int32} : m_perform_68 (vK σ) w 10 ((w >>> ((9 : Int32) &&& 31)) &&& 7) ((w >>> ((6 : Int32) &&& 31)) &&& 7) ((w >>> ((3 : Int32) &&& 31)) &&& 7) n 0 = m_perform_100 (vK σ) w 10 ((w >>> ((9 : Int32) &&& 31)) &&& 7) ((w >>> ((6 : Int32) &&& 31)) &&& 7) ((w >>> ((3 : Int32) &&& 31)) &&& 7) n := by
  unfold m_perform_68
  simp only [bd2, ns_10]
  first | rw [if_pos trivial, if_pos trivial] | rw [if_pos rfl, if_pos rfl]
theorem named_11 : named (ix 11) = 2 := by decide
theorem ns_11 {τ : St} {a b c : Int32} (hb : ¬ b = 7) : m_namesSeven τ 11 a b c = (τ, 0) := by
  simp (decide := true) [m_namesSeven, m_namesSeven_17, m_namesSeven_16, m_namesSeven_29, m_namesSeven_47, m_namesSeven_57, m_namesSeven_58, m_namesSeven_80, m_namesSeven_90, m_namesSeven_86, m_namesSeven_91, hb]
theorem nb_11 {τ : St} {a b c : Int32} (h : b = 7) : m_namesSeven τ 11 a b c = (τ, 1) := by
  simp (decide := true) [m_namesSeven, m_namesSeven_17, m_namesSeven_16, m_namesSeven_29, m_namesSeven_47, m_namesSeven_57, m_namesSeven_58, m_namesSeven_80, m_namesSeven_90, m_namesSeven_86, m_namesSeven_91, h]
theorem ku_11 {σ : St} {w : Int32} (ho : (w >>> ((12 : Int32) &&& 31)) = 11) (h0 : σ 6 5 = 0) (hb : ¬ ((w >>> ((6 : Int32) &&& 31)) &&& 7) = 7) : k_isUnknown σ w = (σ, 0) := by
  have ho2 : (w >>> ((12 : Int32) &&& 31)) &&& 15 = 11 := by rw [ho]; decide
  simp (decide := true) [k_isUnknown, k_isUnknown_38, k_isUnknown_36, k_isUnknown_62, k_isUnknown_80, k_isUnknown_97, k_isUnknown_101, k_isUnknown_102, ho2, named_11, h0, hb]
theorem kw_11 {σ : St} {w : Int32} (ho : (w >>> ((12 : Int32) &&& 31)) = 11) (h0 : ¬ σ 6 5 = 0) : k_isUnknown σ w = (σ, 1) := by
  have ho2 : (w >>> ((12 : Int32) &&& 31)) &&& 15 = 11 := by rw [ho]; decide
  simp (decide := true) [k_isUnknown, k_isUnknown_38, k_isUnknown_36, k_isUnknown_62, k_isUnknown_80, k_isUnknown_97, k_isUnknown_101, k_isUnknown_102, ho2, h0]
theorem kb_11 {σ : St} {w : Int32} (ho : (w >>> ((12 : Int32) &&& 31)) = 11) (h : ((w >>> ((6 : Int32) &&& 31)) &&& 7) = 7) : k_isUnknown σ w = (σ, 1) := by
  have ho2 : (w >>> ((12 : Int32) &&& 31)) &&& 15 = 11 := by rw [ho]; decide
  have z : ((w >>> ((6 : Int32) &&& 31)) &&& 7) = 7 := h
  by_cases h0 : σ 6 5 = 0
  · simp (decide := true) [k_isUnknown, k_isUnknown_38, k_isUnknown_36, k_isUnknown_62, k_isUnknown_80, k_isUnknown_97, k_isUnknown_101, k_isUnknown_102, ho2, named_11, h0, z]
  · simp (decide := true) [k_isUnknown, k_isUnknown_38, k_isUnknown_36, k_isUnknown_62, k_isUnknown_80, k_isUnknown_97, k_isUnknown_101, k_isUnknown_102, ho2, named_11, h0, z]
theorem mp_11 (τ : St) {w : Int32} (ho : (w >>> ((12 : Int32) &&& 31)) = 11) : m_perform τ w = m_perform_68 τ w 11 ((w >>> ((9 : Int32) &&& 31)) &&& 7) ((w >>> ((6 : Int32) &&& 31)) &&& 7) ((w >>> ((3 : Int32) &&& 31)) &&& 7) (((τ 5 (ix 7)) + 1) &&& 255) 1 := by
  unfold m_perform m_perform_63
  rw [ho]
  rfl
theorem mo_11 {σ : St} {w n : Int32} (h0 : ¬ σ 6 5 = 0) (hz : zb (σ 6 5)) : m_perform_68 (vK σ) w 11 ((w >>> ((9 : Int32) &&& 31)) &&& 7) ((w >>> ((6 : Int32) &&& 31)) &&& 7) ((w >>> ((3 : Int32) &&& 31)) &&& 7) n 1 = m_perform_94 (vK σ) := by
  unfold m_perform_68
  by_cases hb : ((w >>> ((6 : Int32) &&& 31)) &&& 7) = 7
  · simp only [bd2, nb_11 hb]
    rw [if_neg (by decide)]
  · simp only [bd2, ns_11 hb, iow hz]
    first | rw [if_pos trivial] | rw [if_pos rfl]
    rw [if_neg (by decide), if_neg h0]
theorem mb_11 {τ : St} {w n y : Int32} (h : ((w >>> ((6 : Int32) &&& 31)) &&& 7) = 7) : m_perform_68 τ w 11 ((w >>> ((9 : Int32) &&& 31)) &&& 7) ((w >>> ((6 : Int32) &&& 31)) &&& 7) ((w >>> ((3 : Int32) &&& 31)) &&& 7) n y = m_perform_94 τ := by
  unfold m_perform_68
  simp only [bd2, nb_11 h]
  rw [if_neg (by decide)]
theorem mg_11 {σ : St} {w n : Int32} (h0 : σ 6 5 = 0) (hz : zb (σ 6 5)) (hb : ¬ ((w >>> ((6 : Int32) &&& 31)) &&& 7) = 7) : m_perform_68 (vK σ) w 11 ((w >>> ((9 : Int32) &&& 31)) &&& 7) ((w >>> ((6 : Int32) &&& 31)) &&& 7) ((w >>> ((3 : Int32) &&& 31)) &&& 7) n 1 = m_perform_100 (vK σ) w 11 ((w >>> ((9 : Int32) &&& 31)) &&& 7) ((w >>> ((6 : Int32) &&& 31)) &&& 7) ((w >>> ((3 : Int32) &&& 31)) &&& 7) n := by
  unfold m_perform_68
  simp only [bd2, ns_11 hb, iow hz]
  first | rw [if_pos trivial] | rw [if_pos rfl]
  rw [if_neg (by decide), if_pos h0]
theorem named_12 : named (ix 12) = 2 := by decide
theorem ns_12 {τ : St} {a b c : Int32} (hb : ¬ b = 7) : m_namesSeven τ 12 a b c = (τ, 0) := by
  simp (decide := true) [m_namesSeven, m_namesSeven_17, m_namesSeven_16, m_namesSeven_29, m_namesSeven_47, m_namesSeven_57, m_namesSeven_58, m_namesSeven_80, m_namesSeven_90, m_namesSeven_86, m_namesSeven_91, hb]
theorem nb_12 {τ : St} {a b c : Int32} (h : b = 7) : m_namesSeven τ 12 a b c = (τ, 1) := by
  simp (decide := true) [m_namesSeven, m_namesSeven_17, m_namesSeven_16, m_namesSeven_29, m_namesSeven_47, m_namesSeven_57, m_namesSeven_58, m_namesSeven_80, m_namesSeven_90, m_namesSeven_86, m_namesSeven_91, h]
theorem ku_12 {σ : St} {w : Int32} (ho : (w >>> ((12 : Int32) &&& 31)) = 12) (h0 : σ 6 5 = 0) (hb : ¬ ((w >>> ((6 : Int32) &&& 31)) &&& 7) = 7) : k_isUnknown σ w = (σ, 0) := by
  have ho2 : (w >>> ((12 : Int32) &&& 31)) &&& 15 = 12 := by rw [ho]; decide
  simp (decide := true) [k_isUnknown, k_isUnknown_38, k_isUnknown_36, k_isUnknown_62, k_isUnknown_80, k_isUnknown_97, k_isUnknown_101, k_isUnknown_102, ho2, named_12, h0, hb]
theorem kw_12 {σ : St} {w : Int32} (ho : (w >>> ((12 : Int32) &&& 31)) = 12) (h0 : ¬ σ 6 5 = 0) : k_isUnknown σ w = (σ, 1) := by
  have ho2 : (w >>> ((12 : Int32) &&& 31)) &&& 15 = 12 := by rw [ho]; decide
  simp (decide := true) [k_isUnknown, k_isUnknown_38, k_isUnknown_36, k_isUnknown_62, k_isUnknown_80, k_isUnknown_97, k_isUnknown_101, k_isUnknown_102, ho2, h0]
theorem kb_12 {σ : St} {w : Int32} (ho : (w >>> ((12 : Int32) &&& 31)) = 12) (h : ((w >>> ((6 : Int32) &&& 31)) &&& 7) = 7) : k_isUnknown σ w = (σ, 1) := by
  have ho2 : (w >>> ((12 : Int32) &&& 31)) &&& 15 = 12 := by rw [ho]; decide
  have z : ((w >>> ((6 : Int32) &&& 31)) &&& 7) = 7 := h
  by_cases h0 : σ 6 5 = 0
  · simp (decide := true) [k_isUnknown, k_isUnknown_38, k_isUnknown_36, k_isUnknown_62, k_isUnknown_80, k_isUnknown_97, k_isUnknown_101, k_isUnknown_102, ho2, named_12, h0, z]
  · simp (decide := true) [k_isUnknown, k_isUnknown_38, k_isUnknown_36, k_isUnknown_62, k_isUnknown_80, k_isUnknown_97, k_isUnknown_101, k_isUnknown_102, ho2, named_12, h0, z]
theorem mp_12 (τ : St) {w : Int32} (ho : (w >>> ((12 : Int32) &&& 31)) = 12) : m_perform τ w = m_perform_68 τ w 12 ((w >>> ((9 : Int32) &&& 31)) &&& 7) ((w >>> ((6 : Int32) &&& 31)) &&& 7) ((w >>> ((3 : Int32) &&& 31)) &&& 7) (((τ 5 (ix 7)) + 1) &&& 255) 1 := by
  unfold m_perform m_perform_63
  rw [ho]
  rfl
theorem mo_12 {σ : St} {w n : Int32} (h0 : ¬ σ 6 5 = 0) (hz : zb (σ 6 5)) : m_perform_68 (vK σ) w 12 ((w >>> ((9 : Int32) &&& 31)) &&& 7) ((w >>> ((6 : Int32) &&& 31)) &&& 7) ((w >>> ((3 : Int32) &&& 31)) &&& 7) n 1 = m_perform_94 (vK σ) := by
  unfold m_perform_68
  by_cases hb : ((w >>> ((6 : Int32) &&& 31)) &&& 7) = 7
  · simp only [bd2, nb_12 hb]
    rw [if_neg (by decide)]
  · simp only [bd2, ns_12 hb, iow hz]
    first | rw [if_pos trivial] | rw [if_pos rfl]
    rw [if_neg (by decide), if_neg h0]
theorem mb_12 {τ : St} {w n y : Int32} (h : ((w >>> ((6 : Int32) &&& 31)) &&& 7) = 7) : m_perform_68 τ w 12 ((w >>> ((9 : Int32) &&& 31)) &&& 7) ((w >>> ((6 : Int32) &&& 31)) &&& 7) ((w >>> ((3 : Int32) &&& 31)) &&& 7) n y = m_perform_94 τ := by
  unfold m_perform_68
  simp only [bd2, nb_12 h]
  rw [if_neg (by decide)]
theorem mg_12 {σ : St} {w n : Int32} (h0 : σ 6 5 = 0) (hz : zb (σ 6 5)) (hb : ¬ ((w >>> ((6 : Int32) &&& 31)) &&& 7) = 7) : m_perform_68 (vK σ) w 12 ((w >>> ((9 : Int32) &&& 31)) &&& 7) ((w >>> ((6 : Int32) &&& 31)) &&& 7) ((w >>> ((3 : Int32) &&& 31)) &&& 7) n 1 = m_perform_100 (vK σ) w 12 ((w >>> ((9 : Int32) &&& 31)) &&& 7) ((w >>> ((6 : Int32) &&& 31)) &&& 7) ((w >>> ((3 : Int32) &&& 31)) &&& 7) n := by
  unfold m_perform_68
  simp only [bd2, ns_12 hb, iow hz]
  first | rw [if_pos trivial] | rw [if_pos rfl]
  rw [if_neg (by decide), if_pos h0]
theorem named_13 : named (ix 13) = 0 := by decide
theorem ns_13 {τ : St} {a b c : Int32} : m_namesSeven τ 13 a b c = (τ, 0) := by
  simp (decide := true) [m_namesSeven, m_namesSeven_17, m_namesSeven_16, m_namesSeven_29, m_namesSeven_47, m_namesSeven_57, m_namesSeven_58, m_namesSeven_80, m_namesSeven_90, m_namesSeven_86, m_namesSeven_91]
theorem ku_13 {σ : St} {w : Int32} (ho : (w >>> ((12 : Int32) &&& 31)) = 13) : k_isUnknown σ w = (σ, 0) := by
  have ho2 : (w >>> ((12 : Int32) &&& 31)) &&& 15 = 13 := by rw [ho]; decide
  simp (decide := true) [k_isUnknown, k_isUnknown_38, k_isUnknown_36, k_isUnknown_62, k_isUnknown_80, k_isUnknown_97, k_isUnknown_101, k_isUnknown_102, ho2, named_13]
theorem mp_13 (τ : St) {w : Int32} (ho : (w >>> ((12 : Int32) &&& 31)) = 13) : m_perform τ w = m_perform_68 τ w 13 ((w >>> ((9 : Int32) &&& 31)) &&& 7) ((w >>> ((6 : Int32) &&& 31)) &&& 7) ((w >>> ((3 : Int32) &&& 31)) &&& 7) (((τ 5 (ix 7)) + 1) &&& 255) 0 := by
  unfold m_perform m_perform_63
  rw [ho]
  rfl
theorem mg_13 {σ : St} {w n : Int32} : m_perform_68 (vK σ) w 13 ((w >>> ((9 : Int32) &&& 31)) &&& 7) ((w >>> ((6 : Int32) &&& 31)) &&& 7) ((w >>> ((3 : Int32) &&& 31)) &&& 7) n 0 = m_perform_100 (vK σ) w 13 ((w >>> ((9 : Int32) &&& 31)) &&& 7) ((w >>> ((6 : Int32) &&& 31)) &&& 7) ((w >>> ((3 : Int32) &&& 31)) &&& 7) n := by
  unfold m_perform_68
  simp only [bd2, ns_13]
  first | rw [if_pos trivial, if_pos trivial] | rw [if_pos rfl, if_pos rfl]
theorem named_14 : named (ix 14) = 0 := by decide
theorem ns_14 {τ : St} {a b c : Int32} : m_namesSeven τ 14 a b c = (τ, 0) := by
  simp (decide := true) [m_namesSeven, m_namesSeven_17, m_namesSeven_16, m_namesSeven_29, m_namesSeven_47, m_namesSeven_57, m_namesSeven_58, m_namesSeven_80, m_namesSeven_90, m_namesSeven_86, m_namesSeven_91]
theorem ku_14 {σ : St} {w : Int32} (ho : (w >>> ((12 : Int32) &&& 31)) = 14) : k_isUnknown σ w = (σ, 0) := by
  have ho2 : (w >>> ((12 : Int32) &&& 31)) &&& 15 = 14 := by rw [ho]; decide
  simp (decide := true) [k_isUnknown, k_isUnknown_38, k_isUnknown_36, k_isUnknown_62, k_isUnknown_80, k_isUnknown_97, k_isUnknown_101, k_isUnknown_102, ho2, named_14]
theorem mp_14 (τ : St) {w : Int32} (ho : (w >>> ((12 : Int32) &&& 31)) = 14) : m_perform τ w = m_perform_68 τ w 14 ((w >>> ((9 : Int32) &&& 31)) &&& 7) ((w >>> ((6 : Int32) &&& 31)) &&& 7) ((w >>> ((3 : Int32) &&& 31)) &&& 7) (((τ 5 (ix 7)) + 1) &&& 255) 0 := by
  unfold m_perform m_perform_63
  rw [ho]
  rfl
theorem mg_14 {σ : St} {w n : Int32} : m_perform_68 (vK σ) w 14 ((w >>> ((9 : Int32) &&& 31)) &&& 7) ((w >>> ((6 : Int32) &&& 31)) &&& 7) ((w >>> ((3 : Int32) &&& 31)) &&& 7) n 0 = m_perform_100 (vK σ) w 14 ((w >>> ((9 : Int32) &&& 31)) &&& 7) ((w >>> ((6 : Int32) &&& 31)) &&& 7) ((w >>> ((3 : Int32) &&& 31)) &&& 7) n := by
  unfold m_perform_68
  simp only [bd2, ns_14]
  first | rw [if_pos trivial, if_pos trivial] | rw [if_pos rfl, if_pos rfl]
theorem named_15 : named (ix 15) = 0 := by decide
theorem ns_15 {τ : St} {a b c : Int32} : m_namesSeven τ 15 a b c = (τ, 0) := by
  simp (decide := true) [m_namesSeven, m_namesSeven_17, m_namesSeven_16, m_namesSeven_29, m_namesSeven_47, m_namesSeven_57, m_namesSeven_58, m_namesSeven_80, m_namesSeven_90, m_namesSeven_86, m_namesSeven_91]
theorem ku_15 {σ : St} {w : Int32} (ho : (w >>> ((12 : Int32) &&& 31)) = 15) (h0 : σ 6 5 = 0) : k_isUnknown σ w = (σ, 0) := by
  have ho2 : (w >>> ((12 : Int32) &&& 31)) &&& 15 = 15 := by rw [ho]; decide
  simp (decide := true) [k_isUnknown, k_isUnknown_38, k_isUnknown_36, k_isUnknown_62, k_isUnknown_80, k_isUnknown_97, k_isUnknown_101, k_isUnknown_102, ho2, named_15, h0]
theorem kw_15 {σ : St} {w : Int32} (ho : (w >>> ((12 : Int32) &&& 31)) = 15) (h0 : ¬ σ 6 5 = 0) : k_isUnknown σ w = (σ, 1) := by
  have ho2 : (w >>> ((12 : Int32) &&& 31)) &&& 15 = 15 := by rw [ho]; decide
  simp (decide := true) [k_isUnknown, k_isUnknown_38, k_isUnknown_36, k_isUnknown_62, k_isUnknown_80, k_isUnknown_97, k_isUnknown_101, k_isUnknown_102, ho2, h0]
theorem mp_15 (τ : St) {w : Int32} (ho : (w >>> ((12 : Int32) &&& 31)) = 15) : m_perform τ w = m_perform_68 τ w 15 ((w >>> ((9 : Int32) &&& 31)) &&& 7) ((w >>> ((6 : Int32) &&& 31)) &&& 7) ((w >>> ((3 : Int32) &&& 31)) &&& 7) (((τ 5 (ix 7)) + 1) &&& 255) 1 := by
  unfold m_perform m_perform_63
  rw [ho]
  rfl
theorem mo_15 {σ : St} {w n : Int32} (h0 : ¬ σ 6 5 = 0) (hz : zb (σ 6 5)) : m_perform_68 (vK σ) w 15 ((w >>> ((9 : Int32) &&& 31)) &&& 7) ((w >>> ((6 : Int32) &&& 31)) &&& 7) ((w >>> ((3 : Int32) &&& 31)) &&& 7) n 1 = m_perform_94 (vK σ) := by
  unfold m_perform_68
  simp only [bd2, ns_15, iow hz]
  first | rw [if_pos trivial] | rw [if_pos rfl]
  rw [if_neg (by decide), if_neg h0]
theorem mg_15 {σ : St} {w n : Int32} (h0 : σ 6 5 = 0) (hz : zb (σ 6 5)) : m_perform_68 (vK σ) w 15 ((w >>> ((9 : Int32) &&& 31)) &&& 7) ((w >>> ((6 : Int32) &&& 31)) &&& 7) ((w >>> ((3 : Int32) &&& 31)) &&& 7) n 1 = m_perform_100 (vK σ) w 15 ((w >>> ((9 : Int32) &&& 31)) &&& 7) ((w >>> ((6 : Int32) &&& 31)) &&& 7) ((w >>> ((3 : Int32) &&& 31)) &&& 7) n := by
  unfold m_perform_68
  simp only [bd2, ns_15, iow hz]
  first | rw [if_pos trivial] | rw [if_pos rfl]
  rw [if_neg (by decide), if_pos h0]
theorem mm_X {σ : St} (h : XX σ) : MM σ (vK σ) := by
  obtain ⟨-, hA, hf | hf⟩ := h
  · exact Or.inl ⟨hf, rfl, hA⟩
  · exact Or.inr (hf ▸ DD_of hA)
theorem c4_fin : ∀ j : Fin 8, nI j.val - nI j.val / 4 * 4 = nI j.val &&& 3 := by decide +kernel
theorem c4 (x : Int32) : (x &&& 7) - (x &&& 7) / 4 * 4 = x &&& 3 := by
  have h : (x &&& 7).toBitVec.toNat < 8 := and_lt x 7 (by decide)
  have e : x &&& 3 = (x &&& 7) &&& 3 := by
    apply i_ext
    rw [and_nat, and_nat, and_nat, Nat.and_assoc]
    rfl
  rw [e]
  have f := c4_fin ⟨_, h⟩
  have f : nI (x &&& 7).toBitVec.toNat - nI (x &&& 7).toBitVec.toNat / 4 * 4 = nI (x &&& 7).toBitVec.toNat &&& 3 := f
  rw [← nat_nI] at f
  exact f
theorem cf158 (σ : St) : k_changeFlow_158 σ = σ := rfl
theorem pf465 (σ : St) : m_perform_465 σ = σ := rfl
theorem zif1 {v : Int32} : zb (if v = 0 then (1 : Int32) else 0) := by split <;> decide
theorem perf_0 {σ : St} {w : Int32} (hJ : JJ σ) (hA : AE σ) (hf : σ 0 14 = 0) (ho : (w >>> ((12 : Int32) &&& 31)) = 0) : FM (kP σ w) (m_perform (vK σ) w) ∧ JJ (kP σ w) := by
  rw [mp_0 _ ho]
  by_cases hbad : ((w >>> ((9 : Int32) &&& 31)) &&& 7) = 7
  · exact perf_u hJ hA hf (kb_0 ho hbad) (mb_0 hbad)
  have ha : ¬ ((w >>> ((9 : Int32) &&& 31)) &&& 7) = 7 := fun z => hbad z
  rw [kP_k (ku_0 ho ha), mg_0 ha]
  have hk : kQ σ w = up2 (up2 σ 6 3 (((σ 6 3) + 1) &&& 255)) 8 (ix ((w >>> ((9 : Int32) &&& 31)) &&& 7)) (w &&& 511) := by
    unfold kQ k_moveData
    rw [ho]
    rfl
  have hm : m_perform_100 (vK σ) w 0 ((w >>> ((9 : Int32) &&& 31)) &&& 7) ((w >>> ((6 : Int32) &&& 31)) &&& 7) ((w >>> ((3 : Int32) &&& 31)) &&& 7) (((vK σ 5 (ix 7)) + 1) &&& 255) = up2 (vK (up2 σ 6 3 (((σ 6 3) + 1) &&& 255))) 5 (ix ((w >>> ((9 : Int32) &&& 31)) &&& 7)) (w &&& 511) := by
    rw [vK_6_3]
    rfl
  rw [hk, hm]
  have J1 : JJ (up2 σ 6 3 (((σ 6 3) + 1) &&& 255)) := JJ_6_3 hJ (b8_and _)
  have A1 : AE (up2 σ 6 3 (((σ 6 3) + 1) &&& 255)) := hA
  have F1 : (up2 σ 6 3 (((σ 6 3) + 1) &&& 255)) 0 14 = 0 := hf
  have N1 : (up2 σ 6 3 (((σ 6 3) + 1) &&& 255)) 6 3 = (((σ 6 3) + 1) &&& 255) := rfl
  clear hk hm
  generalize (up2 σ 6 3 (((σ 6 3) + 1) &&& 255)) = σ1 at *
  have M1 := mm_e A1 F1
  have X1 : XX σ1 := ⟨J1, A1, Or.inl F1⟩
  exact ⟨fm_M (mm_r (ix_lt7 ha) M1 (fun _ => rfl)), JJ_8 J1 (wd_511 _)⟩
theorem perf_1 {σ : St} {w : Int32} (hJ : JJ σ) (hA : AE σ) (hf : σ 0 14 = 0) (ho : (w >>> ((12 : Int32) &&& 31)) = 1) : FM (kP σ w) (m_perform (vK σ) w) ∧ JJ (kP σ w) := by
  rw [mp_1 _ ho]
  by_cases hbad : ((w >>> ((9 : Int32) &&& 31)) &&& 7) = 7 ∨ ((w >>> ((6 : Int32) &&& 31)) &&& 7) = 7 ∨ ((w >>> ((3 : Int32) &&& 31)) &&& 7) = 7
  · exact perf_u hJ hA hf (kb_1 ho hbad) (mb_1 hbad)
  have ha : ¬ ((w >>> ((9 : Int32) &&& 31)) &&& 7) = 7 := fun z => hbad (Or.inl z)
  have hb : ¬ ((w >>> ((6 : Int32) &&& 31)) &&& 7) = 7 := fun z => hbad (Or.inr (Or.inl z))
  have hc : ¬ ((w >>> ((3 : Int32) &&& 31)) &&& 7) = 7 := fun z => hbad (Or.inr (Or.inr z))
  rw [kP_k (ku_1 ho ha hb hc), mg_1 ha hb hc]
  have hk : kQ σ w = up2 (up2 σ 6 3 (((σ 6 3) + 1) &&& 255)) 8 (ix ((w >>> ((9 : Int32) &&& 31)) &&& 7)) ((((up2 σ 6 3 (((σ 6 3) + 1) &&& 255)) 8 (ix ((w >>> ((6 : Int32) &&& 31)) &&& 7))) + ((up2 σ 6 3 (((σ 6 3) + 1) &&& 255)) 8 (ix ((w >>> ((3 : Int32) &&& 31)) &&& 7)))) &&& 65535) := by
    unfold kQ k_moveData
    rw [ho]
    rfl
  have hm : m_perform_100 (vK σ) w 1 ((w >>> ((9 : Int32) &&& 31)) &&& 7) ((w >>> ((6 : Int32) &&& 31)) &&& 7) ((w >>> ((3 : Int32) &&& 31)) &&& 7) (((vK σ 5 (ix 7)) + 1) &&& 255) = up2 (vK (up2 σ 6 3 (((σ 6 3) + 1) &&& 255))) 5 (ix ((w >>> ((9 : Int32) &&& 31)) &&& 7)) ((((vK (up2 σ 6 3 (((σ 6 3) + 1) &&& 255))) 5 (ix ((w >>> ((6 : Int32) &&& 31)) &&& 7))) + ((vK (up2 σ 6 3 (((σ 6 3) + 1) &&& 255))) 5 (ix ((w >>> ((3 : Int32) &&& 31)) &&& 7)))) &&& 65535) := by
    rw [vK_6_3]
    rfl
  rw [hk, hm]
  have J1 : JJ (up2 σ 6 3 (((σ 6 3) + 1) &&& 255)) := JJ_6_3 hJ (b8_and _)
  have A1 : AE (up2 σ 6 3 (((σ 6 3) + 1) &&& 255)) := hA
  have F1 : (up2 σ 6 3 (((σ 6 3) + 1) &&& 255)) 0 14 = 0 := hf
  have N1 : (up2 σ 6 3 (((σ 6 3) + 1) &&& 255)) 6 3 = (((σ 6 3) + 1) &&& 255) := rfl
  clear hk hm
  generalize (up2 σ 6 3 (((σ 6 3) + 1) &&& 255)) = σ1 at *
  have M1 := mm_e A1 F1
  have X1 : XX σ1 := ⟨J1, A1, Or.inl F1⟩
  rw [vK_r (ix_lt7 hb), vK_r (ix_lt7 hc)]
  exact ⟨fm_M (mm_r (ix_lt7 ha) M1 (fun _ => rfl)), JJ_8 J1 (wd_and _)⟩
theorem perf_2 {σ : St} {w : Int32} (hJ : JJ σ) (hA : AE σ) (hf : σ 0 14 = 0) (ho : (w >>> ((12 : Int32) &&& 31)) = 2) : FM (kP σ w) (m_perform (vK σ) w) ∧ JJ (kP σ w) := by
  rw [mp_2 _ ho]
  by_cases hbad : ((w >>> ((9 : Int32) &&& 31)) &&& 7) = 7 ∨ ((w >>> ((6 : Int32) &&& 31)) &&& 7) = 7 ∨ ((w >>> ((3 : Int32) &&& 31)) &&& 7) = 7
  · exact perf_u hJ hA hf (kb_2 ho hbad) (mb_2 hbad)
  have ha : ¬ ((w >>> ((9 : Int32) &&& 31)) &&& 7) = 7 := fun z => hbad (Or.inl z)
  have hb : ¬ ((w >>> ((6 : Int32) &&& 31)) &&& 7) = 7 := fun z => hbad (Or.inr (Or.inl z))
  have hc : ¬ ((w >>> ((3 : Int32) &&& 31)) &&& 7) = 7 := fun z => hbad (Or.inr (Or.inr z))
  rw [kP_k (ku_2 ho ha hb hc), mg_2 ha hb hc]
  have hk : kQ σ w = bd (up2 (up2 σ 6 3 (((σ 6 3) + 1) &&& 255)) 8 (ix ((w >>> ((9 : Int32) &&& 31)) &&& 7)) ((((up2 σ 6 3 (((σ 6 3) + 1) &&& 255)) 8 (ix ((w >>> ((6 : Int32) &&& 31)) &&& 7))) - ((up2 σ 6 3 (((σ 6 3) + 1) &&& 255)) 8 (ix ((w >>> ((3 : Int32) &&& 31)) &&& 7)))) &&& 65535)) fun s => if (s 8 (ix ((w >>> ((9 : Int32) &&& 31)) &&& 7))) = 0 then up2 s 6 4 1 else up2 s 6 4 0 := by
    unfold kQ k_moveData
    rw [ho]
    rfl
  have hm : m_perform_100 (vK σ) w 2 ((w >>> ((9 : Int32) &&& 31)) &&& 7) ((w >>> ((6 : Int32) &&& 31)) &&& 7) ((w >>> ((3 : Int32) &&& 31)) &&& 7) (((vK σ 5 (ix 7)) + 1) &&& 255) = bd (up2 (vK (up2 σ 6 3 (((σ 6 3) + 1) &&& 255))) 5 (ix ((w >>> ((9 : Int32) &&& 31)) &&& 7)) ((((vK (up2 σ 6 3 (((σ 6 3) + 1) &&& 255))) 5 (ix ((w >>> ((6 : Int32) &&& 31)) &&& 7))) - ((vK (up2 σ 6 3 (((σ 6 3) + 1) &&& 255))) 5 (ix ((w >>> ((3 : Int32) &&& 31)) &&& 7)))) &&& 65535)) fun s => if (s 5 (ix ((w >>> ((9 : Int32) &&& 31)) &&& 7))) = 0 then up2 s 5 (ix 10) 1 else up2 s 5 (ix 10) 0 := by
    rw [vK_6_3]
    rfl
  rw [hk, hm]
  have J1 : JJ (up2 σ 6 3 (((σ 6 3) + 1) &&& 255)) := JJ_6_3 hJ (b8_and _)
  have A1 : AE (up2 σ 6 3 (((σ 6 3) + 1) &&& 255)) := hA
  have F1 : (up2 σ 6 3 (((σ 6 3) + 1) &&& 255)) 0 14 = 0 := hf
  have N1 : (up2 σ 6 3 (((σ 6 3) + 1) &&& 255)) 6 3 = (((σ 6 3) + 1) &&& 255) := rfl
  clear hk hm
  generalize (up2 σ 6 3 (((σ 6 3) + 1) &&& 255)) = σ1 at *
  have M1 := mm_e A1 F1
  have X1 : XX σ1 := ⟨J1, A1, Or.inl F1⟩
  have hd : wd (((σ1 8 (ix ((w >>> ((6 : Int32) &&& 31)) &&& 7))) - (σ1 8 (ix ((w >>> ((3 : Int32) &&& 31)) &&& 7)))) &&& 65535) := wd_and _
  rw [vK_r (ix_lt7 hb), vK_r (ix_lt7 hc)]
  generalize ((σ1 8 (ix ((w >>> ((6 : Int32) &&& 31)) &&& 7))) - (σ1 8 (ix ((w >>> ((3 : Int32) &&& 31)) &&& 7)))) &&& 65535 = d at *
  simp only [bd]
  rw [ite_F (fun z => up2 (up2 σ1 8 (ix ((w >>> ((9 : Int32) &&& 31)) &&& 7)) d) 6 4 z), ite_F (fun z => up2 (up2 (vK σ1) 5 (ix ((w >>> ((9 : Int32) &&& 31)) &&& 7)) d) 5 (ix 10) z), up2_at, up2_at]
  exact ⟨fm_M (mm_z (mm_r (ix_lt7 ha) M1 (fun _ => rfl)) (fun _ => rfl)), JJ_6_4 (JJ_8 J1 hd) zif1⟩
theorem perf_3 {σ : St} {w : Int32} (hJ : JJ σ) (hA : AE σ) (hf : σ 0 14 = 0) (ho : (w >>> ((12 : Int32) &&& 31)) = 3) : FM (kP σ w) (m_perform (vK σ) w) ∧ JJ (kP σ w) := by
  rw [mp_3 _ ho]
  by_cases hbad : ((w >>> ((9 : Int32) &&& 31)) &&& 7) = 7 ∨ ((w >>> ((6 : Int32) &&& 31)) &&& 7) = 7
  · exact perf_u hJ hA hf (kb_3 ho hbad) (mb_3 hbad)
  have ha : ¬ ((w >>> ((9 : Int32) &&& 31)) &&& 7) = 7 := fun z => hbad (Or.inl z)
  have hb : ¬ ((w >>> ((6 : Int32) &&& 31)) &&& 7) = 7 := fun z => hbad (Or.inr z)
  rw [kP_k (ku_3 ho ha hb), mg_3 ha hb]
  have hk : kQ σ w = bd2 (k_read (up2 σ 6 3 (((σ 6 3) + 1) &&& 255)) (((up2 σ 6 3 (((σ 6 3) + 1) &&& 255)) 8 (ix ((w >>> ((6 : Int32) &&& 31)) &&& 7))) + (w &&& 63))) fun s v => up2 s 8 (ix ((w >>> ((9 : Int32) &&& 31)) &&& 7)) v := by
    unfold kQ k_moveData
    rw [ho]
    rfl
  have hm : m_perform_100 (vK σ) w 3 ((w >>> ((9 : Int32) &&& 31)) &&& 7) ((w >>> ((6 : Int32) &&& 31)) &&& 7) ((w >>> ((3 : Int32) &&& 31)) &&& 7) (((vK σ 5 (ix 7)) + 1) &&& 255) = bd2 (m_read (vK (up2 σ 6 3 (((σ 6 3) + 1) &&& 255))) (((vK (up2 σ 6 3 (((σ 6 3) + 1) &&& 255))) 5 (ix ((w >>> ((6 : Int32) &&& 31)) &&& 7))) + (w &&& 63))) fun s v => up2 s 5 (ix ((w >>> ((9 : Int32) &&& 31)) &&& 7)) v := by
    rw [vK_6_3]
    rfl
  rw [hk, hm]
  have J1 : JJ (up2 σ 6 3 (((σ 6 3) + 1) &&& 255)) := JJ_6_3 hJ (b8_and _)
  have A1 : AE (up2 σ 6 3 (((σ 6 3) + 1) &&& 255)) := hA
  have F1 : (up2 σ 6 3 (((σ 6 3) + 1) &&& 255)) 0 14 = 0 := hf
  have N1 : (up2 σ 6 3 (((σ 6 3) + 1) &&& 255)) 6 3 = (((σ 6 3) + 1) &&& 255) := rfl
  clear hk hm
  generalize (up2 σ 6 3 (((σ 6 3) + 1) &&& 255)) = σ1 at *
  have M1 := mm_e A1 F1
  have X1 : XX σ1 := ⟨J1, A1, Or.inl F1⟩
  rw [vK_r (ix_lt7 hb)]
  obtain ⟨σ2, v2, s2⟩ : ∃ (x : St) (y : Int32), (x, y) = k_read σ1 ((σ1 8 (ix ((w >>> ((6 : Int32) &&& 31)) &&& 7))) + (w &&& 63)) := ⟨_, _, rfl⟩
  obtain ⟨τ2, w2, t2⟩ : ∃ (x : St) (y : Int32), (x, y) = m_read (vK σ1) ((σ1 8 (ix ((w >>> ((6 : Int32) &&& 31)) &&& 7))) + (w &&& 63)) := ⟨_, _, rfl⟩
  rw [bd2_e s2, bd2_e t2]
  obtain ⟨M2, q2, J2, d2⟩ := mm_read s2 t2 J1 A1 F1
  exact ⟨fm_M (mm_r (ix_lt7 ha) M2 q2), JJ_8 J2 d2⟩
theorem perf_4 {σ : St} {w : Int32} (hJ : JJ σ) (hA : AE σ) (hf : σ 0 14 = 0) (ho : (w >>> ((12 : Int32) &&& 31)) = 4) : FM (kP σ w) (m_perform (vK σ) w) ∧ JJ (kP σ w) := by
  rw [mp_4 _ ho]
  by_cases hbad : ((w >>> ((9 : Int32) &&& 31)) &&& 7) = 7 ∨ ((w >>> ((6 : Int32) &&& 31)) &&& 7) = 7
  · exact perf_u hJ hA hf (kb_4 ho hbad) (mb_4 hbad)
  have ha : ¬ ((w >>> ((9 : Int32) &&& 31)) &&& 7) = 7 := fun z => hbad (Or.inl z)
  have hb : ¬ ((w >>> ((6 : Int32) &&& 31)) &&& 7) = 7 := fun z => hbad (Or.inr z)
  rw [kP_k (ku_4 ho ha hb), mg_4 ha hb]
  have hk : kQ σ w = k_write (up2 σ 6 3 (((σ 6 3) + 1) &&& 255)) (((up2 σ 6 3 (((σ 6 3) + 1) &&& 255)) 8 (ix ((w >>> ((6 : Int32) &&& 31)) &&& 7))) + (w &&& 63)) ((up2 σ 6 3 (((σ 6 3) + 1) &&& 255)) 8 (ix ((w >>> ((9 : Int32) &&& 31)) &&& 7))) := by
    unfold kQ k_moveData
    rw [ho]
    rfl
  have hm : m_perform_100 (vK σ) w 4 ((w >>> ((9 : Int32) &&& 31)) &&& 7) ((w >>> ((6 : Int32) &&& 31)) &&& 7) ((w >>> ((3 : Int32) &&& 31)) &&& 7) (((vK σ 5 (ix 7)) + 1) &&& 255) = m_write (vK (up2 σ 6 3 (((σ 6 3) + 1) &&& 255))) (((vK (up2 σ 6 3 (((σ 6 3) + 1) &&& 255))) 5 (ix ((w >>> ((6 : Int32) &&& 31)) &&& 7))) + (w &&& 63)) ((vK (up2 σ 6 3 (((σ 6 3) + 1) &&& 255))) 5 (ix ((w >>> ((9 : Int32) &&& 31)) &&& 7))) := by
    rw [vK_6_3]
    rfl
  rw [hk, hm]
  have J1 : JJ (up2 σ 6 3 (((σ 6 3) + 1) &&& 255)) := JJ_6_3 hJ (b8_and _)
  have A1 : AE (up2 σ 6 3 (((σ 6 3) + 1) &&& 255)) := hA
  have F1 : (up2 σ 6 3 (((σ 6 3) + 1) &&& 255)) 0 14 = 0 := hf
  have N1 : (up2 σ 6 3 (((σ 6 3) + 1) &&& 255)) 6 3 = (((σ 6 3) + 1) &&& 255) := rfl
  clear hk hm
  generalize (up2 σ 6 3 (((σ 6 3) + 1) &&& 255)) = σ1 at *
  have M1 := mm_e A1 F1
  have X1 : XX σ1 := ⟨J1, A1, Or.inl F1⟩
  rw [vK_r (ix_lt7 hb), vK_r (ix_lt7 ha), write_eq J1.1 (JJ_zo J1) X1.2.2 (JJ_r J1 _)]
  have X2 := XX_write (a := (σ1 8 (ix ((w >>> ((6 : Int32) &&& 31)) &&& 7))) + (w &&& 63)) X1 (JJ_r J1 (ix ((w >>> ((9 : Int32) &&& 31)) &&& 7)))
  exact ⟨fm_X X2, X2.1⟩
theorem perf_5 {σ : St} {w : Int32} (hJ : JJ σ) (hA : AE σ) (hf : σ 0 14 = 0) (ho : (w >>> ((12 : Int32) &&& 31)) = 5) : FM (kP σ w) (m_perform (vK σ) w) ∧ JJ (kP σ w) := by
  rw [mp_5 _ ho]
  by_cases hbad : ((w >>> ((9 : Int32) &&& 31)) &&& 7) = 7
  · exact perf_u hJ hA hf (kb_5 ho hbad) (mb_5 hbad)
  have ha : ¬ ((w >>> ((9 : Int32) &&& 31)) &&& 7) = 7 := fun z => hbad z
  rw [kP_k (ku_5 ho ha), mg_5 ha]
  have hk : kQ σ w = k_push (up2 σ 6 3 (((σ 6 3) + 1) &&& 255)) ((up2 σ 6 3 (((σ 6 3) + 1) &&& 255)) 8 (ix ((w >>> ((9 : Int32) &&& 31)) &&& 7))) := by
    unfold kQ k_moveData
    rw [ho]
    rfl
  have hm : m_perform_100 (vK σ) w 5 ((w >>> ((9 : Int32) &&& 31)) &&& 7) ((w >>> ((6 : Int32) &&& 31)) &&& 7) ((w >>> ((3 : Int32) &&& 31)) &&& 7) (((vK σ 5 (ix 7)) + 1) &&& 255) = m_push (vK (up2 σ 6 3 (((σ 6 3) + 1) &&& 255))) ((vK (up2 σ 6 3 (((σ 6 3) + 1) &&& 255))) 5 (ix ((w >>> ((9 : Int32) &&& 31)) &&& 7))) := by
    rw [vK_6_3]
    rfl
  rw [hk, hm]
  have J1 : JJ (up2 σ 6 3 (((σ 6 3) + 1) &&& 255)) := JJ_6_3 hJ (b8_and _)
  have A1 : AE (up2 σ 6 3 (((σ 6 3) + 1) &&& 255)) := hA
  have F1 : (up2 σ 6 3 (((σ 6 3) + 1) &&& 255)) 0 14 = 0 := hf
  have N1 : (up2 σ 6 3 (((σ 6 3) + 1) &&& 255)) 6 3 = (((σ 6 3) + 1) &&& 255) := rfl
  clear hk hm
  generalize (up2 σ 6 3 (((σ 6 3) + 1) &&& 255)) = σ1 at *
  have M1 := mm_e A1 F1
  have X1 : XX σ1 := ⟨J1, A1, Or.inl F1⟩
  rw [vK_r (ix_lt7 ha)]
  obtain ⟨e2, X2⟩ := push_eq X1 (JJ_r J1 (ix ((w >>> ((9 : Int32) &&& 31)) &&& 7)))
  rw [e2]
  exact ⟨fm_X X2, X2.1⟩
theorem perf_6 {σ : St} {w : Int32} (hJ : JJ σ) (hA : AE σ) (hf : σ 0 14 = 0) (ho : (w >>> ((12 : Int32) &&& 31)) = 6) : FM (kP σ w) (m_perform (vK σ) w) ∧ JJ (kP σ w) := by
  rw [mp_6 _ ho]
  by_cases hbad : ((w >>> ((9 : Int32) &&& 31)) &&& 7) = 7
  · exact perf_u hJ hA hf (kb_6 ho hbad) (mb_6 hbad)
  have ha : ¬ ((w >>> ((9 : Int32) &&& 31)) &&& 7) = 7 := fun z => hbad z
  rw [kP_k (ku_6 ho ha), mg_6 ha]
  have hk : kQ σ w = bd2 (k_pop (up2 σ 6 3 (((σ 6 3) + 1) &&& 255))) fun s v => up2 s 8 (ix ((w >>> ((9 : Int32) &&& 31)) &&& 7)) v := by
    unfold kQ k_moveData
    rw [ho]
    rfl
  have hm : m_perform_100 (vK σ) w 6 ((w >>> ((9 : Int32) &&& 31)) &&& 7) ((w >>> ((6 : Int32) &&& 31)) &&& 7) ((w >>> ((3 : Int32) &&& 31)) &&& 7) (((vK σ 5 (ix 7)) + 1) &&& 255) = bd2 (m_pop (vK (up2 σ 6 3 (((σ 6 3) + 1) &&& 255)))) fun s v => up2 s 5 (ix ((w >>> ((9 : Int32) &&& 31)) &&& 7)) v := by
    rw [vK_6_3]
    rfl
  rw [hk, hm]
  have J1 : JJ (up2 σ 6 3 (((σ 6 3) + 1) &&& 255)) := JJ_6_3 hJ (b8_and _)
  have A1 : AE (up2 σ 6 3 (((σ 6 3) + 1) &&& 255)) := hA
  have F1 : (up2 σ 6 3 (((σ 6 3) + 1) &&& 255)) 0 14 = 0 := hf
  have N1 : (up2 σ 6 3 (((σ 6 3) + 1) &&& 255)) 6 3 = (((σ 6 3) + 1) &&& 255) := rfl
  clear hk hm
  generalize (up2 σ 6 3 (((σ 6 3) + 1) &&& 255)) = σ1 at *
  have M1 := mm_e A1 F1
  have X1 : XX σ1 := ⟨J1, A1, Or.inl F1⟩
  obtain ⟨σ2, v2, s2⟩ := k_pop_ex σ1
  obtain ⟨τ2, w2, t2⟩ := m_pop_ex (vK σ1)
  rw [bd2_e s2, bd2_e t2]
  obtain ⟨M2, q2, J2, d2⟩ := mm_pop' s2 t2 J1 M1
  exact ⟨fm_M (mm_r (ix_lt7 ha) M2 q2), JJ_8 J2 d2⟩
theorem perf_7 {σ : St} {w : Int32} (hJ : JJ σ) (hA : AE σ) (hf : σ 0 14 = 0) (ho : (w >>> ((12 : Int32) &&& 31)) = 7) : FM (kP σ w) (m_perform (vK σ) w) ∧ JJ (kP σ w) := by
  rw [mp_7 _ ho]
  rw [kP_k (ku_7 ho), mg_7]
  have hk : kQ σ w = up2 (up2 σ 6 3 (((σ 6 3) + 1) &&& 255)) 6 3 (w &&& 255) := by
    unfold kQ k_changeFlow
    rw [ho]
    rfl
  have hm : m_perform_100 (vK σ) w 7 ((w >>> ((9 : Int32) &&& 31)) &&& 7) ((w >>> ((6 : Int32) &&& 31)) &&& 7) ((w >>> ((3 : Int32) &&& 31)) &&& 7) (((vK σ 5 (ix 7)) + 1) &&& 255) = up2 (vK (up2 σ 6 3 (((σ 6 3) + 1) &&& 255))) 5 (ix 7) (w &&& 255) := by
    rw [vK_6_3]
    rfl
  rw [hk, hm]
  have J1 : JJ (up2 σ 6 3 (((σ 6 3) + 1) &&& 255)) := JJ_6_3 hJ (b8_and _)
  have A1 : AE (up2 σ 6 3 (((σ 6 3) + 1) &&& 255)) := hA
  have F1 : (up2 σ 6 3 (((σ 6 3) + 1) &&& 255)) 0 14 = 0 := hf
  have N1 : (up2 σ 6 3 (((σ 6 3) + 1) &&& 255)) 6 3 = (((σ 6 3) + 1) &&& 255) := rfl
  clear hk hm
  generalize (up2 σ 6 3 (((σ 6 3) + 1) &&& 255)) = σ1 at *
  have M1 := mm_e A1 F1
  have X1 : XX σ1 := ⟨J1, A1, Or.inl F1⟩
  exact ⟨fm_M (mm_pc M1 (fun _ => rfl)), JJ_6_3 J1 (b8_and _)⟩
theorem perf_8 {σ : St} {w : Int32} (hJ : JJ σ) (hA : AE σ) (hf : σ 0 14 = 0) (ho : (w >>> ((12 : Int32) &&& 31)) = 8) : FM (kP σ w) (m_perform (vK σ) w) ∧ JJ (kP σ w) := by
  rw [mp_8 _ ho]
  rw [kP_k (ku_8 ho), mg_8]
  have hk : kQ σ w = if ((up2 σ 6 3 (((σ 6 3) + 1) &&& 255)) 6 4) = 0 then (up2 σ 6 3 (((σ 6 3) + 1) &&& 255)) else up2 (up2 σ 6 3 (((σ 6 3) + 1) &&& 255)) 6 3 (w &&& 255) := by
    unfold kQ k_changeFlow
    rw [ho]
    rfl
  have hm : m_perform_100 (vK σ) w 8 ((w >>> ((9 : Int32) &&& 31)) &&& 7) ((w >>> ((6 : Int32) &&& 31)) &&& 7) ((w >>> ((3 : Int32) &&& 31)) &&& 7) (((vK σ 5 (ix 7)) + 1) &&& 255) = if ((vK (up2 σ 6 3 (((σ 6 3) + 1) &&& 255))) 5 (ix 10)) = 1 then up2 (vK (up2 σ 6 3 (((σ 6 3) + 1) &&& 255))) 5 (ix 7) (w &&& 255) else up2 (vK (up2 σ 6 3 (((σ 6 3) + 1) &&& 255))) 5 (ix 7) (((σ 6 3) + 1) &&& 255) := by
    rw [vK_6_3]
    rfl
  rw [hk, hm]
  have J1 : JJ (up2 σ 6 3 (((σ 6 3) + 1) &&& 255)) := JJ_6_3 hJ (b8_and _)
  have A1 : AE (up2 σ 6 3 (((σ 6 3) + 1) &&& 255)) := hA
  have F1 : (up2 σ 6 3 (((σ 6 3) + 1) &&& 255)) 0 14 = 0 := hf
  have N1 : (up2 σ 6 3 (((σ 6 3) + 1) &&& 255)) 6 3 = (((σ 6 3) + 1) &&& 255) := rfl
  clear hk hm
  generalize (up2 σ 6 3 (((σ 6 3) + 1) &&& 255)) = σ1 at *
  have M1 := mm_e A1 F1
  have X1 : XX σ1 := ⟨J1, A1, Or.inl F1⟩
  rw [show vK σ1 5 (ix 10) = σ1 6 4 from rfl]
  rcases JJ_zz J1 with z | z
  · rw [z, if_pos rfl, if_neg (by decide), ← N1, up2_same (show vK σ1 5 (ix 7) = σ1 6 3 from rfl)]
    exact ⟨fm_M M1, J1⟩
  · rw [z, if_neg (by decide), if_pos rfl]
    exact ⟨fm_M (mm_pc M1 (fun _ => rfl)), JJ_6_3 J1 (b8_and _)⟩
theorem perf_9 {σ : St} {w : Int32} (hJ : JJ σ) (hA : AE σ) (hf : σ 0 14 = 0) (ho : (w >>> ((12 : Int32) &&& 31)) = 9) : FM (kP σ w) (m_perform (vK σ) w) ∧ JJ (kP σ w) := by
  rw [mp_9 _ ho]
  by_cases hbad : ((w >>> ((6 : Int32) &&& 31)) &&& 7) = 7
  · exact perf_u hJ hA hf (kb_9 ho hbad) (mb_9 hbad)
  have hb : ¬ ((w >>> ((6 : Int32) &&& 31)) &&& 7) = 7 := fun z => hbad z
  rw [kP_k (ku_9 ho hb), mg_9 hb]
  have hk : kQ σ w = up2 (up2 (up2 σ 6 3 (((σ 6 3) + 1) &&& 255)) 8 (ix 6) ((up2 σ 6 3 (((σ 6 3) + 1) &&& 255)) 6 3)) 6 3 (((up2 σ 6 3 (((σ 6 3) + 1) &&& 255)) 8 (ix ((w >>> ((6 : Int32) &&& 31)) &&& 7))) &&& 255) := by
    unfold kQ k_changeFlow
    rw [ho]
    rfl
  have hm : m_perform_100 (vK σ) w 9 ((w >>> ((9 : Int32) &&& 31)) &&& 7) ((w >>> ((6 : Int32) &&& 31)) &&& 7) ((w >>> ((3 : Int32) &&& 31)) &&& 7) (((vK σ 5 (ix 7)) + 1) &&& 255) = up2 (up2 (vK (up2 σ 6 3 (((σ 6 3) + 1) &&& 255))) 5 (ix 6) (((σ 6 3) + 1) &&& 255)) 5 (ix 7) (((vK (up2 σ 6 3 (((σ 6 3) + 1) &&& 255))) 5 (ix ((w >>> ((6 : Int32) &&& 31)) &&& 7))) &&& 255) := by
    rw [vK_6_3]
    rfl
  rw [hk, hm]
  have J1 : JJ (up2 σ 6 3 (((σ 6 3) + 1) &&& 255)) := JJ_6_3 hJ (b8_and _)
  have A1 : AE (up2 σ 6 3 (((σ 6 3) + 1) &&& 255)) := hA
  have F1 : (up2 σ 6 3 (((σ 6 3) + 1) &&& 255)) 0 14 = 0 := hf
  have N1 : (up2 σ 6 3 (((σ 6 3) + 1) &&& 255)) 6 3 = (((σ 6 3) + 1) &&& 255) := rfl
  clear hk hm
  generalize (up2 σ 6 3 (((σ 6 3) + 1) &&& 255)) = σ1 at *
  have M1 := mm_e A1 F1
  have X1 : XX σ1 := ⟨J1, A1, Or.inl F1⟩
  rw [vK_r (ix_lt7 hb), N1]
  exact ⟨fm_M (mm_pc (mm_r (k := ix 6) (by decide) M1 (fun _ => rfl)) (fun _ => rfl)), JJ_6_3 (JJ_8 J1 (b8_wd (b8_and _))) (b8_and _)⟩
theorem perf_10 {σ : St} {w : Int32} (hJ : JJ σ) (hA : AE σ) (hf : σ 0 14 = 0) (ho : (w >>> ((12 : Int32) &&& 31)) = 10) : FM (kP σ w) (m_perform (vK σ) w) ∧ JJ (kP σ w) := by
  rw [mp_10 _ ho]
  rw [kP_k (ku_10 ho), mg_10]
  have hk : kQ σ w = (up2 σ 6 3 (((σ 6 3) + 1) &&& 255)) := by
    unfold kQ k_changeFlow
    rw [ho]
    rfl
  have hm : m_perform_100 (vK σ) w 10 ((w >>> ((9 : Int32) &&& 31)) &&& 7) ((w >>> ((6 : Int32) &&& 31)) &&& 7) ((w >>> ((3 : Int32) &&& 31)) &&& 7) (((vK σ 5 (ix 7)) + 1) &&& 255) = (vK (up2 σ 6 3 (((σ 6 3) + 1) &&& 255))) := by
    rw [vK_6_3]
    rfl
  rw [hk, hm]
  have J1 : JJ (up2 σ 6 3 (((σ 6 3) + 1) &&& 255)) := JJ_6_3 hJ (b8_and _)
  have A1 : AE (up2 σ 6 3 (((σ 6 3) + 1) &&& 255)) := hA
  have F1 : (up2 σ 6 3 (((σ 6 3) + 1) &&& 255)) 0 14 = 0 := hf
  have N1 : (up2 σ 6 3 (((σ 6 3) + 1) &&& 255)) 6 3 = (((σ 6 3) + 1) &&& 255) := rfl
  clear hk hm
  generalize (up2 σ 6 3 (((σ 6 3) + 1) &&& 255)) = σ1 at *
  have M1 := mm_e A1 F1
  have X1 : XX σ1 := ⟨J1, A1, Or.inl F1⟩
  exact ⟨fm_M M1, J1⟩
theorem perf_11 {σ : St} {w : Int32} (hJ : JJ σ) (hA : AE σ) (hf : σ 0 14 = 0) (ho : (w >>> ((12 : Int32) &&& 31)) = 11) : FM (kP σ w) (m_perform (vK σ) w) ∧ JJ (kP σ w) := by
  rw [mp_11 _ ho]
  by_cases h0 : ¬ σ 6 5 = 0
  · exact perf_u hJ hA hf (kw_11 ho h0) (mo_11 h0 (JJ_zo hJ))
  have h0 : σ 6 5 = 0 := Classical.byContradiction h0
  by_cases hbad : ((w >>> ((6 : Int32) &&& 31)) &&& 7) = 7
  · exact perf_u hJ hA hf (kb_11 ho hbad) (mb_11 hbad)
  have hb : ¬ ((w >>> ((6 : Int32) &&& 31)) &&& 7) = 7 := fun z => hbad z
  rw [kP_k (ku_11 ho h0 hb), mg_11 h0 (JJ_zo hJ) hb]
  have hk : kQ σ w = up2 (up2 (up2 σ 6 3 (((σ 6 3) + 1) &&& 255)) 6 5 1) 6 3 (((up2 σ 6 3 (((σ 6 3) + 1) &&& 255)) 8 (ix ((w >>> ((6 : Int32) &&& 31)) &&& 7))) &&& 255) := by
    unfold kQ k_changeFlow
    rw [ho]
    rfl
  have hm : m_perform_100 (vK σ) w 11 ((w >>> ((9 : Int32) &&& 31)) &&& 7) ((w >>> ((6 : Int32) &&& 31)) &&& 7) ((w >>> ((3 : Int32) &&& 31)) &&& 7) (((vK σ 5 (ix 7)) + 1) &&& 255) = up2 (up2 (vK (up2 σ 6 3 (((σ 6 3) + 1) &&& 255))) 5 (ix 11) 1) 5 (ix 7) (((vK (up2 σ 6 3 (((σ 6 3) + 1) &&& 255))) 5 (ix ((w >>> ((6 : Int32) &&& 31)) &&& 7))) &&& 255) := by
    rw [vK_6_3]
    rfl
  rw [hk, hm]
  have J1 : JJ (up2 σ 6 3 (((σ 6 3) + 1) &&& 255)) := JJ_6_3 hJ (b8_and _)
  have A1 : AE (up2 σ 6 3 (((σ 6 3) + 1) &&& 255)) := hA
  have F1 : (up2 σ 6 3 (((σ 6 3) + 1) &&& 255)) 0 14 = 0 := hf
  have N1 : (up2 σ 6 3 (((σ 6 3) + 1) &&& 255)) 6 3 = (((σ 6 3) + 1) &&& 255) := rfl
  clear hk hm
  generalize (up2 σ 6 3 (((σ 6 3) + 1) &&& 255)) = σ1 at *
  have M1 := mm_e A1 F1
  have X1 : XX σ1 := ⟨J1, A1, Or.inl F1⟩
  rw [vK_r (ix_lt7 hb)]
  exact ⟨fm_M (mm_pc (mm_o M1) (fun _ => rfl)), JJ_6_3 (JJ_6_5 J1 (by decide)) (b8_and _)⟩
theorem perf_12 {σ : St} {w : Int32} (hJ : JJ σ) (hA : AE σ) (hf : σ 0 14 = 0) (ho : (w >>> ((12 : Int32) &&& 31)) = 12) : FM (kP σ w) (m_perform (vK σ) w) ∧ JJ (kP σ w) := by
  rw [mp_12 _ ho]
  by_cases h0 : ¬ σ 6 5 = 0
  · exact perf_u hJ hA hf (kw_12 ho h0) (mo_12 h0 (JJ_zo hJ))
  have h0 : σ 6 5 = 0 := Classical.byContradiction h0
  by_cases hbad : ((w >>> ((6 : Int32) &&& 31)) &&& 7) = 7
  · exact perf_u hJ hA hf (kb_12 ho hbad) (mb_12 hbad)
  have hb : ¬ ((w >>> ((6 : Int32) &&& 31)) &&& 7) = 7 := fun z => hbad z
  rw [kP_k (ku_12 ho h0 hb), mg_12 h0 (JJ_zo hJ) hb]
  have hk : kQ σ w = k_callOut (up2 σ 6 3 (((σ 6 3) + 1) &&& 255)) ((up2 σ 6 3 (((σ 6 3) + 1) &&& 255)) 8 (ix ((w >>> ((6 : Int32) &&& 31)) &&& 7))) := by
    unfold kQ k_changeFlow
    rw [ho]
    exact (bd_e rfl).trans ((if_pos (by decide)).trans ((if_neg (by decide)).trans ((if_neg (by decide)).trans ((if_neg (by decide)).trans ((if_neg (by decide)).trans ((if_pos rfl).trans ((bd_e rfl).trans (cf158 _))))))))
  have hm : m_perform_100 (vK σ) w 12 ((w >>> ((9 : Int32) &&& 31)) &&& 7) ((w >>> ((6 : Int32) &&& 31)) &&& 7) ((w >>> ((3 : Int32) &&& 31)) &&& 7) (((vK σ 5 (ix 7)) + 1) &&& 255) = m_outwards (vK (up2 σ 6 3 (((σ 6 3) + 1) &&& 255))) ((w >>> ((6 : Int32) &&& 31)) &&& 7) (((σ 6 3) + 1) &&& 255) 1 := by
    rw [vK_6_3]
    exact (bd_e rfl).trans ((if_neg (by decide)).trans ((if_neg (by decide)).trans ((if_neg (by decide)).trans ((if_neg (by decide)).trans ((if_neg (by decide)).trans ((if_neg (by decide)).trans ((if_neg (by decide)).trans ((if_neg (by decide)).trans ((if_neg (by decide)).trans ((if_neg (by decide)).trans ((if_neg (by decide)).trans ((if_neg (by decide)).trans ((if_pos rfl).trans ((bd_e rfl).trans (pf465 _)))))))))))))))
  rw [hk, hm]
  have J1 : JJ (up2 σ 6 3 (((σ 6 3) + 1) &&& 255)) := JJ_6_3 hJ (b8_and _)
  have A1 : AE (up2 σ 6 3 (((σ 6 3) + 1) &&& 255)) := hA
  have F1 : (up2 σ 6 3 (((σ 6 3) + 1) &&& 255)) 0 14 = 0 := hf
  have N1 : (up2 σ 6 3 (((σ 6 3) + 1) &&& 255)) 6 3 = (((σ 6 3) + 1) &&& 255) := rfl
  clear hk hm
  generalize (up2 σ 6 3 (((σ 6 3) + 1) &&& 255)) = σ1 at *
  have M1 := mm_e A1 F1
  have X1 : XX σ1 := ⟨J1, A1, Or.inl F1⟩
  rw [← N1]
  obtain ⟨e2, X2⟩ := push_eq X1 (v := σ1 6 3) (b8_wd (JJ_pc J1))
  obtain ⟨σ2, s2⟩ : ∃ z, z = k_push σ1 (σ1 6 3) := ⟨_, rfl⟩
  rw [← s2] at e2 X2
  have hc : k_callOut σ1 (σ1 8 (ix ((w >>> ((6 : Int32) &&& 31)) &&& 7))) = bd (k_push σ1 (σ1 6 3)) fun s1 => bd (k_push s1 4096) fun s2 => bd (up2 s2 8 (ix 6) 65520) fun s3 => bd (k_goOut s3 (σ1 8 (ix ((w >>> ((6 : Int32) &&& 31)) &&& 7)))) fun s4 => s4 := rfl
  have hm2 : m_outwards (vK σ1) ((w >>> ((6 : Int32) &&& 31)) &&& 7) (σ1 6 3) 1 = bd (m_push (vK σ1) (σ1 6 3)) fun s1 => bd (m_push s1 4096) fun s2 => bd (up2 s2 5 (ix 6) 65520) fun s3 => m_outwards_37 s3 ((vK σ1 5 (ix ((w >>> ((6 : Int32) &&& 31)) &&& 7))) &&& 255) := if_neg (by decide)
  rw [hc, hm2, vK_r (ix_lt7 hb), bd_e s2, bd_e e2.symm]
  obtain ⟨e3, X3⟩ := push_eq X2 (v := 4096) (by decide)
  obtain ⟨σ3, s3⟩ : ∃ z, z = k_push σ2 4096 := ⟨_, rfl⟩
  rw [← s3] at e3 X3
  rw [bd_e s3, bd_e e3.symm]
  have f1 : (bd (up2 σ3 8 (ix 6) 65520) fun s3 => bd (k_goOut s3 (σ1 8 (ix ((w >>> ((6 : Int32) &&& 31)) &&& 7)))) fun s4 => s4) = up2 (up2 (up2 σ3 8 (ix 6) 65520) 6 5 1) 6 3 ((σ1 8 (ix ((w >>> ((6 : Int32) &&& 31)) &&& 7))) &&& 255) := rfl
  have f2 : (bd (up2 (vK σ3) 5 (ix 6) 65520) fun s3 => m_outwards_37 s3 ((σ1 8 (ix ((w >>> ((6 : Int32) &&& 31)) &&& 7))) &&& 255)) = up2 (up2 (up2 (vK σ3) 5 (ix 6) 65520) 5 11 1) 5 7 ((σ1 8 (ix ((w >>> ((6 : Int32) &&& 31)) &&& 7))) &&& 255) := rfl
  rw [f1, f2]
  exact ⟨fm_M (mm_pc (mm_o (mm_r (k := ix 6) (by decide) (mm_X X3) (fun _ => rfl))) (fun _ => rfl)), JJ_6_3 (JJ_6_5 (JJ_8 X3.1 (by decide)) (by decide)) (b8_and _)⟩
theorem perf_13 {σ : St} {w : Int32} (hJ : JJ σ) (hA : AE σ) (hf : σ 0 14 = 0) (ho : (w >>> ((12 : Int32) &&& 31)) = 13) : FM (kP σ w) (m_perform (vK σ) w) ∧ JJ (kP σ w) := by
  rw [mp_13 _ ho]
  rw [kP_k (ku_13 ho), mg_13]
  have hk : kQ σ w = k_goBack (up2 σ 6 3 (((σ 6 3) + 1) &&& 255)) := by
    unfold kQ k_changeFlow
    rw [ho]
    rfl
  have hm : m_perform_100 (vK σ) w 13 ((w >>> ((9 : Int32) &&& 31)) &&& 7) ((w >>> ((6 : Int32) &&& 31)) &&& 7) ((w >>> ((3 : Int32) &&& 31)) &&& 7) (((vK σ 5 (ix 7)) + 1) &&& 255) = m_returns (vK (up2 σ 6 3 (((σ 6 3) + 1) &&& 255))) := by
    rw [vK_6_3]
    rfl
  rw [hk, hm]
  have J1 : JJ (up2 σ 6 3 (((σ 6 3) + 1) &&& 255)) := JJ_6_3 hJ (b8_and _)
  have A1 : AE (up2 σ 6 3 (((σ 6 3) + 1) &&& 255)) := hA
  have F1 : (up2 σ 6 3 (((σ 6 3) + 1) &&& 255)) 0 14 = 0 := hf
  have N1 : (up2 σ 6 3 (((σ 6 3) + 1) &&& 255)) 6 3 = (((σ 6 3) + 1) &&& 255) := rfl
  clear hk hm
  generalize (up2 σ 6 3 (((σ 6 3) + 1) &&& 255)) = σ1 at *
  have M1 := mm_e A1 F1
  have X1 : XX σ1 := ⟨J1, A1, Or.inl F1⟩
  exact retn J1 A1 F1
theorem perf_14 {σ : St} {w : Int32} (hJ : JJ σ) (hA : AE σ) (hf : σ 0 14 = 0) (ho : (w >>> ((12 : Int32) &&& 31)) = 14) : FM (kP σ w) (m_perform (vK σ) w) ∧ JJ (kP σ w) := by
  rw [mp_14 _ ho]
  rw [kP_k (ku_14 ho), mg_14]
  have hk : kQ σ w = up2 (up2 σ 6 3 (((σ 6 3) + 1) &&& 255)) 0 12 (((up2 σ 6 3 (((σ 6 3) + 1) &&& 255)) 0 12) ||| ((1 : Int32) <<< ((3 + ((w >>> ((3 : Int32) &&& 31)) &&& 3)) &&& 31))) := by
    unfold kQ k_changeFlow
    rw [ho]
    rfl
  have hm : m_perform_100 (vK σ) w 14 ((w >>> ((9 : Int32) &&& 31)) &&& 7) ((w >>> ((6 : Int32) &&& 31)) &&& 7) ((w >>> ((3 : Int32) &&& 31)) &&& 7) (((vK σ 5 (ix 7)) + 1) &&& 255) = up2 (vK (up2 σ 6 3 (((σ 6 3) + 1) &&& 255))) 0 12 (((vK (up2 σ 6 3 (((σ 6 3) + 1) &&& 255))) 0 12) ||| ((1 : Int32) <<< ((3 + (((w >>> ((3 : Int32) &&& 31)) &&& 7) - ((w >>> ((3 : Int32) &&& 31)) &&& 7) / 4 * 4)) &&& 31))) := by
    rw [vK_6_3]
    rfl
  rw [hk, hm]
  have J1 : JJ (up2 σ 6 3 (((σ 6 3) + 1) &&& 255)) := JJ_6_3 hJ (b8_and _)
  have A1 : AE (up2 σ 6 3 (((σ 6 3) + 1) &&& 255)) := hA
  have F1 : (up2 σ 6 3 (((σ 6 3) + 1) &&& 255)) 0 14 = 0 := hf
  have N1 : (up2 σ 6 3 (((σ 6 3) + 1) &&& 255)) 6 3 = (((σ 6 3) + 1) &&& 255) := rfl
  clear hk hm
  generalize (up2 σ 6 3 (((σ 6 3) + 1) &&& 255)) = σ1 at *
  have M1 := mm_e A1 F1
  have X1 : XX σ1 := ⟨J1, A1, Or.inl F1⟩
  rw [c4, show vK σ1 0 12 = σ1 0 12 from rfl, ← vK_0_12]
  exact ⟨Or.inl ⟨F1, rfl⟩, JJ_0 J1⟩
theorem perf_15 {σ : St} {w : Int32} (hJ : JJ σ) (hA : AE σ) (hf : σ 0 14 = 0) (ho : (w >>> ((12 : Int32) &&& 31)) = 15) : FM (kP σ w) (m_perform (vK σ) w) ∧ JJ (kP σ w) := by
  rw [mp_15 _ ho]
  by_cases h0 : ¬ σ 6 5 = 0
  · exact perf_u hJ hA hf (kw_15 ho h0) (mo_15 h0 (JJ_zo hJ))
  have h0 : σ 6 5 = 0 := Classical.byContradiction h0
  rw [kP_k (ku_15 ho h0), mg_15 h0 (JJ_zo hJ)]
  have hk : kQ σ w = up2 (up2 σ 6 3 (((σ 6 3) + 1) &&& 255)) 0 11 1 := by
    unfold kQ k_changeFlow
    rw [ho]
    rfl
  have hm : m_perform_100 (vK σ) w 15 ((w >>> ((9 : Int32) &&& 31)) &&& 7) ((w >>> ((6 : Int32) &&& 31)) &&& 7) ((w >>> ((3 : Int32) &&& 31)) &&& 7) (((vK σ 5 (ix 7)) + 1) &&& 255) = up2 (vK (up2 σ 6 3 (((σ 6 3) + 1) &&& 255))) 0 11 1 := by
    rw [vK_6_3]
    rfl
  rw [hk, hm]
  have J1 : JJ (up2 σ 6 3 (((σ 6 3) + 1) &&& 255)) := JJ_6_3 hJ (b8_and _)
  have A1 : AE (up2 σ 6 3 (((σ 6 3) + 1) &&& 255)) := hA
  have F1 : (up2 σ 6 3 (((σ 6 3) + 1) &&& 255)) 0 14 = 0 := hf
  have N1 : (up2 σ 6 3 (((σ 6 3) + 1) &&& 255)) 6 3 = (((σ 6 3) + 1) &&& 255) := rfl
  clear hk hm
  generalize (up2 σ 6 3 (((σ 6 3) + 1) &&& 255)) = σ1 at *
  have M1 := mm_e A1 F1
  have X1 : XX σ1 := ⟨J1, A1, Or.inl F1⟩
  rw [← vK_0_11]
  exact ⟨Or.inl ⟨F1, rfl⟩, JJ_0 J1⟩
theorem op_cases {w : Int32} (hw : wd w) : ∃ j : Nat, j < 16 ∧ (w >>> ((12 : Int32) &&& 31)) = nI j := by
  have e := nat_nI w
  have hw : w.toBitVec.toNat < 65536 := hw
  generalize w.toBitVec.toNat = n at *
  subst e
  refine ⟨n / 4096, by omega, ?_⟩
  exact pk_shrN (by omega) _ 12 (by decide)
theorem perf {σ : St} {w : Int32} (hJ : JJ σ) (hA : AE σ) (hf : σ 0 14 = 0) (hw : wd w) : FM (kP σ w) (m_perform (vK σ) w) ∧ JJ (kP σ w) := by
  obtain ⟨j, hj, ho⟩ := op_cases hw
  match j, hj, ho with
  | 0, _, ho => exact perf_0 hJ hA hf ho
  | 1, _, ho => exact perf_1 hJ hA hf ho
  | 2, _, ho => exact perf_2 hJ hA hf ho
  | 3, _, ho => exact perf_3 hJ hA hf ho
  | 4, _, ho => exact perf_4 hJ hA hf ho
  | 5, _, ho => exact perf_5 hJ hA hf ho
  | 6, _, ho => exact perf_6 hJ hA hf ho
  | 7, _, ho => exact perf_7 hJ hA hf ho
  | 8, _, ho => exact perf_8 hJ hA hf ho
  | 9, _, ho => exact perf_9 hJ hA hf ho
  | 10, _, ho => exact perf_10 hJ hA hf ho
  | 11, _, ho => exact perf_11 hJ hA hf ho
  | 12, _, ho => exact perf_12 hJ hA hf ho
  | 13, _, ho => exact perf_13 hJ hA hf ho
  | 14, _, ho => exact perf_14 hJ hA hf ho
  | 15, _, ho => exact perf_15 hJ hA hf ho
  | j + 16, hj, _ => exact absurd hj (by omega)
end
section
-- a fault's answer
theorem f69 (σ : St) : m_fault_69 σ = σ := rfl
theorem af67 (σ : St) : k_answerFault_67 σ = σ := rfl
theorem i145 (σ : St) : m_instruction_145 σ = σ := rfl
theorem s106 (σ : St) : k_step_106 σ = σ := rfl
theorem s90 (σ : St) : m_step_90 σ = σ := rfl
theorem mf57 (τ : St) (e : Int32) : m_fault_57 τ e = m_take τ e (τ 5 (ix 7)) := (bd_e rfl).trans (f69 _)
theorem ka62 (σ : St) (e : Int32) : k_answerFault_62 σ e = k_take σ e := (bd_e rfl).trans (af67 _)
theorem ka54 (σ : St) : k_answerFault_54 σ = up2 σ 0 11 2 := rfl
theorem fault_eq {f : Int32} {σ τ : St} (hf : f = 1 ∨ f = 2) (hD : DD f σ τ) (hJ : JJ σ) : m_fault τ = vK (k_answerFault σ) ∧ JJ (k_answerFault σ) := by
  have t14 : τ 0 14 = f := DD_f hD
  have t4 : τ 0 4 = σ 0 7 := by
    rw [hD.2.1]
    rfl
  obtain ⟨e, he, hm, hk⟩ : ∃ e : Int32, (e = 1 ∨ e = 2) ∧ m_fault τ = m_fault_23 τ e ∧ k_answerFault σ = k_answerFault_26 (k_copy_67 σ) e := by
    unfold m_fault m_fault_19 k_answerFault
    simp only [bd]
    rw [t14, t4, show (k_copy_67 σ) 0 7 = σ 0 7 from rfl, show (k_copy_67 σ) 0 14 = f from hD.1]
    by_cases h7 : σ 0 7 = 0
    · rw [if_pos h7, if_pos h7]
      refine ⟨1, Or.inl rfl, ?_, rfl⟩
      rcases hf with rfl | rfl <;> rfl
    · rw [if_neg h7, if_neg h7]
      refine ⟨f, hf, ?_, rfl⟩
      split <;> rfl
  rw [hm, hk]
  unfold m_fault_23
  simp only [bd]
  rw [back_eq hD]
  have hJ2 := JJ_bk hJ
  clear hm hk t14 t4 hD hJ
  generalize k_copy_67 σ = σ1 at *
  rw [show vK σ1 0 10 = σ1 6 6 from rfl]
  have hl : m_fault_49 (vK σ1) = vK (up2 σ1 0 11 2) ∧ JJ (up2 σ1 0 11 2) := ⟨by rw [vK_0_11]; rfl, JJ_0 hJ2⟩
  have ht : m_fault_57 (vK σ1) e = vK (k_take σ1 e) ∧ JJ (k_take σ1 e) := by
    rw [mf57]
    exact take_eq (RR_of σ1) hJ2 (by rcases he with rfl | rfl <;> decide)
  unfold k_answerFault_26
  rw [ka62, ka54]
  by_cases h1 : σ1 6 6 = 1
  · rw [if_pos h1, if_pos h1]
    exact hl
  · rw [if_neg h1, if_neg h1]
    by_cases h2 : σ1 6 6 = 2
    · rw [if_pos h2, if_pos h2]
      rcases he with rfl | rfl
      · exact ht
      · exact hl
    · rw [if_neg h2, if_neg h2]
      exact ht
theorem tail_eq {σ τ : St} (h : FM σ τ) (hJ : JJ σ) : m_instruction_134 τ = vK (k_step_95 σ) ∧ JJ (k_step_95 σ) := by
  unfold m_instruction_134 k_step_95
  rcases h with ⟨h1, rfl⟩ | ⟨f, hf, hD⟩
  · rw [if_pos h1, if_pos (show vK σ 0 14 = 0 from h1), i145, s106]
    exact ⟨rfl, hJ⟩
  · have hn : ¬ f = 0 := by rcases hf with rfl | rfl <;> decide
    rw [if_neg (show ¬ σ 0 14 = 0 by rw [hD.1]; exact hn), if_neg (show ¬ τ 0 14 = 0 by rw [DD_f hD]; exact hn), bd_e (y := m_fault τ) rfl, bd_e (y := k_answerFault σ) rfl, i145, s106]
    exact fault_eq hf hD hJ
-- the class's instruction
def kI (σ : St) : St :=
  bd (k_copy_76 σ) fun σ3 =>
  bd (up2 σ3 0 14 0) fun σ4 =>
  bd2 (k_fetch σ4) fun σ5 v6 =>
  if (σ5 0 14) = 0 then
    bd2 (k_isUnknown σ5 v6) fun σ15 v16 =>
    if v16 = 0 then
      k_step_53 σ15 v6
    else
      bd (up2 σ15 0 14 1) fun σ18 =>
      k_step_53 σ18 v6
  else
    k_step_53 σ5 v6
theorem iu1 (σ : St) (w : Int32) : (k_isUnknown σ w).1 = σ := by
  unfold k_isUnknown k_isUnknown_36 k_isUnknown_38 k_isUnknown_62 k_isUnknown_80 k_isUnknown_97 k_isUnknown_101 k_isUnknown_102
  repeat' (first | rfl | split)
theorem s53_0 {σ : St} {w : Int32} (hf : σ 0 14 = 0) : k_step_53 σ w = k_step_95 (kQ σ w) := by
  unfold k_step_53
  rw [if_pos hf]
  exact ite_F k_step_95 (k_changeFlow (k_goTo σ ((σ 6 3) + 1)) w) (k_moveData (k_goTo σ ((σ 6 3) + 1)) w)
theorem s53_n {σ : St} {w : Int32} (hf : ¬ σ 0 14 = 0) : k_step_53 σ w = k_step_95 σ := by
  unfold k_step_53
  rw [if_neg hf]
theorem kI_p {σ : St} {w : Int32} (hf : σ 0 14 = 0) : (bd2 (k_isUnknown σ w) fun σ15 v16 => if v16 = 0 then k_step_53 σ15 w else bd (up2 σ15 0 14 1) fun σ18 => k_step_53 σ18 w) = k_step_95 (kP σ w) := by
  unfold kP
  simp only [bd2, bd]
  rw [iu1]
  by_cases h : (k_isUnknown σ w).2 = 0
  · rw [if_pos h, if_pos h, s53_0 hf]
  · rw [if_neg h, if_neg h, s53_n (show ¬ (1 : Int32) = 0 by decide)]
theorem m54 (τ : St) (w k : Int32) : m_instruction_54 τ w k = m_instruction_55 τ w k 0 := rfl
theorem inst {σ τ : St} (hR : RR σ τ) (hJ : JJ σ) : m_instruction τ = vK (kI σ) ∧ JJ (kI σ) := by
  have hT : m_instruction τ = m_instruction τ := rfl
  have hT := hT.trans (bd_e (keep_eq hR).symm)
  have hE : kI σ = kI σ := rfl
  have hE := hE.trans (bd_e rfl)
  have J4 : JJ (up2 (k_copy_76 σ) 0 14 0) := JJ_0 (JJ_cp hJ)
  have A4 : AE (up2 (k_copy_76 σ) 0 14 0) := rfl
  have F4 : (up2 (k_copy_76 σ) 0 14 0) 0 14 = 0 := rfl
  obtain ⟨σ4, s4⟩ : ∃ z, z = up2 (k_copy_76 σ) 0 14 0 := ⟨_, rfl⟩
  have hE := hE.trans (bd_e s4)
  rw [← s4] at hT J4 A4 F4
  have hT := hT.trans (bd2_e (kat J4.1 (σ4 6 3)).symm)
  have hT := hT.trans (bd2_e (iow (JJ_zo J4)).symm)
  have hw : vK σ4 1 (ix (vK σ4 5 (ix 7))) = σ4 1 (ix ((σ4 6 3) &&& 255)) := by
    show σ4 1 (ix (σ4 6 3)) = _
    rw [b8_id (JJ_pc J4)]
  rw [hw] at hT
  have hF : k_fetch σ4 = if (σ4 6 5) = 0 then (if (σ4 2 (ix ((σ4 6 3) &&& 255))) = 1 then (bd (up2 σ4 0 14 2) fun σ10 => k_fetch_107 σ10 (σ4 1 (ix ((σ4 6 3) &&& 255)))) else k_fetch_107 σ4 (σ4 1 (ix ((σ4 6 3) &&& 255)))) else (if (σ4 2 (ix ((σ4 6 3) &&& 255))) = 2 then (if ((σ4 1 (ix ((σ4 6 3) &&& 255))) >>> ((12 : Int32) &&& 31)) = 10 then (bd (up2 σ4 6 5 0) fun σ7 => bd (up2 σ7 8 (ix 6) ((σ7 8 (ix 6)) ||| 32768)) fun σ8 => k_fetch_107 σ8 (σ4 1 (ix ((σ4 6 3) &&& 255)))) else k_fetch_97 σ4 (σ4 1 (ix ((σ4 6 3) &&& 255))) (σ4 2 (ix ((σ4 6 3) &&& 255)))) else k_fetch_97 σ4 (σ4 1 (ix ((σ4 6 3) &&& 255))) (σ4 2 (ix ((σ4 6 3) &&& 255)))) := rfl
  have ww : wd (σ4 1 (ix ((σ4 6 3) &&& 255))) := JJ_w J4 _
  generalize σ4 1 (ix ((σ4 6 3) &&& 255)) = w at *
  generalize σ4 2 (ix ((σ4 6 3) &&& 255)) = kn at *
  have fin_f : kI σ = k_step_95 (up2 σ4 0 14 2) → m_instruction τ = m_instruction_134 (m_speak (vK σ4) 2) → m_instruction τ = vK (kI σ) ∧ JJ (kI σ) := fun a b => by
    rw [a, b]
    exact tail_eq (fm_M (mm_f (mm_e A4 F4))) (JJ_0 J4)
  have fin_p : ∀ {σ5 : St}, JJ σ5 → AE σ5 → σ5 0 14 = 0 → kI σ = k_step_95 (kP σ5 w) → m_instruction τ = m_instruction_134 (m_perform (vK σ5) w) → m_instruction τ = vK (kI σ) ∧ JJ (kI σ) := fun J5 A5 F5 a b => by
    rw [a, b]
    obtain ⟨c, d⟩ := perf J5 A5 F5 ww
    exact tail_eq c d
  have kf : ∀ {σ5 : St}, k_fetch σ4 = (σ5, w) → σ5 0 14 = 0 → kI σ = k_step_95 (kP σ5 w) := fun a b => by
    have hE := hE.trans (bd2_e a.symm)
    have hE := hE.trans (if_pos b)
    exact hE.trans (kI_p b)
  have kb : k_fetch σ4 = (up2 σ4 0 14 2, w) → kI σ = k_step_95 (up2 σ4 0 14 2) := fun a => by
    have hE := hE.trans (bd2_e a.symm)
    have hE := hE.trans (if_neg (show ¬ (2 : Int32) = 0 by decide))
    exact hE.trans (s53_n (show ¬ (2 : Int32) = 0 by decide))
  by_cases h0 : σ4 6 5 = 0
  · have hT := hT.trans (if_pos h0)
    have hT := hT.trans (m54 _ _ _)
    have hT := hT.trans (bd2_e (iow (JJ_zo J4)).symm)
    have hT := hT.trans (if_pos h0)
    have hF := hF.trans (if_pos h0)
    by_cases h1 : kn = 1
    · have hT := hT.trans (if_pos h1)
      have hF := hF.trans (if_pos h1)
      exact fin_f (kb hF) hT
    · have hT := hT.trans (if_neg h1)
      have hF := hF.trans (if_neg h1)
      exact fin_p J4 A4 F4 (kf hF F4) hT
  · have hT := hT.trans (if_neg h0)
    have hF := hF.trans (if_neg h0)
    by_cases h2 : kn = 2
    · have hT := hT.trans (if_pos h2)
      have hF := hF.trans (if_pos h2)
      have n1 : ¬ kn = 1 := by rw [h2]; decide
      by_cases h3 : (w >>> ((12 : Int32) &&& 31)) = 10
      · have hT := hT.trans (if_pos h3)
        have hF := hF.trans (if_pos h3)
        have hT := hT.trans (bd2_e (iow (JJ_zo J4)).symm)
        have hT := hT.trans (if_neg h0)
        have hT := hT.trans (if_neg n1)
        have hF : k_fetch σ4 = (up2 (up2 σ4 6 5 0) 8 (ix 6) ((σ4 8 (ix 6)) ||| 32768), w) := hF
        have hT : m_instruction τ = m_instruction_134 (m_perform (up2 (up2 (vK σ4) 5 11 0) 5 (ix 6) ((σ4 8 (ix 6)) ||| 32768)) w) := hT
        rw [← vK_6_5, ← vK_8 (show ix 6 < 7 by decide)] at hT
        exact fin_p (JJ_8 (JJ_6_5 J4 (by decide)) (wd_or (JJ_r J4 _))) A4 F4 (kf hF F4) hT
      · have hT := hT.trans (if_neg h3)
        have hF := hF.trans (if_neg h3)
        have hT := hT.trans (m54 _ _ _)
        have hT := hT.trans (bd2_e (iow (JJ_zo J4)).symm)
        have hT := hT.trans (if_neg h0)
        have hT := hT.trans (if_neg n1)
        have hF := hF.trans (if_neg n1)
        exact fin_f (kb hF) hT
    · have hT := hT.trans (if_neg h2)
      have hF := hF.trans (if_neg h2)
      have hT := hT.trans (m54 _ _ _)
      have hT := hT.trans (bd2_e (iow (JJ_zo J4)).symm)
      have hT := hT.trans (if_neg h0)
      by_cases h1 : kn = 1
      · have hT := hT.trans (if_pos h1)
        have hF := hF.trans (if_pos h1)
        exact fin_p J4 A4 F4 (kf hF F4) hT
      · have hT := hT.trans (if_neg h1)
        have hF := hF.trans (if_neg h1)
        exact fin_f (kb hF) hT
theorem k_step_split (σ : St) : k_step σ = if (k_takePending σ) 0 11 = 0 then kI (k_takePending σ) else k_takePending σ := rfl
theorem step_at {σ τ : St} (hR : RR σ τ) (hJ : JJ σ) : RR (if σ 0 11 = 0 then kI σ else σ) (m_step_79 τ) ∧ JJ (if σ 0 11 = 0 then kI σ else σ) := by
  have e11 : τ 0 11 = σ 0 11 := by
    rw [hR.1 0 (by decide)]
    rfl
  unfold m_step_79
  rw [e11]
  by_cases h : σ 0 11 = 0
  · rw [if_pos h, if_pos h]
    obtain ⟨a, b⟩ := inst hR hJ
    rw [bd_e (y := m_instruction τ) rfl, s90, a]
    exact ⟨RR_of _, b⟩
  · rw [if_neg h, if_neg h, s90]
    exact ⟨hR, hJ⟩
theorem step_eq {σ τ : St} (hR : RR σ τ) (hJ : JJ σ) : RR (k_step σ) (m_step τ) ∧ JJ (k_step σ) := by
  have h12 : τ 0 12 = σ 0 12 := by
    rw [hR.1 0 (by decide)]
    rfl
  have h10 : τ 0 10 = σ 6 6 := by
    rw [hR.1 0 (by decide)]
    rfl
  rw [k_step_split]
  rcases pend_eq h12 h10 hJ with ⟨a, b⟩ | ⟨e, he, a, b⟩
  · rw [a, b]
    exact step_at hR hJ
  · rw [a, b]
    obtain ⟨c, d⟩ := take_eq (e := e) (RR_up hR (vK_0_12 (v := (σ 0 12) &&& (((1 : Int32) <<< (e &&& 31)) ^^^ (-1)))) (by decide)) (JJ_0 hJ) he
    rw [c]
    exact step_at (RR_of _) d
end
section
-- the public calls: the same answer, and the relation again
def PP (x y : St × Int32) : Prop := x.2 = y.2 ∧ RR x.1 y.1 ∧ JJ x.1
theorem eq_poke {σ τ : St} (hR : RR σ τ) (hJ : JJ σ) (a v : Int32) : PP (k_poke σ a v) (m_poke τ a v) := by
  refine ⟨?_, RR_up hR vK_1 (by decide), JJ_1 hJ (wd_and _)⟩
  show σ 1 _ = τ 1 _
  rw [hR.1 1 (by decide)]
  rfl
theorem eq_word {σ τ : St} (hR : RR σ τ) (hJ : JJ σ) (a : Int32) : PP (k_word σ a) (m_word τ a) := by
  refine ⟨?_, hR, hJ⟩
  show σ 1 _ = τ 1 _
  rw [hR.1 1 (by decide)]
  rfl
theorem eq_kind {σ τ : St} (hR : RR σ τ) (hJ : JJ σ) (a : Int32) : PP (k_kind σ a) (m_kind τ a) := by
  have e : m_kind τ a = (τ, kof (τ 2) (τ 3) (τ 4) (a &&& 255)) := by
    unfold m_kind
    rw [mk]
    rfl
  rw [e, hR.1 2 (by decide), hR.1 3 (by decide), hR.1 4 (by decide)]
  refine ⟨?_, hR, hJ⟩
  show σ 2 (ix (a &&& 255)) = kof (σ 3) (σ 4) (σ 5) (a &&& 255)
  have h : (a &&& 255).toBitVec.toNat < 256 := and_lt a 255 (by decide)
  rw [wd_ix (Nat.lt_trans h (by decide)), hJ.1 _ h, ← nat_nI]
theorem lt7 {a : Int32} (h1 : ¬ a < 0) (h2 : a ≤ 6) : ix a < 7 := by
  obtain ⟨j, hj, rfl⟩ := nI_of2 (M := 6) (n := 6) (by decide) h1 h2
  have : ix (nI j) = j := nI_clamp (by omega)
  omega
theorem eq_set {σ τ : St} (hR : RR σ τ) (hJ : JJ σ) (a v : Int32) : PP (k_set σ a v) (m_set τ a v) := by
  unfold k_set m_set
  by_cases h1 : a < 0
  · rw [if_pos h1, if_pos h1]
    exact ⟨rfl, hR, hJ⟩
  · rw [if_neg h1, if_neg h1]
    by_cases h2 : a ≤ 6
    · rw [if_pos h2, if_pos h2]
      exact ⟨rfl, RR_up hR (vK_8 (lt7 h1 h2)) (by decide), JJ_8 hJ (wd_and _)⟩
    · rw [if_neg h2, if_neg h2]
      exact ⟨rfl, hR, hJ⟩
theorem eq_interrupt {σ τ : St} (hR : RR σ τ) (hJ : JJ σ) (a : Int32) : PP (k_interrupt σ a) (m_interrupt τ a) := by
  have h12 : τ 0 12 = σ 0 12 := by
    rw [hR.1 0 (by decide)]
    rfl
  unfold k_interrupt m_interrupt
  rw [h12]
  by_cases h1 : a < 3
  · rw [if_pos h1, if_pos h1]
    exact ⟨rfl, hR, hJ⟩
  · rw [if_neg h1, if_neg h1]
    by_cases h2 : a ≤ 6
    · rw [if_pos h2, if_pos h2]
      exact ⟨rfl, RR_up hR vK_0_12 (by decide), JJ_0 hJ⟩
    · rw [if_neg h2, if_neg h2]
      exact ⟨rfl, hR, hJ⟩
theorem ib_t {σ : St} {a : Int32} (h1 : ¬ a < 0) (h2 : a ≤ 31) : k_isBase σ a = (σ, 1) := by
  unfold k_isBase
  rw [if_neg h1, if_neg (Int32.not_lt.mpr h2)]
  rfl
theorem ib_f {σ : St} {a : Int32} (h : a < 0 ∨ ¬ a ≤ 31) : k_isBase σ a = (σ, 0) := by
  unfold k_isBase
  by_cases h1 : a < 0
  · rw [if_pos h1]
    rfl
  · rw [if_neg h1, if_pos (Int32.not_le.mp (h.resolve_left h1))]
    rfl
theorem eq_settings {σ τ : St} (hR : RR σ τ) (hJ : JJ σ) (a b c d : Int32) : PP (k_settings σ a b c d) (m_settings τ a b c d) := by
  unfold k_settings m_settings
  by_cases h1 : b < 0
  · rw [if_pos h1, if_pos h1]
    exact ⟨rfl, hR, hJ⟩
  rw [if_neg h1, if_neg h1]
  by_cases h2 : 15 < b
  · rw [if_pos h2, if_pos h2]
    exact ⟨rfl, hR, hJ⟩
  rw [if_neg h2, if_neg h2]
  by_cases h3 : c < 0
  · rw [if_pos h3, bd2_e (ib_f (Or.inl h3)).symm]
    exact ⟨rfl, hR, hJ⟩
  rw [if_neg h3]
  by_cases h4 : 31 < c
  · rw [if_pos h4, bd2_e (ib_f (Or.inr (Int32.not_le.mpr h4))).symm]
    exact ⟨rfl, hR, hJ⟩
  rw [if_neg h4, bd2_e (ib_t h3 (Int32.not_lt.mp h4)).symm, if_neg (by decide)]
  by_cases h5 : d < 0
  · rw [if_pos h5, bd2_e (ib_f (Or.inl h5)).symm]
    exact ⟨rfl, hR, hJ⟩
  rw [if_neg h5]
  by_cases h6 : d ≤ 31
  · rw [if_pos h6, bd2_e (ib_t h5 h6).symm, if_neg (by decide)]
    exact ⟨rfl, RR_up (RR_up (RR_up (RR_up hR vK_0_7 (by decide)) vK_0_8 (by decide)) vK_0_9 (by decide)) vK_0_10 (by decide), hJ⟩
  · rw [if_neg h6, bd2_e (ib_f (Or.inr h6)).symm]
    exact ⟨rfl, hR, hJ⟩
theorem n255 {a : Int32} : 255 < a ↔ 256 ≤ a := by
  rw [Int32.lt_iff_toInt_lt, Int32.le_iff_toInt_le]
  have e1 : (255 : Int32).toInt = 255 := by decide
  have e2 : (256 : Int32).toInt = 256 := by decide
  omega
theorem n3 {a : Int32} : 3 < a ↔ 4 ≤ a := by
  rw [Int32.lt_iff_toInt_lt, Int32.le_iff_toInt_le]
  have e1 : (3 : Int32).toInt = 3 := by decide
  have e2 : (4 : Int32).toInt = 4 := by decide
  omega
theorem ia_t {σ : St} {a : Int32} (h1 : ¬ a < 0) (h2 : ¬ 256 ≤ a) : k_isAddress σ a = (σ, 1) := by
  unfold k_isAddress
  rw [if_neg h1, if_neg h2]
  rfl
theorem ia_f {σ : St} {a : Int32} (h : a < 0 ∨ 256 ≤ a) : k_isAddress σ a = (σ, 0) := by
  unfold k_isAddress
  by_cases h1 : a < 0
  · rw [if_pos h1]
    rfl
  · rw [if_neg h1, if_pos (h.resolve_left h1)]
    rfl
theorem ja_t {σ : St} {a : Int32} (h1 : ¬ a < 0) (h2 : ¬ 256 ≤ a) : m_isAddress σ a = (σ, 1) := by
  unfold m_isAddress
  rw [if_neg h1, if_neg (fun z => h2 (n255.mp z))]
  rfl
theorem ja_f {σ : St} {a : Int32} (h : a < 0 ∨ 256 ≤ a) : m_isAddress σ a = (σ, 0) := by
  unfold m_isAddress
  by_cases h1 : a < 0
  · rw [if_pos h1]
    rfl
  · rw [if_neg h1, if_pos (n255.mpr (h.resolve_left h1))]
    rfl
theorem b8_of {a : Int32} (h1 : ¬ a < 0) (h2 : ¬ 256 ≤ a) : b8 a := by
  obtain ⟨j, hj, rfl⟩ := nI_of h1
  have a2 : ¬ nI 256 ≤ nI j := h2
  rw [nI_leI (by decide) hj] at a2
  show (nI j).toBitVec.toNat < 256
  rw [nI_nat (by omega)]
  omega
theorem eq_begin {σ τ : St} (hR : RR σ τ) (hJ : JJ σ) (a b c d : Int32) (hb : zb b) : PP (k_begin σ a b c d) (m_begin τ a b c d) := by
  unfold k_begin m_begin
  by_cases h : a < 0 ∨ 256 ≤ a
  · rw [bd2_e (ia_f h).symm, bd2_e (ja_f h).symm]
    exact ⟨rfl, hR, hJ⟩
  have h1 : ¬ a < 0 := fun z => h (Or.inl z)
  have h2 : ¬ 256 ≤ a := fun z => h (Or.inr z)
  rw [bd2_e (ia_t h1 h2).symm, bd2_e (ja_t h1 h2).symm, if_neg (by decide), if_neg (by decide)]
  have e : (bd (up2 τ 5 (ix 7) a) fun σ4 => if b = 0 then m_begin_32_11 σ4 c d 0 else m_begin_32_11 σ4 c d 1) = (up2 (up2 (up2 (up2 (up2 (up2 (up2 τ 5 7 a) 5 11 b) 5 8 (c &&& 65535)) 5 9 (d &&& 65535)) 0 10 0) 0 11 0) 0 12 0, 1) := by
    rw [up2_comm (c := 0) (c' := 0) (k := 10) (k' := 11) (Or.inr (by decide))]
    rcases hb with rfl | rfl <;> rfl
  rw [e]
  have e2 : (bd (up2 σ 6 3 a) fun σ4 => bd (up2 σ4 6 5 b) fun σ5 => bd (up2 σ5 6 1 (c &&& 65535)) fun σ6 => bd (up2 σ6 6 2 (d &&& 65535)) fun σ7 => bd (up2 σ7 6 6 0) fun σ8 => bd (up2 σ8 0 11 0) fun σ9 => bd (up2 σ9 0 12 0) fun σ10 => (σ10, (1 : Int32))) = (up2 (up2 (up2 (up2 (up2 (up2 (up2 σ 6 3 a) 6 5 b) 6 1 (c &&& 65535)) 6 2 (d &&& 65535)) 6 6 0) 0 11 0) 0 12 0, 1) := rfl
  rw [e2]
  exact ⟨rfl, RR_up (RR_up (RR_up (RR_up (RR_up (RR_up (RR_up hR vK_6_3 (by decide)) vK_6_5 (by decide)) vK_6_1 (by decide)) vK_6_2 (by decide)) vK_6_6 (by decide)) vK_0_11 (by decide)) vK_0_12 (by decide), JJ_0 (JJ_0 (JJ_6_6 (JJ_6_2 (JJ_6_1 (JJ_6_5 (JJ_6_3 hJ (b8_of h1 h2)) hb) (wd_and _)) (wd_and _)) (by decide)))⟩
end
section
-- region
def k2 (σ : St) (i : Nat) : St := fun c => if c = 2 then (fun j => if i ≤ j ∧ j < 256 then kof (σ 3) (σ 4) (σ 5) (nI j) else σ 2 j) else σ c
theorem reg63 : ∀ (f i : Nat) (σ : St), i + f = 256 → k_region_63 f σ (nI i) = (k2 σ i, 1) := by
  intro f
  induction f with
  | zero =>
    intro i σ hi
    have e : k2 σ i = σ := by
      funext c j
      unfold k2
      by_cases hc : c = 2
      · subst hc
        simp only [if_true]
        rw [if_neg (by omega)]
      · rw [if_neg hc]
    rw [e]
    rfl
  | succ f ih =>
    intro i σ hi
    have e : k_region_63 (f + 1) σ (nI i) = k_region_63 f (up2 σ 2 (ix (nI i)) (kof (σ 3) (σ 4) (σ 5) (nI i))) (nI i + 1) := by
      show (bd2 (k_kindByRegions σ (nI i)) fun σ1 v2 => bd (up2 σ1 2 (ix (nI i)) v2) fun σ3 => k_region_63 f σ3 (nI i + 1)) = _
      rw [kk]
      rfl
    rw [e, nI_1, show ix (nI i) = i from nI_clamp (by omega), ih (i + 1) _ (by omega)]
    congr 1
    funext c j
    unfold k2
    by_cases hc : c = 2
    · subst hc
      simp only [if_true]
      by_cases hj : j = i
      · subst hj
        rw [if_neg (by omega), if_pos (by omega)]
        exact up2_at
      · have h4 : up2 σ 2 i (kof (σ 3) (σ 4) (σ 5) (nI i)) 2 j = σ 2 j := up2_k hj
        by_cases h : i + 1 ≤ j ∧ j < 256
        · rw [if_pos h, if_pos (by omega)]
          rfl
        · rw [if_neg h, if_neg (by omega)]
          exact h4
    · rw [if_neg hc, if_neg hc]
      exact congrFun (up2_c hc) j
theorem reg0 (n : Nat) (hn : 0 + n = 256) (σ : St) : k_region_63 n σ 0 = (k2 σ 0, 1) := by
  have h := reg63 n 0 σ hn
  rw [nI_0] at h
  exact h
theorem regb (n : Nat) (hn : 0 + n = 256) (σ : St) (i : Nat) (b c d : Int32) : (bd (up2 σ 3 i b) fun σ11 => bd (up2 σ11 4 i c) fun σ12 => bd (up2 σ12 5 i d) fun σ13 => k_region_63 n σ13 0) = (k2 (up2 (up2 (up2 σ 3 i b) 4 i c) 5 i d) 0, 1) := by
  rw [bd_e (y := up2 σ 3 i b) rfl, bd_e (y := up2 (up2 σ 3 i b) 4 i c) rfl, bd_e (y := up2 (up2 (up2 σ 3 i b) 4 i c) 5 i d) rfl]
  exact reg0 n hn _
theorem eq_region {σ τ : St} (hR : RR σ τ) (hJ : JJ σ) (a b c d : Int32) : PP (k_region σ a b c d) (m_region τ a b c d) := by
  unfold k_region m_region
  by_cases h1 : a < 0
  · rw [if_pos h1, if_pos h1]
    exact ⟨rfl, hR, hJ⟩
  rw [if_neg h1, if_neg h1]
  by_cases h2 : 4 ≤ a
  · rw [if_pos h2, if_pos (n3.mpr h2)]
    exact ⟨rfl, hR, hJ⟩
  rw [if_neg h2, if_neg (fun z => h2 (n3.mp z))]
  by_cases h3 : d < 0
  · rw [if_pos h3, if_pos h3]
    exact ⟨rfl, hR, hJ⟩
  rw [if_neg h3, if_neg h3]
  by_cases h4 : d ≤ 2
  · rw [if_pos h4, if_neg (Int32.not_lt.mpr h4)]
    by_cases g1 : b < 0 ∨ 256 ≤ b
    · rw [bd2_e (ia_f g1).symm, bd2_e (ja_f g1).symm]
      exact ⟨rfl, hR, hJ⟩
    have g1 : ¬ b < 0 ∧ ¬ 256 ≤ b := ⟨fun z => g1 (Or.inl z), fun z => g1 (Or.inr z)⟩
    rw [bd2_e (ia_t g1.1 g1.2).symm, bd2_e (ja_t g1.1 g1.2).symm, if_neg (by decide), if_neg (by decide)]
    by_cases g2 : c < 0 ∨ 256 ≤ c
    · rw [bd2_e (ia_f g2).symm, bd2_e (ja_f g2).symm]
      exact ⟨rfl, hR, hJ⟩
    have g2 : ¬ c < 0 ∧ ¬ 256 ≤ c := ⟨fun z => g2 (Or.inl z), fun z => g2 (Or.inr z)⟩
    rw [bd2_e (ia_t g2.1 g2.2).symm, bd2_e (ja_t g2.1 g2.2).symm, if_neg (by decide), if_neg (by decide)]
    rw [regb 256 rfl σ (ix a) b c d]
    have e3 : (bd (up2 τ 2 (ix a) b) fun σ11 => bd (up2 σ11 3 (ix a) c) fun σ12 => bd (up2 σ12 4 (ix a) d) fun σ13 => (σ13, (1 : Int32))) = (up2 (up2 (up2 τ 2 (ix a) b) 3 (ix a) c) 4 (ix a) d, 1) := rfl
    rw [e3]
    refine ⟨rfl, ?_, ?_⟩
    · have r1 := RR_up (c := 3) (k := ix a) (v := b) hR (show vK (up2 σ 3 (ix a) b) = up2 (vK σ) 2 (ix a) b from st_ext rfl rfl rfl rfl rfl rfl rfl (fun _ => rfl)) (by decide)
      have r2 := RR_up (c := 4) (k := ix a) (v := c) r1 (show vK (up2 (up2 σ 3 (ix a) b) 4 (ix a) c) = up2 (vK (up2 σ 3 (ix a) b)) 3 (ix a) c from st_ext rfl rfl rfl rfl rfl rfl rfl (fun _ => rfl)) (by decide)
      have r3 := RR_up (c := 5) (k := ix a) (v := d) r2 (show vK (up2 (up2 (up2 σ 3 (ix a) b) 4 (ix a) c) 5 (ix a) d) = up2 (vK (up2 (up2 σ 3 (ix a) b) 4 (ix a) c)) 4 (ix a) d from st_ext rfl rfl rfl rfl rfl rfl rfl (fun _ => rfl)) (by decide)
      have e4 : vK (k2 (up2 (up2 (up2 σ 3 (ix a) b) 4 (ix a) c) 5 (ix a) d) 0) = vK (up2 (up2 (up2 σ 3 (ix a) b) 4 (ix a) c) 5 (ix a) d) := st_ext rfl rfl rfl rfl rfl rfl rfl (fun _ => rfl)
      exact ⟨fun z hz => (r3.1 z hz).trans (congrFun e4.symm z), r3.2⟩
    · refine ⟨fun j hj => ?_, hJ.2⟩
      show (if 0 ≤ j ∧ j < 256 then _ else _) = _
      rw [if_pos ⟨Nat.zero_le _, hj⟩]
      rfl
  · rw [if_neg h4, if_pos (Int32.not_le.mp h4)]
    exact ⟨rfl, hR, hJ⟩
end
section
-- register
theorem kr_0 {σ : St} : (k_register σ 0).2 = σ 8 (ix 0) := by
  unfold k_register
  rw [if_neg (by decide), if_neg (by decide)]
theorem mr_0 {τ : St} : (m_register τ 0).2 = τ 5 (ix 0) := by
  unfold m_register
  rw [if_neg (by decide), if_pos (by decide), if_neg (by decide)]
theorem kr_1 {σ : St} : (k_register σ 1).2 = σ 8 (ix 1) := by
  unfold k_register
  rw [if_neg (by decide), if_neg (by decide)]
theorem mr_1 {τ : St} : (m_register τ 1).2 = τ 5 (ix 1) := by
  unfold m_register
  rw [if_neg (by decide), if_pos (by decide), if_neg (by decide)]
theorem kr_2 {σ : St} : (k_register σ 2).2 = σ 8 (ix 2) := by
  unfold k_register
  rw [if_neg (by decide), if_neg (by decide)]
theorem mr_2 {τ : St} : (m_register τ 2).2 = τ 5 (ix 2) := by
  unfold m_register
  rw [if_neg (by decide), if_pos (by decide), if_neg (by decide)]
theorem kr_3 {σ : St} : (k_register σ 3).2 = σ 8 (ix 3) := by
  unfold k_register
  rw [if_neg (by decide), if_neg (by decide)]
theorem mr_3 {τ : St} : (m_register τ 3).2 = τ 5 (ix 3) := by
  unfold m_register
  rw [if_neg (by decide), if_pos (by decide), if_neg (by decide)]
theorem kr_4 {σ : St} : (k_register σ 4).2 = σ 8 (ix 4) := by
  unfold k_register
  rw [if_neg (by decide), if_neg (by decide)]
theorem mr_4 {τ : St} : (m_register τ 4).2 = τ 5 (ix 4) := by
  unfold m_register
  rw [if_neg (by decide), if_pos (by decide), if_neg (by decide)]
theorem kr_5 {σ : St} : (k_register σ 5).2 = σ 8 (ix 5) := by
  unfold k_register
  rw [if_neg (by decide), if_neg (by decide)]
theorem mr_5 {τ : St} : (m_register τ 5).2 = τ 5 (ix 5) := by
  unfold m_register
  rw [if_neg (by decide), if_pos (by decide), if_neg (by decide)]
theorem kr_6 {σ : St} : (k_register σ 6).2 = σ 8 (ix 6) := by
  unfold k_register
  rw [if_neg (by decide), if_neg (by decide)]
theorem mr_6 {τ : St} : (m_register τ 6).2 = τ 5 (ix 6) := by
  unfold m_register
  rw [if_neg (by decide), if_pos (by decide), if_neg (by decide)]
theorem kr_7 {σ : St} : (k_register σ 7).2 = σ 6 3 := by
  unfold k_register k_register_20
  rw [if_neg (by decide), if_pos (by decide), if_pos rfl]
theorem mr_7 {τ : St} : (m_register τ 7).2 = τ 5 (ix 7) := by
  unfold m_register
  rw [if_neg (by decide), if_pos (by decide), if_neg (by decide)]
theorem kr_8 {σ : St} : (k_register σ 8).2 = σ 6 1 := by
  unfold k_register k_register_20
  rw [if_neg (by decide), if_pos (by decide), if_neg (by decide), if_pos rfl]
theorem mr_8 {τ : St} : (m_register τ 8).2 = τ 5 (ix 8) := by
  unfold m_register
  rw [if_neg (by decide), if_pos (by decide), if_neg (by decide)]
theorem kr_9 {σ : St} : (k_register σ 9).2 = σ 6 2 := by
  unfold k_register k_register_20
  rw [if_neg (by decide), if_pos (by decide), if_neg (by decide), if_neg (by decide), if_pos rfl]
theorem mr_9 {τ : St} : (m_register τ 9).2 = τ 5 (ix 9) := by
  unfold m_register
  rw [if_neg (by decide), if_pos (by decide), if_neg (by decide)]
theorem kr_10 {σ : St} (h : zb (σ 6 4)) : (k_register σ 10).2 = σ 6 4 := by
  unfold k_register k_register_20 k_register_111
  rw [if_neg (by decide), if_pos (by decide), if_neg (by decide), if_neg (by decide), if_neg (by decide), if_pos rfl]
  rcases h with z | z <;> rw [z] <;> rfl
theorem mr_10 {τ : St} : (m_register τ 10).2 = τ 5 (ix 10) := by
  unfold m_register
  rw [if_neg (by decide), if_pos (by decide), if_neg (by decide)]
theorem kr_11 {σ : St} (h : zb (σ 6 5)) : (k_register σ 11).2 = σ 6 5 := by
  unfold k_register k_register_20 k_register_127
  rw [if_neg (by decide), if_pos (by decide), if_neg (by decide), if_neg (by decide), if_neg (by decide), if_neg (by decide), if_pos rfl]
  rcases h with z | z <;> rw [z] <;> rfl
theorem mr_11 {τ : St} : (m_register τ 11).2 = τ 5 (ix 11) := by
  unfold m_register
  rw [if_neg (by decide), if_pos (by decide), if_neg (by decide)]
theorem kr_12 {σ : St} : (k_register σ 12).2 = σ 6 6 := by
  unfold k_register k_register_20
  rw [if_neg (by decide), if_pos (by decide), if_neg (by decide), if_neg (by decide), if_neg (by decide), if_neg (by decide), if_neg (by decide), if_pos rfl]
theorem mr_12 {τ : St} : (m_register τ 12).2 = τ 0 10 := by
  unfold m_register m_register_68
  rw [if_neg (by decide), if_pos (by decide), if_pos (by decide), if_pos rfl]
theorem kr_13 {σ : St} : (k_register σ 13).2 = σ 0 11 := by
  unfold k_register k_register_20
  rw [if_neg (by decide), if_pos (by decide), if_neg (by decide), if_neg (by decide), if_neg (by decide), if_neg (by decide), if_neg (by decide), if_neg (by decide), if_pos rfl]
theorem mr_13 {τ : St} : (m_register τ 13).2 = τ 0 11 := by
  unfold m_register m_register_68
  rw [if_neg (by decide), if_pos (by decide), if_pos (by decide), if_neg (by decide), if_pos rfl]
theorem kr_14 {σ : St} : (k_register σ 14).2 = σ 0 12 := by
  unfold k_register k_register_20
  rw [if_neg (by decide), if_pos (by decide), if_neg (by decide), if_neg (by decide), if_neg (by decide), if_neg (by decide), if_neg (by decide), if_neg (by decide), if_neg (by decide), if_pos rfl]
theorem mr_14 {τ : St} : (m_register τ 14).2 = τ 0 12 := by
  unfold m_register m_register_68
  rw [if_neg (by decide), if_pos (by decide), if_pos (by decide), if_neg (by decide), if_neg (by decide), if_pos rfl]
theorem kr_15 {σ : St} : (k_register σ 15).2 = σ 0 13 := by
  unfold k_register k_register_20
  rw [if_neg (by decide), if_pos (by decide), if_neg (by decide), if_neg (by decide), if_neg (by decide), if_neg (by decide), if_neg (by decide), if_neg (by decide), if_neg (by decide), if_neg (by decide), if_pos rfl]
theorem mr_15 {τ : St} : (m_register τ 15).2 = τ 0 13 := by
  unfold m_register m_register_68
  rw [if_neg (by decide), if_pos (by decide), if_pos (by decide), if_neg (by decide), if_neg (by decide), if_neg (by decide)]
theorem reg_f (j : Nat) (hj : j < 16) {σ τ : St} (hR : RR σ τ) (hJ : JJ σ) : (k_register σ (nI j)).2 = (m_register τ (nI j)).2 := by
  have h5 : τ 5 = rg (σ 6) (σ 8) := hR.1 5 (by decide)
  have h0 : τ 0 = v0 σ (σ 6 6) := hR.1 0 (by decide)
  match j, hj with
  | 0, _ => exact kr_0.trans ((congrFun h5 0).symm.trans mr_0.symm)
  | 1, _ => exact kr_1.trans ((congrFun h5 1).symm.trans mr_1.symm)
  | 2, _ => exact kr_2.trans ((congrFun h5 2).symm.trans mr_2.symm)
  | 3, _ => exact kr_3.trans ((congrFun h5 3).symm.trans mr_3.symm)
  | 4, _ => exact kr_4.trans ((congrFun h5 4).symm.trans mr_4.symm)
  | 5, _ => exact kr_5.trans ((congrFun h5 5).symm.trans mr_5.symm)
  | 6, _ => exact kr_6.trans ((congrFun h5 6).symm.trans mr_6.symm)
  | 7, _ => exact kr_7.trans ((congrFun h5 7).symm.trans mr_7.symm)
  | 8, _ => exact kr_8.trans ((congrFun h5 8).symm.trans mr_8.symm)
  | 9, _ => exact kr_9.trans ((congrFun h5 9).symm.trans mr_9.symm)
  | 10, _ => exact (kr_10 (JJ_zz hJ)).trans ((congrFun h5 10).symm.trans mr_10.symm)
  | 11, _ => exact (kr_11 (JJ_zo hJ)).trans ((congrFun h5 11).symm.trans mr_11.symm)
  | 12, _ => exact kr_12.trans ((congrFun h0 10).symm.trans mr_12.symm)
  | 13, _ => exact kr_13.trans ((congrFun h0 11).symm.trans mr_13.symm)
  | 14, _ => exact kr_14.trans ((congrFun h0 12).symm.trans mr_14.symm)
  | 15, _ => exact kr_15.trans ((congrFun h0 13).symm.trans mr_15.symm)
  | j + 16, hj => exact absurd hj (by omega)
theorem k_reg1 (σ : St) (a : Int32) : (k_register σ a).1 = σ := by
  unfold k_register k_register_20 k_register_111 k_register_127
  repeat' (first | rfl | split)
theorem m_reg1 (σ : St) (a : Int32) : (m_register σ a).1 = σ := by
  unfold m_register m_register_10 m_register_68
  repeat' (first | rfl | split)
theorem eq_register {σ τ : St} (hR : RR σ τ) (hJ : JJ σ) (a : Int32) : PP (k_register σ a) (m_register τ a) := by
  refine ⟨?_, by rw [k_reg1, m_reg1]; exact hR, by rw [k_reg1]; exact hJ⟩
  by_cases h1 : a < 0
  · have e : (m_register τ a).2 = -1 := by
      unfold m_register
      rw [if_pos h1]
      rfl
    have n : ∀ k : Int32, ¬ k < 0 → ¬ a = k := fun k hk z => hk (z ▸ h1)
    rw [e]
    unfold k_register k_register_20
    rw [if_pos h1, if_neg (n 7 (by decide)), if_neg (n 8 (by decide)), if_neg (n 9 (by decide)), if_neg (n 10 (by decide)), if_neg (n 11 (by decide)), if_neg (n 12 (by decide)), if_neg (n 13 (by decide)), if_neg (n 14 (by decide)), if_neg (n 15 (by decide))]
  · by_cases h2 : a ≤ 15
    · obtain ⟨j, hj, rfl⟩ := nI_of2 (M := 15) (n := 15) (by decide) h1 h2
      exact reg_f j (by omega) hR hJ
    · have e : (m_register τ a).2 = -1 := by
        unfold m_register
        rw [if_neg h1, if_neg h2]
        rfl
      have n : ∀ k : Int32, k ≤ 15 → ¬ a = k := fun k hk z => h2 (z ▸ hk)
      have h6 : (6 : Int32) < a := by
        have := Int32.lt_iff_toInt_lt.mp (Int32.not_le.mp h2)
        rw [Int32.lt_iff_toInt_lt]
        have e1 : (15 : Int32).toInt = 15 := by decide
        have e2 : (6 : Int32).toInt = 6 := by decide
        omega
      rw [e]
      unfold k_register k_register_20
      rw [if_neg h1, if_pos h6, if_neg (n 7 (by decide)), if_neg (n 8 (by decide)), if_neg (n 9 (by decide)), if_neg (n 10 (by decide)), if_neg (n 11 (by decide)), if_neg (n 12 (by decide)), if_neg (n 13 (by decide)), if_neg (n 14 (by decide)), if_neg (n 15 (by decide))]
end
section
-- run
theorem itr_s (f : St → St) (j : Nat) (σ : St) : itr f (j + 1) σ = itr f j (f σ) := rfl
theorem kr_s (f : Nat) (σ : St) (x : Int32) : k_run_15 (f + 1) σ x = if (σ 0 11) = 0 then bd (k_step σ) fun σ1 => k_run_15 f σ1 (x + 1) else (σ, x) := rfl
theorem mr_s (f : Nat) (σ : St) (x : Int32) : m_run_15 (f + 1) σ x = if (σ 0 11) = 0 then bd (m_step σ) fun σ1 => m_run_15 f σ1 (x + 1) else (σ, x) := rfl
theorem run_n : ∀ (f : Nat) (σ τ : St) (x : Int32), RR σ τ → JJ σ → PP (k_run_15 f σ x) (m_run_15 f τ x) := by
  intro f
  induction f with
  | zero => exact fun σ τ x hR hJ => ⟨rfl, hR, hJ⟩
  | succ f ih =>
    intro σ τ x hR hJ
    have e11 : τ 0 11 = σ 0 11 := by
      rw [hR.1 0 (by decide)]
      rfl
    rw [kr_s, mr_s, e11]
    by_cases h : σ 0 11 = 0
    · rw [if_pos h, if_pos h]
      obtain ⟨a, b⟩ := step_eq hR hJ
      rw [bd_e (y := k_step σ) rfl, bd_e (y := m_step τ) rfl]
      exact ih (k_step σ) (m_step τ) (x + 1) a b
    · rw [if_neg h, if_neg h]
      exact ⟨rfl, hR, hJ⟩
theorem eq_run {σ τ : St} (hR : RR σ τ) (hJ : JJ σ) (a : Int32) : PP (k_run σ a) (m_run τ a) := by
  unfold k_run m_run
  by_cases h1 : a < 0
  · rw [if_pos h1, if_pos h1]
    exact ⟨rfl, hR, hJ⟩
  rw [if_neg h1, if_neg h1]
  by_cases h2 : a ≤ 200
  · rw [if_pos h2, if_pos h2]
    exact run_n _ _ _ _ hR hJ
  · rw [if_neg h2, if_neg h2]
    exact ⟨rfl, hR, hJ⟩
theorem it_J : ∀ (j : Nat) (σ τ : St), RR σ τ → JJ σ → RR (itr k_step j σ) (itr m_step j τ) ∧ JJ (itr k_step j σ) := by
  intro j
  induction j with
  | zero => exact fun σ τ hR hJ => ⟨hR, hJ⟩
  | succ j ih =>
    intro σ τ hR hJ
    rw [itr_s, itr_s]
    exact ih (k_step σ) (m_step τ) (step_eq hR hJ).1 (step_eq hR hJ).2
theorem act_J {σ : St} (h : JJ σ) : actOK σ := by
  have h6 := JJ_ac h
  show bt0 (σ 6 6) 7
  rcases h6 with z | z | z | z | z | z | z <;> rw [z] <;> decide
theorem pc_J {σ τ : St} (hR : RR σ τ) (h : JJ σ) : pcOK τ := by
  show vp_in (τ 5 (ix 7)) 256
  have e : τ 5 (ix 7) = σ 6 3 := by
    rw [hR.1 5 (by decide)]
    rfl
  have h3 : b8 (σ 6 3) := JJ_pc h
  rw [e, nat_nI (σ 6 3)]
  exact vp_in_nI h3 (by decide)
end
section
theorem fv (x : Int64) (n : Nat) (hn : n ≤ 48) (s1 : UInt64) (h1 : (s1.toBitVec % 64).toNat = n) (s2 : Int64) (h2 : (s2.toBitVec.smod 64).toNat = n) : (x.toUInt64 >>> s1).toInt64.toInt32 &&& 65535 = ((x >>> s2) &&& 65535).toInt32 := by
  have e1 : (x.toUInt64 >>> s1).toInt64.toBitVec = x.toBitVec >>> n := by
    rw [← h1]
    exact UInt64.toBitVec_shiftRight _ _
  have e2 : (x >>> s2).toBitVec = x.toBitVec.sshiftRight n := by
    rw [← h2]
    rfl
  apply Int32.toBitVec_inj.mp
  rw [Int32.toBitVec_and, Int64.toBitVec_toInt32, Int64.toBitVec_toInt32, Int64.toBitVec_and, e1, e2]
  apply BitVec.eq_of_getLsbD_eq
  intro i hi
  have m32 : ∀ j : Fin 32, ((65535 : Int32).toBitVec).getLsbD j.val = decide (j.val < 16) := by decide
  have m64 : ∀ j : Fin 32, ((65535 : Int64).toBitVec).getLsbD j.val = decide (j.val < 16) := by decide
  have a : ((65535 : Int32).toBitVec).getLsbD i = decide (i < 16) := m32 ⟨i, hi⟩
  have b : ((65535 : Int64).toBitVec).getLsbD i = decide (i < 16) := m64 ⟨i, hi⟩
  rw [BitVec.getLsbD_and, a, BitVec.getLsbD_signExtend, BitVec.getLsbD_signExtend, BitVec.getLsbD_and, b, BitVec.getLsbD_ushiftRight, BitVec.getLsbD_sshiftRight]
  by_cases h : i < 16
  · simp [h, hi, show i < 64 by omega, show n + i < 64 by omega, show ¬ 64 ≤ i by omega]
  · simp [h, hi, show i < 64 by omega]
theorem eq_fill {σ τ : St} (hR : RR σ τ) (hJ : JJ σ) (a : Int32) (x : Int64) : PP (k_fill σ a x) (m_fill τ a x) := by
  unfold k_fill m_fill
  by_cases h1 : a < 0
  · rw [if_pos h1, if_pos h1]
    exact ⟨rfl, hR, hJ⟩
  rw [if_neg h1, if_neg h1]
  by_cases h2 : a ≤ 252
  · rw [if_pos h2, if_pos h2]
    have f0 : (((x.toUInt64 >>> (((16 * 0) : Int32).toInt64.toUInt64 &&& Int64.toUInt64 63)).toInt64 : Int64).toInt32 &&& 65535) = (((x >>> (((16 * 0) : Int32).toInt64 &&& 63)) &&& 65535) : Int64).toInt32 := fv x 0 (by decide) _ (by decide) _ (by decide)
    have f1 : (((x.toUInt64 >>> (((16 * 1) : Int32).toInt64.toUInt64 &&& Int64.toUInt64 63)).toInt64 : Int64).toInt32 &&& 65535) = (((x >>> (((16 * 1) : Int32).toInt64 &&& 63)) &&& 65535) : Int64).toInt32 := fv x 16 (by decide) _ (by decide) _ (by decide)
    have f2 : (((x.toUInt64 >>> (((16 * 2) : Int32).toInt64.toUInt64 &&& Int64.toUInt64 63)).toInt64 : Int64).toInt32 &&& 65535) = (((x >>> (((16 * 2) : Int32).toInt64 &&& 63)) &&& 65535) : Int64).toInt32 := fv x 32 (by decide) _ (by decide) _ (by decide)
    have f3 : (((x.toUInt64 >>> (((16 * 3) : Int32).toInt64.toUInt64 &&& Int64.toUInt64 63)).toInt64 : Int64).toInt32 &&& 65535) = (((x >>> (((16 * 3) : Int32).toInt64 &&& 63)) &&& 65535) : Int64).toInt32 := fv x 48 (by decide) _ (by decide) _ (by decide)
    have ek : k_fill_16_0 σ a x = (up2 (up2 (up2 (up2 σ 1 (ix (a + 0)) (((x.toUInt64 >>> (((16 * 0) : Int32).toInt64.toUInt64 &&& Int64.toUInt64 63)).toInt64 : Int64).toInt32 &&& 65535)) 1 (ix (a + 1)) (((x.toUInt64 >>> (((16 * 1) : Int32).toInt64.toUInt64 &&& Int64.toUInt64 63)).toInt64 : Int64).toInt32 &&& 65535)) 1 (ix (a + 2)) (((x.toUInt64 >>> (((16 * 2) : Int32).toInt64.toUInt64 &&& Int64.toUInt64 63)).toInt64 : Int64).toInt32 &&& 65535)) 1 (ix (a + 3)) (((x.toUInt64 >>> (((16 * 3) : Int32).toInt64.toUInt64 &&& Int64.toUInt64 63)).toInt64 : Int64).toInt32 &&& 65535), 1) := rfl
    have em : m_fill_16_0 τ a x = (up2 (up2 (up2 (up2 τ 1 (ix (a + 0)) ((((x >>> (((16 * 0) : Int32).toInt64 &&& 63)) &&& 65535) : Int64).toInt32)) 1 (ix (a + 1)) ((((x >>> (((16 * 1) : Int32).toInt64 &&& 63)) &&& 65535) : Int64).toInt32)) 1 (ix (a + 2)) ((((x >>> (((16 * 2) : Int32).toInt64 &&& 63)) &&& 65535) : Int64).toInt32)) 1 (ix (a + 3)) ((((x >>> (((16 * 3) : Int32).toInt64 &&& 63)) &&& 65535) : Int64).toInt32), 1) := rfl
    rw [ek, em, ← f0, ← f1, ← f2, ← f3]
    exact ⟨rfl, RR_up (RR_up (RR_up (RR_up hR vK_1 (by decide)) vK_1 (by decide)) vK_1 (by decide)) vK_1 (by decide), JJ_1 (JJ_1 (JJ_1 (JJ_1 hJ (wd_and _)) (wd_and _)) (wd_and _)) (wd_and _)⟩
  · rw [if_neg h2, if_neg h2]
    exact ⟨rfl, hR, hJ⟩
end
section
-- the reference's PC stays in 0 .. 255 over a taking
theorem pc_u0 {σ σ' : St} {k : Nat} {v : Int32} (e : σ' = up2 σ 0 k v) (h : pcOK σ) : pcOK σ' := by
  subst e
  exact h
theorem pc_m_keep {σ σ' : St} (e : σ' = m_keep σ) (h : pcOK σ) : pcOK σ' := by
  subst e
  exact h
theorem mmu1 (τ : St) (a : Int32) : (m_mayUse τ a).1 = τ := by
  unfold m_mayUse m_isOpenWorld m_isOpenWorld_16 m_mayUse_16 m_mayUse_21
  simp only [bd2, mk]
  repeat' (first | rfl | split)
theorem mwr56 (τ : St) (a v : Int32) : (m_write τ a v) 5 = τ 5 ∧ (m_write τ a v) 6 = τ 6 := by
  unfold m_write m_write_38 m_speak m_speak_12
  simp only [bd2, bd, mmu1]
  repeat' (first | exact ⟨rfl, rfl⟩ | split)
end
section
theorem mst1 (τ : St) : m_stack τ = (τ, 8) ∨ m_stack τ = (τ, 9) := by
  unfold m_stack m_isOpenWorld m_isOpenWorld_16 m_stack_14
  simp only [bd2]
  repeat' (first | exact Or.inl rfl | exact Or.inr rfl | split)
theorem mpu56 (τ : St) (v : Int32) : (m_push τ v) 5 (ix 7) = τ 5 (ix 7) ∧ (m_push τ v) 6 = τ 6 := by
  unfold m_push
  rcases mst1 τ with h | h
  · simp only [bd2, bd, h]
    rw [(mwr56 _ _ _).1, (mwr56 _ _ _).2]
    exact ⟨rfl, rfl⟩
  · simp only [bd2, bd, h]
    rw [(mwr56 _ _ _).1, (mwr56 _ _ _).2]
    exact ⟨rfl, rfl⟩
end
section
theorem mfr56 (τ : St) (b : Int32) : (mfr τ b) 5 (ix 7) = τ 5 (ix 7) ∧ (mfr τ b) 6 = τ 6 := by
  have hM : mfr τ b = mfr τ b := rfl
  obtain ⟨τ1, t1⟩ : ∃ z, z = m_push τ (b) := ⟨_, rfl⟩
  have hM := hM.trans (bd_e t1)
  have g1 := mpu56 τ (b)
  rw [← t1] at g1
  obtain ⟨τ2, t2⟩ : ∃ z, z = m_push τ1 (τ1 5 (ix 10)) := ⟨_, rfl⟩
  have hM := hM.trans (bd_e t2)
  have g2 := mpu56 τ1 (τ1 5 (ix 10))
  rw [← t2] at g2
  obtain ⟨τ3, t3⟩ : ∃ z, z = m_push τ2 (τ2 5 (ix 6)) := ⟨_, rfl⟩
  have hM := hM.trans (bd_e t3)
  have g3 := mpu56 τ2 (τ2 5 (ix 6))
  rw [← t3] at g3
  obtain ⟨τ4, t4⟩ : ∃ z, z = m_push τ3 (τ3 5 (ix 0)) := ⟨_, rfl⟩
  have hM := hM.trans (bd_e t4)
  have g4 := mpu56 τ3 (τ3 5 (ix 0))
  rw [← t4] at g4
  obtain ⟨τ5, t5⟩ : ∃ z, z = m_push τ4 (τ4 5 (ix 1)) := ⟨_, rfl⟩
  have hM := hM.trans (bd_e t5)
  have g5 := mpu56 τ4 (τ4 5 (ix 1))
  rw [← t5] at g5
  obtain ⟨τ6, t6⟩ : ∃ z, z = m_push τ5 (τ5 5 (ix 2)) := ⟨_, rfl⟩
  have hM := hM.trans (bd_e t6)
  have g6 := mpu56 τ5 (τ5 5 (ix 2))
  rw [← t6] at g6
  obtain ⟨τ7, t7⟩ : ∃ z, z = m_push τ6 (τ6 5 (ix 3)) := ⟨_, rfl⟩
  have hM := hM.trans (bd_e t7)
  have g7 := mpu56 τ6 (τ6 5 (ix 3))
  rw [← t7] at g7
  obtain ⟨τ8, t8⟩ : ∃ z, z = m_push τ7 (τ7 5 (ix 4)) := ⟨_, rfl⟩
  have hM := hM.trans (bd_e t8)
  have g8 := mpu56 τ7 (τ7 5 (ix 4))
  rw [← t8] at g8
  obtain ⟨τ9, t9⟩ : ∃ z, z = m_push τ8 (τ8 5 (ix 5)) := ⟨_, rfl⟩
  have hM := hM.trans (bd_e t9)
  have g9 := mpu56 τ8 (τ8 5 (ix 5))
  rw [← t9] at g9
  have g10 := mpu56 τ9 (1000 + τ9 0 10)
  have hM : mfr τ b = m_push τ9 (1000 + τ9 0 10) := hM
  rw [hM]
  exact ⟨g10.1.trans (g9.1.trans (g8.1.trans (g7.1.trans (g6.1.trans (g5.1.trans (g4.1.trans (g3.1.trans (g2.1.trans g1.1)))))))), g10.2.trans (g9.2.trans (g8.2.trans (g7.2.trans (g6.2.trans (g5.2.trans (g4.2.trans (g3.2.trans (g2.2.trans g1.2))))))))⟩
end
section
theorem pc226e (τ : St) (x y : Int32) : m_take_226_8_7 τ x y = up2 (up2 (up2 τ 5 (ix 7) ((τ 1 (ix (((8 * y) + x) &&& 255))) &&& 255)) 0 10 x) 0 13 x := rfl
theorem pc226 (τ : St) (x y : Int32) : pcOK (m_take_226_8_7 τ x y) := by
  rw [pc226e]
  generalize τ 1 (ix (((8 * y) + x) &&& 255)) = z
  show vp_in ((up2 τ 5 (ix 7) (z &&& 255)) 5 (ix 7)) 256
  rw [up2_at]
  exact vin_m 8 (by decide) (by decide) (by decide)
theorem pc197 (τ : St) (x z y : Int32) : pcOK (m_take_197_11 τ x z y) := by
  unfold m_take_197_11
  rw [bd_e (y := up2 τ 5 (ix 11) y) rfl]
  by_cases h : z = 0
  · rw [if_pos h]
    exact pc226 _ _ _
  · rw [if_neg h]
    exact pc226 _ _ _
theorem pc181 (τ : St) (x z : Int32) : pcOK (m_take_181 τ x z) := by
  unfold m_take_181
  by_cases h : z = 0
  · rw [if_pos h]
    exact pc197 _ _ _ _
  · rw [if_neg h]
    exact pc197 _ _ _ _
end
section
theorem pc164 (τ : St) (x y z : Int32) : pcOK (m_take_164 τ x y z) := by
  unfold m_take_164
  by_cases h : y = 0
  · rw [if_pos h]
    exact pc181 _ _ _
  · rw [if_neg h]
    by_cases h2 : z = 0
    · rw [if_pos h2, bd_e (y := up2 τ 5 (ix 10) 0) rfl]
      exact pc181 _ _ _
    · rw [if_neg h2]
      exact pc181 _ _ _
theorem pc134_6 (τ : St) (x y z : Int32) : pcOK (m_take_134_6 τ x y z) := by
  unfold m_take_134_6
  exact pc164 _ _ _ _
theorem pc134_5 (τ : St) (x y z : Int32) : pcOK (m_take_134_5 τ x y z) := by
  unfold m_take_134_5
  by_cases h : y = 0
  · rw [if_pos h]
    exact pc164 _ _ _ _
  · rw [if_neg h]
    by_cases h2 : z = 0
    · rw [if_pos h2, bd_e (y := up2 τ 5 (ix 5) 0) rfl]
      exact pc134_6 _ _ _ _
    · rw [if_neg h2]
      exact pc164 _ _ _ _
theorem pc134_4 (τ : St) (x y z : Int32) : pcOK (m_take_134_4 τ x y z) := by
  unfold m_take_134_4
  by_cases h : y = 0
  · rw [if_pos h]
    exact pc164 _ _ _ _
  · rw [if_neg h]
    by_cases h2 : z = 0
    · rw [if_pos h2, bd_e (y := up2 τ 5 (ix 4) 0) rfl]
      exact pc134_5 _ _ _ _
    · rw [if_neg h2]
      exact pc164 _ _ _ _
theorem pc134_3 (τ : St) (x y z : Int32) : pcOK (m_take_134_3 τ x y z) := by
  unfold m_take_134_3
  by_cases h : y = 0
  · rw [if_pos h]
    exact pc164 _ _ _ _
  · rw [if_neg h]
    by_cases h2 : z = 0
    · rw [if_pos h2, bd_e (y := up2 τ 5 (ix 3) 0) rfl]
      exact pc134_4 _ _ _ _
    · rw [if_neg h2]
      exact pc164 _ _ _ _
theorem pc134_2 (τ : St) (x y z : Int32) : pcOK (m_take_134_2 τ x y z) := by
  unfold m_take_134_2
  by_cases h : y = 0
  · rw [if_pos h]
    exact pc164 _ _ _ _
  · rw [if_neg h]
    by_cases h2 : z = 0
    · rw [if_pos h2, bd_e (y := up2 τ 5 (ix 2) 0) rfl]
      exact pc134_3 _ _ _ _
    · rw [if_neg h2]
      exact pc164 _ _ _ _
theorem pc134_1 (τ : St) (x y z : Int32) : pcOK (m_take_134_1 τ x y z) := by
  unfold m_take_134_1
  by_cases h : y = 0
  · rw [if_pos h]
    exact pc164 _ _ _ _
  · rw [if_neg h]
    by_cases h2 : z = 0
    · rw [if_pos h2, bd_e (y := up2 τ 5 (ix 1) 0) rfl]
      exact pc134_2 _ _ _ _
    · rw [if_neg h2]
      exact pc164 _ _ _ _
theorem pc134_0 (τ : St) (x y z : Int32) : pcOK (m_take_134_0 τ x y z) := by
  unfold m_take_134_0
  by_cases h : y = 0
  · rw [if_pos h]
    exact pc164 _ _ _ _
  · rw [if_neg h]
    by_cases h2 : z = 0
    · rw [if_pos h2, bd_e (y := up2 τ 5 (ix 0) 0) rfl]
      exact pc134_1 _ _ _ _
    · rw [if_neg h2]
      exact pc164 _ _ _ _
theorem pc129 (τ : St) (x y z a b : Int32) : pcOK (m_take_129_6 τ x y z a b) := by
  unfold m_take_129_6
  rw [bd_e (y := up2 τ 5 (ix 6) (b + a)) rfl]
  exact pc134_0 _ _ _ _
theorem pc96 (τ : St) (x y : Int32) : pcOK (m_take_96 τ x y) := by
  unfold m_take_96
  obtain ⟨τ1, v1, t1⟩ : ∃ (p : St) (q : Int32), (p, q) = m_isClosedOne τ x := ⟨_, _, rfl⟩
  rw [bd2_e t1]
  by_cases h : y = 0
  · rw [if_pos h]
    exact pc129 _ _ _ _ _ _
  · rw [if_neg h]
    exact pc129 _ _ _ _ _ _
theorem pc_mrest {τ : St} {x : Int32} (h : vp_in (τ 6 7) 256) : pcOK (mrest τ x) := by
  unfold mrest
  by_cases hf : τ 0 14 = 0
  · rw [if_pos hf]
    obtain ⟨τ1, v1, t1⟩ : ∃ (p : St) (q : Int32), (p, q) = m_isOpenWorld τ := ⟨_, _, rfl⟩
    rw [bd2_e t1]
    by_cases h2 : v1 = 0
    · rw [if_pos h2]
      exact pc96 _ _ _
    · rw [if_neg h2]
      exact pc96 _ _ _
  · rw [if_neg hf]
    have e2 : m_takeBack τ 5 (ix 7) = τ 6 7 := by
      rw [back5]
      rfl
    obtain ⟨τ2, t2⟩ : ∃ z, z = m_takeBack τ := ⟨_, rfl⟩
    rw [← t2] at e2
    rw [bd_e t2]
    have e3 : (up2 τ2 0 11 2) 5 (ix 7) = τ 6 7 := e2
    have e4 : (bd (up2 τ2 0 11 2) fun σ62 => σ62) = up2 τ2 0 11 2 := rfl
    rw [e4]
    show vp_in ((up2 τ2 0 11 2) 5 (ix 7)) 256
    rw [e3]
    exact h
end
section
theorem pc_m_take {σ σ' : St} {x b : Int32} (e : σ' = m_take σ x b) (h : pcOK σ) : pcOK σ' := by
  have g := (mfr56 (m_keep σ) b).2
  have e1 : m_keep σ 6 7 = σ 5 7 := by
    rw [keep6]
    rfl
  have h2 : vp_in ((mfr (m_keep σ) b) 6 7) 256 := by
    rw [g, e1]
    exact h
  have key : pcOK (mrest (mfr (m_keep σ) b) x) := pc_mrest h2
  have e2 : σ' = mrest (mfr (m_keep σ) b) x := e.trans (m_take_split σ x b)
  clear e
  obtain ⟨τ, t⟩ : ∃ z, z = mrest (mfr (m_keep σ) b) x := ⟨_, rfl⟩
  rw [← t] at key e2
  rw [e2]
  exact key
end
section
theorem dK_init_0 : decode cK_init 0 = .ok (.aload_n 0, 1) := by decide +kernel
theorem dK_init_1 : decode cK_init 1 = .ok (.invokespecial 1, 3) := by decide +kernel
theorem dK_init_4 : decode cK_init 4 = .ok (.aload_n 0, 1) := by decide +kernel
theorem dK_init_5 : decode cK_init 5 = .ok (.sipush 256, 3) := by decide +kernel
theorem dK_init_8 : decode cK_init 8 = .ok (.newarray .int, 2) := by decide +kernel
theorem dK_init_10 : decode cK_init 10 = .ok (.putfield 9, 3) := by decide +kernel
theorem dK_init_13 : decode cK_init 13 = .ok (.aload_n 0, 1) := by decide +kernel
theorem dK_init_14 : decode cK_init 14 = .ok (.sipush 256, 3) := by decide +kernel
theorem dK_init_17 : decode cK_init 17 = .ok (.newarray .int, 2) := by decide +kernel
theorem dK_init_19 : decode cK_init 19 = .ok (.putfield 13, 3) := by decide +kernel
theorem dK_init_22 : decode cK_init 22 = .ok (.aload_n 0, 1) := by decide +kernel
theorem dK_init_23 : decode cK_init 23 = .ok (.iconst 4, 1) := by decide +kernel
theorem dK_init_24 : decode cK_init 24 = .ok (.newarray .int, 2) := by decide +kernel
theorem dK_init_26 : decode cK_init 26 = .ok (.putfield 16, 3) := by decide +kernel
theorem dK_init_29 : decode cK_init 29 = .ok (.aload_n 0, 1) := by decide +kernel
theorem dK_init_30 : decode cK_init 30 = .ok (.iconst 4, 1) := by decide +kernel
theorem dK_init_31 : decode cK_init 31 = .ok (.newarray .int, 2) := by decide +kernel
theorem dK_init_33 : decode cK_init 33 = .ok (.putfield 19, 3) := by decide +kernel
theorem dK_init_36 : decode cK_init 36 = .ok (.aload_n 0, 1) := by decide +kernel
theorem dK_init_37 : decode cK_init 37 = .ok (.iconst 4, 1) := by decide +kernel
theorem dK_init_38 : decode cK_init 38 = .ok (.newarray .int, 2) := by decide +kernel
theorem dK_init_40 : decode cK_init 40 = .ok (.putfield 22, 3) := by decide +kernel
theorem dK_init_43 : decode cK_init 43 = .ok (.aload_n 0, 1) := by decide +kernel
theorem dK_init_44 : decode cK_init 44 = .ok (.new 25, 3) := by decide +kernel
theorem dK_init_47 : decode cK_init 47 = .ok (.dup, 1) := by decide +kernel
theorem dK_init_48 : decode cK_init 48 = .ok (.invokespecial 27, 3) := by decide +kernel
theorem dK_init_51 : decode cK_init 51 = .ok (.putfield 28, 3) := by decide +kernel
theorem dK_init_54 : decode cK_init 54 = .ok (.aload_n 0, 1) := by decide +kernel
theorem dK_init_55 : decode cK_init 55 = .ok (.new 25, 3) := by decide +kernel
theorem dK_init_58 : decode cK_init 58 = .ok (.dup, 1) := by decide +kernel
theorem dK_init_59 : decode cK_init 59 = .ok (.invokespecial 27, 3) := by decide +kernel
theorem dK_init_62 : decode cK_init 62 = .ok (.putfield 32, 3) := by decide +kernel
theorem dK_init_65 : decode cK_init 65 = .ok (.aload_n 0, 1) := by decide +kernel
theorem dK_init_66 : decode cK_init 66 = .ok (.iconst 1, 1) := by decide +kernel
theorem dK_init_67 : decode cK_init 67 = .ok (.putfield 35, 3) := by decide +kernel
theorem dK_init_70 : decode cK_init 70 = .ok (.return_, 1) := by decide +kernel
theorem dK_poke_0 : decode cK_poke 0 = .ok (.iload_n 1, 1) := by decide +kernel
theorem dK_poke_1 : decode cK_poke 1 = .ok (.sipush 255, 3) := by decide +kernel
theorem dK_poke_4 : decode cK_poke 4 = .ok (.iand, 1) := by decide +kernel
theorem dK_poke_5 : decode cK_poke 5 = .ok (.istore_n 3, 1) := by decide +kernel
theorem dK_poke_6 : decode cK_poke 6 = .ok (.aload_n 0, 1) := by decide +kernel
theorem dK_poke_7 : decode cK_poke 7 = .ok (.getfield 9, 3) := by decide +kernel
theorem dK_poke_10 : decode cK_poke 10 = .ok (.iload_n 3, 1) := by decide +kernel
theorem dK_poke_11 : decode cK_poke 11 = .ok (.iaload, 1) := by decide +kernel
theorem dK_poke_12 : decode cK_poke 12 = .ok (.istore 4, 2) := by decide +kernel
theorem dK_poke_14 : decode cK_poke 14 = .ok (.aload_n 0, 1) := by decide +kernel
theorem dK_poke_15 : decode cK_poke 15 = .ok (.getfield 9, 3) := by decide +kernel
theorem dK_poke_18 : decode cK_poke 18 = .ok (.iload_n 3, 1) := by decide +kernel
theorem dK_poke_19 : decode cK_poke 19 = .ok (.iload_n 2, 1) := by decide +kernel
theorem dK_poke_20 : decode cK_poke 20 = .ok (.ldc 39, 2) := by decide +kernel
theorem dK_poke_22 : decode cK_poke 22 = .ok (.iand, 1) := by decide +kernel
theorem dK_poke_23 : decode cK_poke 23 = .ok (.iastore, 1) := by decide +kernel
theorem dK_poke_24 : decode cK_poke 24 = .ok (.iload 4, 2) := by decide +kernel
theorem dK_poke_26 : decode cK_poke 26 = .ok (.ireturn, 1) := by decide +kernel
theorem dK_fill_0 : decode cK_fill 0 = .ok (.iload_n 1, 1) := by decide +kernel
theorem dK_fill_1 : decode cK_fill 1 = .ok (.ifCond .lt 10, 3) := by decide +kernel
theorem dK_fill_4 : decode cK_fill 4 = .ok (.iload_n 1, 1) := by decide +kernel
theorem dK_fill_5 : decode cK_fill 5 = .ok (.sipush 252, 3) := by decide +kernel
theorem dK_fill_8 : decode cK_fill 8 = .ok (.if_icmp .le 5, 3) := by decide +kernel
theorem dK_fill_11 : decode cK_fill 11 = .ok (.iconst 0, 1) := by decide +kernel
theorem dK_fill_12 : decode cK_fill 12 = .ok (.ireturn, 1) := by decide +kernel
theorem dK_fill_13 : decode cK_fill 13 = .ok (.iconst 0, 1) := by decide +kernel
theorem dK_fill_14 : decode cK_fill 14 = .ok (.istore 4, 2) := by decide +kernel
theorem dK_fill_16 : decode cK_fill 16 = .ok (.iload 4, 2) := by decide +kernel
theorem dK_fill_18 : decode cK_fill 18 = .ok (.iconst 4, 1) := by decide +kernel
theorem dK_fill_19 : decode cK_fill 19 = .ok (.if_icmp .ge 29, 3) := by decide +kernel
theorem dK_fill_22 : decode cK_fill 22 = .ok (.aload_n 0, 1) := by decide +kernel
theorem dK_fill_23 : decode cK_fill 23 = .ok (.getfield 9, 3) := by decide +kernel
theorem dK_fill_26 : decode cK_fill 26 = .ok (.iload_n 1, 1) := by decide +kernel
theorem dK_fill_27 : decode cK_fill 27 = .ok (.iload 4, 2) := by decide +kernel
theorem dK_fill_29 : decode cK_fill 29 = .ok (.iadd, 1) := by decide +kernel
theorem dK_fill_30 : decode cK_fill 30 = .ok (.lload_n 2, 1) := by decide +kernel
theorem dK_fill_31 : decode cK_fill 31 = .ok (.bipush 16, 2) := by decide +kernel
theorem dK_fill_33 : decode cK_fill 33 = .ok (.iload 4, 2) := by decide +kernel
theorem dK_fill_35 : decode cK_fill 35 = .ok (.imul, 1) := by decide +kernel
theorem dK_fill_36 : decode cK_fill 36 = .ok (.lushr, 1) := by decide +kernel
theorem dK_fill_37 : decode cK_fill 37 = .ok (.l2i, 1) := by decide +kernel
theorem dK_fill_38 : decode cK_fill 38 = .ok (.ldc 39, 2) := by decide +kernel
theorem dK_fill_40 : decode cK_fill 40 = .ok (.iand, 1) := by decide +kernel
theorem dK_fill_41 : decode cK_fill 41 = .ok (.iastore, 1) := by decide +kernel
theorem dK_fill_42 : decode cK_fill 42 = .ok (.iinc 4 1, 3) := by decide +kernel
theorem dK_fill_45 : decode cK_fill 45 = .ok (.goto (-29), 3) := by decide +kernel
theorem dK_fill_48 : decode cK_fill 48 = .ok (.iconst 1, 1) := by decide +kernel
theorem dK_fill_49 : decode cK_fill 49 = .ok (.ireturn, 1) := by decide +kernel
theorem dK_region_0 : decode cK_region 0 = .ok (.iload_n 1, 1) := by decide +kernel
theorem dK_region_1 : decode cK_region 1 = .ok (.ifCond .lt 19, 3) := by decide +kernel
theorem dK_region_4 : decode cK_region 4 = .ok (.iload_n 1, 1) := by decide +kernel
theorem dK_region_5 : decode cK_region 5 = .ok (.iconst 4, 1) := by decide +kernel
theorem dK_region_6 : decode cK_region 6 = .ok (.if_icmp .ge 14, 3) := by decide +kernel
theorem dK_region_9 : decode cK_region 9 = .ok (.iload 4, 2) := by decide +kernel
theorem dK_region_11 : decode cK_region 11 = .ok (.ifCond .lt 9, 3) := by decide +kernel
theorem dK_region_14 : decode cK_region 14 = .ok (.iload 4, 2) := by decide +kernel
theorem dK_region_16 : decode cK_region 16 = .ok (.iconst 2, 1) := by decide +kernel
theorem dK_region_17 : decode cK_region 17 = .ok (.if_icmp .le 5, 3) := by decide +kernel
theorem dK_region_20 : decode cK_region 20 = .ok (.iconst 0, 1) := by decide +kernel
theorem dK_region_21 : decode cK_region 21 = .ok (.ireturn, 1) := by decide +kernel
theorem dK_region_22 : decode cK_region 22 = .ok (.iload_n 2, 1) := by decide +kernel
theorem dK_region_23 : decode cK_region 23 = .ok (.invokestatic 40, 3) := by decide +kernel
theorem dK_region_26 : decode cK_region 26 = .ok (.ifCond .eq 10, 3) := by decide +kernel
theorem dK_region_29 : decode cK_region 29 = .ok (.iload_n 3, 1) := by decide +kernel
theorem dK_region_30 : decode cK_region 30 = .ok (.invokestatic 40, 3) := by decide +kernel
theorem dK_region_33 : decode cK_region 33 = .ok (.ifCond .ne 5, 3) := by decide +kernel
theorem dK_region_36 : decode cK_region 36 = .ok (.iconst 0, 1) := by decide +kernel
theorem dK_region_37 : decode cK_region 37 = .ok (.ireturn, 1) := by decide +kernel
theorem dK_region_38 : decode cK_region 38 = .ok (.aload_n 0, 1) := by decide +kernel
theorem dK_region_39 : decode cK_region 39 = .ok (.getfield 16, 3) := by decide +kernel
theorem dK_region_42 : decode cK_region 42 = .ok (.iload_n 1, 1) := by decide +kernel
theorem dK_region_43 : decode cK_region 43 = .ok (.iload_n 2, 1) := by decide +kernel
theorem dK_region_44 : decode cK_region 44 = .ok (.iastore, 1) := by decide +kernel
theorem dK_region_45 : decode cK_region 45 = .ok (.aload_n 0, 1) := by decide +kernel
theorem dK_region_46 : decode cK_region 46 = .ok (.getfield 19, 3) := by decide +kernel
theorem dK_region_49 : decode cK_region 49 = .ok (.iload_n 1, 1) := by decide +kernel
theorem dK_region_50 : decode cK_region 50 = .ok (.iload_n 3, 1) := by decide +kernel
theorem dK_region_51 : decode cK_region 51 = .ok (.iastore, 1) := by decide +kernel
theorem dK_region_52 : decode cK_region 52 = .ok (.aload_n 0, 1) := by decide +kernel
theorem dK_region_53 : decode cK_region 53 = .ok (.getfield 22, 3) := by decide +kernel
theorem dK_region_56 : decode cK_region 56 = .ok (.iload_n 1, 1) := by decide +kernel
theorem dK_region_57 : decode cK_region 57 = .ok (.iload 4, 2) := by decide +kernel
theorem dK_region_59 : decode cK_region 59 = .ok (.iastore, 1) := by decide +kernel
theorem dK_region_60 : decode cK_region 60 = .ok (.iconst 0, 1) := by decide +kernel
theorem dK_region_61 : decode cK_region 61 = .ok (.istore 5, 2) := by decide +kernel
theorem dK_region_63 : decode cK_region 63 = .ok (.iload 5, 2) := by decide +kernel
theorem dK_region_65 : decode cK_region 65 = .ok (.sipush 256, 3) := by decide +kernel
theorem dK_region_68 : decode cK_region 68 = .ok (.if_icmp .ge 22, 3) := by decide +kernel
theorem dK_region_71 : decode cK_region 71 = .ok (.aload_n 0, 1) := by decide +kernel
theorem dK_region_72 : decode cK_region 72 = .ok (.getfield 13, 3) := by decide +kernel
theorem dK_region_75 : decode cK_region 75 = .ok (.iload 5, 2) := by decide +kernel
theorem dK_region_77 : decode cK_region 77 = .ok (.aload_n 0, 1) := by decide +kernel
theorem dK_region_78 : decode cK_region 78 = .ok (.iload 5, 2) := by decide +kernel
theorem dK_region_80 : decode cK_region 80 = .ok (.invokevirtual 44, 3) := by decide +kernel
theorem dK_region_83 : decode cK_region 83 = .ok (.iastore, 1) := by decide +kernel
theorem dK_region_84 : decode cK_region 84 = .ok (.iinc 5 1, 3) := by decide +kernel
theorem dK_region_87 : decode cK_region 87 = .ok (.goto (-24), 3) := by decide +kernel
theorem dK_region_90 : decode cK_region 90 = .ok (.iconst 1, 1) := by decide +kernel
theorem dK_region_91 : decode cK_region 91 = .ok (.ireturn, 1) := by decide +kernel
theorem dK_settings_0 : decode cK_settings 0 = .ok (.iload_n 2, 1) := by decide +kernel
theorem dK_settings_1 : decode cK_settings 1 = .ok (.ifCond .lt 24, 3) := by decide +kernel
theorem dK_settings_4 : decode cK_settings 4 = .ok (.iload_n 2, 1) := by decide +kernel
theorem dK_settings_5 : decode cK_settings 5 = .ok (.bipush 15, 2) := by decide +kernel
theorem dK_settings_7 : decode cK_settings 7 = .ok (.if_icmp .gt 18, 3) := by decide +kernel
theorem dK_settings_10 : decode cK_settings 10 = .ok (.iload_n 3, 1) := by decide +kernel
theorem dK_settings_11 : decode cK_settings 11 = .ok (.invokestatic 48, 3) := by decide +kernel
theorem dK_settings_14 : decode cK_settings 14 = .ok (.ifCond .eq 11, 3) := by decide +kernel
theorem dK_settings_17 : decode cK_settings 17 = .ok (.iload 4, 2) := by decide +kernel
theorem dK_settings_19 : decode cK_settings 19 = .ok (.invokestatic 48, 3) := by decide +kernel
theorem dK_settings_22 : decode cK_settings 22 = .ok (.ifCond .ne 5, 3) := by decide +kernel
theorem dK_settings_25 : decode cK_settings 25 = .ok (.iconst 0, 1) := by decide +kernel
theorem dK_settings_26 : decode cK_settings 26 = .ok (.ireturn, 1) := by decide +kernel
theorem dK_settings_27 : decode cK_settings 27 = .ok (.aload_n 0, 1) := by decide +kernel
theorem dK_settings_28 : decode cK_settings 28 = .ok (.iload_n 1, 1) := by decide +kernel
theorem dK_settings_29 : decode cK_settings 29 = .ok (.putfield 35, 3) := by decide +kernel
theorem dK_settings_32 : decode cK_settings 32 = .ok (.aload_n 0, 1) := by decide +kernel
theorem dK_settings_33 : decode cK_settings 33 = .ok (.iload_n 2, 1) := by decide +kernel
theorem dK_settings_34 : decode cK_settings 34 = .ok (.putfield 51, 3) := by decide +kernel
theorem dK_settings_37 : decode cK_settings 37 = .ok (.aload_n 0, 1) := by decide +kernel
theorem dK_settings_38 : decode cK_settings 38 = .ok (.iload_n 3, 1) := by decide +kernel
theorem dK_settings_39 : decode cK_settings 39 = .ok (.putfield 55, 3) := by decide +kernel
theorem dK_settings_42 : decode cK_settings 42 = .ok (.aload_n 0, 1) := by decide +kernel
theorem dK_settings_43 : decode cK_settings 43 = .ok (.iload 4, 2) := by decide +kernel
theorem dK_settings_45 : decode cK_settings 45 = .ok (.putfield 58, 3) := by decide +kernel
theorem dK_settings_48 : decode cK_settings 48 = .ok (.iconst 1, 1) := by decide +kernel
theorem dK_settings_49 : decode cK_settings 49 = .ok (.ireturn, 1) := by decide +kernel
theorem dK_begin_0 : decode cK_begin 0 = .ok (.iload_n 1, 1) := by decide +kernel
theorem dK_begin_1 : decode cK_begin 1 = .ok (.invokestatic 40, 3) := by decide +kernel
theorem dK_begin_4 : decode cK_begin 4 = .ok (.ifCond .ne 5, 3) := by decide +kernel
theorem dK_begin_7 : decode cK_begin 7 = .ok (.iconst 0, 1) := by decide +kernel
theorem dK_begin_8 : decode cK_begin 8 = .ok (.ireturn, 1) := by decide +kernel
theorem dK_begin_9 : decode cK_begin 9 = .ok (.aload_n 0, 1) := by decide +kernel
theorem dK_begin_10 : decode cK_begin 10 = .ok (.getfield 28, 3) := by decide +kernel
theorem dK_begin_13 : decode cK_begin 13 = .ok (.iload_n 1, 1) := by decide +kernel
theorem dK_begin_14 : decode cK_begin 14 = .ok (.putfield 61, 3) := by decide +kernel
theorem dK_begin_17 : decode cK_begin 17 = .ok (.aload_n 0, 1) := by decide +kernel
theorem dK_begin_18 : decode cK_begin 18 = .ok (.getfield 28, 3) := by decide +kernel
theorem dK_begin_21 : decode cK_begin 21 = .ok (.iload_n 2, 1) := by decide +kernel
theorem dK_begin_22 : decode cK_begin 22 = .ok (.putfield 64, 3) := by decide +kernel
theorem dK_begin_25 : decode cK_begin 25 = .ok (.aload_n 0, 1) := by decide +kernel
theorem dK_begin_26 : decode cK_begin 26 = .ok (.getfield 28, 3) := by decide +kernel
theorem dK_begin_29 : decode cK_begin 29 = .ok (.iload_n 3, 1) := by decide +kernel
theorem dK_begin_30 : decode cK_begin 30 = .ok (.ldc 39, 2) := by decide +kernel
theorem dK_begin_32 : decode cK_begin 32 = .ok (.iand, 1) := by decide +kernel
theorem dK_begin_33 : decode cK_begin 33 = .ok (.putfield 67, 3) := by decide +kernel
theorem dK_begin_36 : decode cK_begin 36 = .ok (.aload_n 0, 1) := by decide +kernel
theorem dK_begin_37 : decode cK_begin 37 = .ok (.getfield 28, 3) := by decide +kernel
theorem dK_begin_40 : decode cK_begin 40 = .ok (.iload 4, 2) := by decide +kernel
theorem dK_begin_42 : decode cK_begin 42 = .ok (.ldc 39, 2) := by decide +kernel
theorem dK_begin_44 : decode cK_begin 44 = .ok (.iand, 1) := by decide +kernel
theorem dK_begin_45 : decode cK_begin 45 = .ok (.putfield 70, 3) := by decide +kernel
theorem dK_begin_48 : decode cK_begin 48 = .ok (.aload_n 0, 1) := by decide +kernel
theorem dK_begin_49 : decode cK_begin 49 = .ok (.getfield 28, 3) := by decide +kernel
theorem dK_begin_52 : decode cK_begin 52 = .ok (.iconst 0, 1) := by decide +kernel
theorem dK_begin_53 : decode cK_begin 53 = .ok (.putfield 73, 3) := by decide +kernel
theorem dK_begin_56 : decode cK_begin 56 = .ok (.aload_n 0, 1) := by decide +kernel
theorem dK_begin_57 : decode cK_begin 57 = .ok (.iconst 0, 1) := by decide +kernel
theorem dK_begin_58 : decode cK_begin 58 = .ok (.putfield 76, 3) := by decide +kernel
theorem dK_begin_61 : decode cK_begin 61 = .ok (.aload_n 0, 1) := by decide +kernel
theorem dK_begin_62 : decode cK_begin 62 = .ok (.iconst 0, 1) := by decide +kernel
theorem dK_begin_63 : decode cK_begin 63 = .ok (.putfield 79, 3) := by decide +kernel
theorem dK_begin_66 : decode cK_begin 66 = .ok (.iconst 1, 1) := by decide +kernel
theorem dK_begin_67 : decode cK_begin 67 = .ok (.ireturn, 1) := by decide +kernel
theorem dK_set_0 : decode cK_set 0 = .ok (.iload_n 1, 1) := by decide +kernel
theorem dK_set_1 : decode cK_set 1 = .ok (.ifCond .lt 9, 3) := by decide +kernel
theorem dK_set_4 : decode cK_set 4 = .ok (.iload_n 1, 1) := by decide +kernel
theorem dK_set_5 : decode cK_set 5 = .ok (.bipush 6, 2) := by decide +kernel
theorem dK_set_7 : decode cK_set 7 = .ok (.if_icmp .le 5, 3) := by decide +kernel
theorem dK_set_10 : decode cK_set 10 = .ok (.iconst 0, 1) := by decide +kernel
theorem dK_set_11 : decode cK_set 11 = .ok (.ireturn, 1) := by decide +kernel
theorem dK_set_12 : decode cK_set 12 = .ok (.aload_n 0, 1) := by decide +kernel
theorem dK_set_13 : decode cK_set 13 = .ok (.getfield 28, 3) := by decide +kernel
theorem dK_set_16 : decode cK_set 16 = .ok (.getfield 82, 3) := by decide +kernel
theorem dK_set_19 : decode cK_set 19 = .ok (.iload_n 1, 1) := by decide +kernel
theorem dK_set_20 : decode cK_set 20 = .ok (.iload_n 2, 1) := by decide +kernel
theorem dK_set_21 : decode cK_set 21 = .ok (.ldc 39, 2) := by decide +kernel
theorem dK_set_23 : decode cK_set 23 = .ok (.iand, 1) := by decide +kernel
theorem dK_set_24 : decode cK_set 24 = .ok (.iastore, 1) := by decide +kernel
theorem dK_set_25 : decode cK_set 25 = .ok (.iconst 1, 1) := by decide +kernel
theorem dK_set_26 : decode cK_set 26 = .ok (.ireturn, 1) := by decide +kernel
theorem dK_interrupt_0 : decode cK_interrupt 0 = .ok (.iload_n 1, 1) := by decide +kernel
theorem dK_interrupt_1 : decode cK_interrupt 1 = .ok (.iconst 3, 1) := by decide +kernel
theorem dK_interrupt_2 : decode cK_interrupt 2 = .ok (.if_icmp .lt 9, 3) := by decide +kernel
theorem dK_interrupt_5 : decode cK_interrupt 5 = .ok (.iload_n 1, 1) := by decide +kernel
theorem dK_interrupt_6 : decode cK_interrupt 6 = .ok (.bipush 6, 2) := by decide +kernel
theorem dK_interrupt_8 : decode cK_interrupt 8 = .ok (.if_icmp .le 5, 3) := by decide +kernel
theorem dK_interrupt_11 : decode cK_interrupt 11 = .ok (.iconst 0, 1) := by decide +kernel
theorem dK_interrupt_12 : decode cK_interrupt 12 = .ok (.ireturn, 1) := by decide +kernel
theorem dK_interrupt_13 : decode cK_interrupt 13 = .ok (.aload_n 0, 1) := by decide +kernel
theorem dK_interrupt_14 : decode cK_interrupt 14 = .ok (.dup, 1) := by decide +kernel
theorem dK_interrupt_15 : decode cK_interrupt 15 = .ok (.getfield 79, 3) := by decide +kernel
theorem dK_interrupt_18 : decode cK_interrupt 18 = .ok (.iconst 1, 1) := by decide +kernel
theorem dK_interrupt_19 : decode cK_interrupt 19 = .ok (.iload_n 1, 1) := by decide +kernel
theorem dK_interrupt_20 : decode cK_interrupt 20 = .ok (.ishl, 1) := by decide +kernel
theorem dK_interrupt_21 : decode cK_interrupt 21 = .ok (.ior, 1) := by decide +kernel
theorem dK_interrupt_22 : decode cK_interrupt 22 = .ok (.putfield 79, 3) := by decide +kernel
theorem dK_interrupt_25 : decode cK_interrupt 25 = .ok (.iconst 1, 1) := by decide +kernel
theorem dK_interrupt_26 : decode cK_interrupt 26 = .ok (.ireturn, 1) := by decide +kernel
theorem dK_run_0 : decode cK_run 0 = .ok (.iload_n 1, 1) := by decide +kernel
theorem dK_run_1 : decode cK_run 1 = .ok (.ifCond .lt 10, 3) := by decide +kernel
theorem dK_run_4 : decode cK_run 4 = .ok (.iload_n 1, 1) := by decide +kernel
theorem dK_run_5 : decode cK_run 5 = .ok (.sipush 200, 3) := by decide +kernel
theorem dK_run_8 : decode cK_run 8 = .ok (.if_icmp .le 5, 3) := by decide +kernel
theorem dK_run_11 : decode cK_run 11 = .ok (.iconst (-1), 1) := by decide +kernel
theorem dK_run_12 : decode cK_run 12 = .ok (.ireturn, 1) := by decide +kernel
theorem dK_run_13 : decode cK_run 13 = .ok (.iconst 0, 1) := by decide +kernel
theorem dK_run_14 : decode cK_run 14 = .ok (.istore_n 2, 1) := by decide +kernel
theorem dK_run_15 : decode cK_run 15 = .ok (.iload_n 2, 1) := by decide +kernel
theorem dK_run_16 : decode cK_run 16 = .ok (.iload_n 1, 1) := by decide +kernel
theorem dK_run_17 : decode cK_run 17 = .ok (.if_icmp .ge 20, 3) := by decide +kernel
theorem dK_run_20 : decode cK_run 20 = .ok (.aload_n 0, 1) := by decide +kernel
theorem dK_run_21 : decode cK_run 21 = .ok (.getfield 76, 3) := by decide +kernel
theorem dK_run_24 : decode cK_run 24 = .ok (.ifCond .ne 13, 3) := by decide +kernel
theorem dK_run_27 : decode cK_run 27 = .ok (.aload_n 0, 1) := by decide +kernel
theorem dK_run_28 : decode cK_run 28 = .ok (.invokevirtual 85, 3) := by decide +kernel
theorem dK_run_31 : decode cK_run 31 = .ok (.iinc 2 1, 3) := by decide +kernel
theorem dK_run_34 : decode cK_run 34 = .ok (.goto (-19), 3) := by decide +kernel
theorem dK_run_37 : decode cK_run 37 = .ok (.iload_n 2, 1) := by decide +kernel
theorem dK_run_38 : decode cK_run 38 = .ok (.ireturn, 1) := by decide +kernel
theorem dK_word_0 : decode cK_word 0 = .ok (.aload_n 0, 1) := by decide +kernel
theorem dK_word_1 : decode cK_word 1 = .ok (.getfield 9, 3) := by decide +kernel
theorem dK_word_4 : decode cK_word 4 = .ok (.iload_n 1, 1) := by decide +kernel
theorem dK_word_5 : decode cK_word 5 = .ok (.sipush 255, 3) := by decide +kernel
theorem dK_word_8 : decode cK_word 8 = .ok (.iand, 1) := by decide +kernel
theorem dK_word_9 : decode cK_word 9 = .ok (.iaload, 1) := by decide +kernel
theorem dK_word_10 : decode cK_word 10 = .ok (.ireturn, 1) := by decide +kernel
theorem dK_register_0 : decode cK_register 0 = .ok (.iload_n 1, 1) := by decide +kernel
theorem dK_register_1 : decode cK_register 1 = .ok (.ifCond .lt 19, 3) := by decide +kernel
theorem dK_register_4 : decode cK_register 4 = .ok (.iload_n 1, 1) := by decide +kernel
theorem dK_register_5 : decode cK_register 5 = .ok (.bipush 6, 2) := by decide +kernel
theorem dK_register_7 : decode cK_register 7 = .ok (.if_icmp .gt 13, 3) := by decide +kernel
theorem dK_register_10 : decode cK_register 10 = .ok (.aload_n 0, 1) := by decide +kernel
theorem dK_register_11 : decode cK_register 11 = .ok (.getfield 28, 3) := by decide +kernel
theorem dK_register_14 : decode cK_register 14 = .ok (.getfield 82, 3) := by decide +kernel
theorem dK_register_17 : decode cK_register 17 = .ok (.iload_n 1, 1) := by decide +kernel
theorem dK_register_18 : decode cK_register 18 = .ok (.iaload, 1) := by decide +kernel
theorem dK_register_19 : decode cK_register 19 = .ok (.ireturn, 1) := by decide +kernel
theorem dK_register_20 : decode cK_register 20 = .ok (.iload_n 1, 1) := by decide +kernel
theorem dK_register_21 : decode cK_register 21 = .ok (.tableswitch 130 7 15 #[51, 59, 67, 75, 91, 107, 115, 120, 125], 51) := by decide +kernel
theorem dK_register_72 : decode cK_register 72 = .ok (.aload_n 0, 1) := by decide +kernel
theorem dK_register_73 : decode cK_register 73 = .ok (.getfield 28, 3) := by decide +kernel
theorem dK_register_76 : decode cK_register 76 = .ok (.getfield 61, 3) := by decide +kernel
theorem dK_register_79 : decode cK_register 79 = .ok (.ireturn, 1) := by decide +kernel
theorem dK_register_80 : decode cK_register 80 = .ok (.aload_n 0, 1) := by decide +kernel
theorem dK_register_81 : decode cK_register 81 = .ok (.getfield 28, 3) := by decide +kernel
theorem dK_register_84 : decode cK_register 84 = .ok (.getfield 67, 3) := by decide +kernel
theorem dK_register_87 : decode cK_register 87 = .ok (.ireturn, 1) := by decide +kernel
theorem dK_register_88 : decode cK_register 88 = .ok (.aload_n 0, 1) := by decide +kernel
theorem dK_register_89 : decode cK_register 89 = .ok (.getfield 28, 3) := by decide +kernel
theorem dK_register_92 : decode cK_register 92 = .ok (.getfield 70, 3) := by decide +kernel
theorem dK_register_95 : decode cK_register 95 = .ok (.ireturn, 1) := by decide +kernel
theorem dK_register_96 : decode cK_register 96 = .ok (.aload_n 0, 1) := by decide +kernel
theorem dK_register_97 : decode cK_register 97 = .ok (.getfield 28, 3) := by decide +kernel
theorem dK_register_100 : decode cK_register 100 = .ok (.getfield 88, 3) := by decide +kernel
theorem dK_register_103 : decode cK_register 103 = .ok (.ifCond .eq 7, 3) := by decide +kernel
theorem dK_register_106 : decode cK_register 106 = .ok (.iconst 1, 1) := by decide +kernel
theorem dK_register_107 : decode cK_register 107 = .ok (.goto 4, 3) := by decide +kernel
theorem dK_register_110 : decode cK_register 110 = .ok (.iconst 0, 1) := by decide +kernel
theorem dK_register_111 : decode cK_register 111 = .ok (.ireturn, 1) := by decide +kernel
theorem dK_register_112 : decode cK_register 112 = .ok (.aload_n 0, 1) := by decide +kernel
theorem dK_register_113 : decode cK_register 113 = .ok (.getfield 28, 3) := by decide +kernel
theorem dK_register_116 : decode cK_register 116 = .ok (.getfield 64, 3) := by decide +kernel
theorem dK_register_119 : decode cK_register 119 = .ok (.ifCond .eq 7, 3) := by decide +kernel
theorem dK_register_122 : decode cK_register 122 = .ok (.iconst 1, 1) := by decide +kernel
theorem dK_register_123 : decode cK_register 123 = .ok (.goto 4, 3) := by decide +kernel
theorem dK_register_126 : decode cK_register 126 = .ok (.iconst 0, 1) := by decide +kernel
theorem dK_register_127 : decode cK_register 127 = .ok (.ireturn, 1) := by decide +kernel
theorem dK_register_128 : decode cK_register 128 = .ok (.aload_n 0, 1) := by decide +kernel
theorem dK_register_129 : decode cK_register 129 = .ok (.getfield 28, 3) := by decide +kernel
theorem dK_register_132 : decode cK_register 132 = .ok (.getfield 73, 3) := by decide +kernel
theorem dK_register_135 : decode cK_register 135 = .ok (.ireturn, 1) := by decide +kernel
theorem dK_register_136 : decode cK_register 136 = .ok (.aload_n 0, 1) := by decide +kernel
theorem dK_register_137 : decode cK_register 137 = .ok (.getfield 76, 3) := by decide +kernel
theorem dK_register_140 : decode cK_register 140 = .ok (.ireturn, 1) := by decide +kernel
theorem dK_register_141 : decode cK_register 141 = .ok (.aload_n 0, 1) := by decide +kernel
theorem dK_register_142 : decode cK_register 142 = .ok (.getfield 79, 3) := by decide +kernel
theorem dK_register_145 : decode cK_register 145 = .ok (.ireturn, 1) := by decide +kernel
theorem dK_register_146 : decode cK_register 146 = .ok (.aload_n 0, 1) := by decide +kernel
theorem dK_register_147 : decode cK_register 147 = .ok (.getfield 91, 3) := by decide +kernel
theorem dK_register_150 : decode cK_register 150 = .ok (.ireturn, 1) := by decide +kernel
theorem dK_register_151 : decode cK_register 151 = .ok (.iconst (-1), 1) := by decide +kernel
theorem dK_register_152 : decode cK_register 152 = .ok (.ireturn, 1) := by decide +kernel
theorem dK_kind_0 : decode cK_kind 0 = .ok (.aload_n 0, 1) := by decide +kernel
theorem dK_kind_1 : decode cK_kind 1 = .ok (.getfield 13, 3) := by decide +kernel
theorem dK_kind_4 : decode cK_kind 4 = .ok (.iload_n 1, 1) := by decide +kernel
theorem dK_kind_5 : decode cK_kind 5 = .ok (.sipush 255, 3) := by decide +kernel
theorem dK_kind_8 : decode cK_kind 8 = .ok (.iand, 1) := by decide +kernel
theorem dK_kind_9 : decode cK_kind 9 = .ok (.iaload, 1) := by decide +kernel
theorem dK_kind_10 : decode cK_kind 10 = .ok (.ireturn, 1) := by decide +kernel
theorem dK_isAddress_0 : decode cK_isAddress 0 = .ok (.iload_n 0, 1) := by decide +kernel
theorem dK_isAddress_1 : decode cK_isAddress 1 = .ok (.ifCond .lt 14, 3) := by decide +kernel
theorem dK_isAddress_4 : decode cK_isAddress 4 = .ok (.iload_n 0, 1) := by decide +kernel
theorem dK_isAddress_5 : decode cK_isAddress 5 = .ok (.sipush 256, 3) := by decide +kernel
theorem dK_isAddress_8 : decode cK_isAddress 8 = .ok (.if_icmp .ge 7, 3) := by decide +kernel
theorem dK_isAddress_11 : decode cK_isAddress 11 = .ok (.iconst 1, 1) := by decide +kernel
theorem dK_isAddress_12 : decode cK_isAddress 12 = .ok (.goto 4, 3) := by decide +kernel
theorem dK_isAddress_15 : decode cK_isAddress 15 = .ok (.iconst 0, 1) := by decide +kernel
theorem dK_isAddress_16 : decode cK_isAddress 16 = .ok (.ireturn, 1) := by decide +kernel
theorem dK_isBase_0 : decode cK_isBase 0 = .ok (.iload_n 0, 1) := by decide +kernel
theorem dK_isBase_1 : decode cK_isBase 1 = .ok (.ifCond .lt 13, 3) := by decide +kernel
theorem dK_isBase_4 : decode cK_isBase 4 = .ok (.iload_n 0, 1) := by decide +kernel
theorem dK_isBase_5 : decode cK_isBase 5 = .ok (.bipush 31, 2) := by decide +kernel
theorem dK_isBase_7 : decode cK_isBase 7 = .ok (.if_icmp .gt 7, 3) := by decide +kernel
theorem dK_isBase_10 : decode cK_isBase 10 = .ok (.iconst 1, 1) := by decide +kernel
theorem dK_isBase_11 : decode cK_isBase 11 = .ok (.goto 4, 3) := by decide +kernel
theorem dK_isBase_14 : decode cK_isBase 14 = .ok (.iconst 0, 1) := by decide +kernel
theorem dK_isBase_15 : decode cK_isBase 15 = .ok (.ireturn, 1) := by decide +kernel
theorem dK_kindByRegions_0 : decode cK_kindByRegions 0 = .ok (.iconst 0, 1) := by decide +kernel
theorem dK_kindByRegions_1 : decode cK_kindByRegions 1 = .ok (.istore_n 2, 1) := by decide +kernel
theorem dK_kindByRegions_2 : decode cK_kindByRegions 2 = .ok (.iconst 0, 1) := by decide +kernel
theorem dK_kindByRegions_3 : decode cK_kindByRegions 3 = .ok (.istore_n 3, 1) := by decide +kernel
theorem dK_kindByRegions_4 : decode cK_kindByRegions 4 = .ok (.iconst 0, 1) := by decide +kernel
theorem dK_kindByRegions_5 : decode cK_kindByRegions 5 = .ok (.istore 4, 2) := by decide +kernel
theorem dK_kindByRegions_7 : decode cK_kindByRegions 7 = .ok (.iload 4, 2) := by decide +kernel
theorem dK_kindByRegions_9 : decode cK_kindByRegions 9 = .ok (.iconst 4, 1) := by decide +kernel
theorem dK_kindByRegions_10 : decode cK_kindByRegions 10 = .ok (.if_icmp .ge 52, 3) := by decide +kernel
theorem dK_kindByRegions_13 : decode cK_kindByRegions 13 = .ok (.aload_n 0, 1) := by decide +kernel
theorem dK_kindByRegions_14 : decode cK_kindByRegions 14 = .ok (.getfield 22, 3) := by decide +kernel
theorem dK_kindByRegions_17 : decode cK_kindByRegions 17 = .ok (.iload 4, 2) := by decide +kernel
theorem dK_kindByRegions_19 : decode cK_kindByRegions 19 = .ok (.iaload, 1) := by decide +kernel
theorem dK_kindByRegions_20 : decode cK_kindByRegions 20 = .ok (.ifCond .eq 36, 3) := by decide +kernel
theorem dK_kindByRegions_23 : decode cK_kindByRegions 23 = .ok (.aload_n 0, 1) := by decide +kernel
theorem dK_kindByRegions_24 : decode cK_kindByRegions 24 = .ok (.getfield 16, 3) := by decide +kernel
theorem dK_kindByRegions_27 : decode cK_kindByRegions 27 = .ok (.iload 4, 2) := by decide +kernel
theorem dK_kindByRegions_29 : decode cK_kindByRegions 29 = .ok (.iaload, 1) := by decide +kernel
theorem dK_kindByRegions_30 : decode cK_kindByRegions 30 = .ok (.iload_n 1, 1) := by decide +kernel
theorem dK_kindByRegions_31 : decode cK_kindByRegions 31 = .ok (.if_icmp .gt 25, 3) := by decide +kernel
theorem dK_kindByRegions_34 : decode cK_kindByRegions 34 = .ok (.iload_n 1, 1) := by decide +kernel
theorem dK_kindByRegions_35 : decode cK_kindByRegions 35 = .ok (.aload_n 0, 1) := by decide +kernel
theorem dK_kindByRegions_36 : decode cK_kindByRegions 36 = .ok (.getfield 19, 3) := by decide +kernel
theorem dK_kindByRegions_39 : decode cK_kindByRegions 39 = .ok (.iload 4, 2) := by decide +kernel
theorem dK_kindByRegions_41 : decode cK_kindByRegions 41 = .ok (.iaload, 1) := by decide +kernel
theorem dK_kindByRegions_42 : decode cK_kindByRegions 42 = .ok (.if_icmp .gt 14, 3) := by decide +kernel
theorem dK_kindByRegions_45 : decode cK_kindByRegions 45 = .ok (.aload_n 0, 1) := by decide +kernel
theorem dK_kindByRegions_46 : decode cK_kindByRegions 46 = .ok (.getfield 22, 3) := by decide +kernel
theorem dK_kindByRegions_49 : decode cK_kindByRegions 49 = .ok (.iload 4, 2) := by decide +kernel
theorem dK_kindByRegions_51 : decode cK_kindByRegions 51 = .ok (.iaload, 1) := by decide +kernel
theorem dK_kindByRegions_52 : decode cK_kindByRegions 52 = .ok (.istore_n 2, 1) := by decide +kernel
theorem dK_kindByRegions_53 : decode cK_kindByRegions 53 = .ok (.iinc 3 1, 3) := by decide +kernel
theorem dK_kindByRegions_56 : decode cK_kindByRegions 56 = .ok (.iinc 4 1, 3) := by decide +kernel
theorem dK_kindByRegions_59 : decode cK_kindByRegions 59 = .ok (.goto (-52), 3) := by decide +kernel
theorem dK_kindByRegions_62 : decode cK_kindByRegions 62 = .ok (.iload_n 3, 1) := by decide +kernel
theorem dK_kindByRegions_63 : decode cK_kindByRegions 63 = .ok (.iconst 1, 1) := by decide +kernel
theorem dK_kindByRegions_64 : decode cK_kindByRegions 64 = .ok (.if_icmp .ne 7, 3) := by decide +kernel
theorem dK_kindByRegions_67 : decode cK_kindByRegions 67 = .ok (.iload_n 2, 1) := by decide +kernel
theorem dK_kindByRegions_68 : decode cK_kindByRegions 68 = .ok (.goto 4, 3) := by decide +kernel
theorem dK_kindByRegions_71 : decode cK_kindByRegions 71 = .ok (.iconst 0, 1) := by decide +kernel
theorem dK_kindByRegions_72 : decode cK_kindByRegions 72 = .ok (.ireturn, 1) := by decide +kernel
theorem dK_step_0 : decode cK_step 0 = .ok (.aload_n 0, 1) := by decide +kernel
theorem dK_step_1 : decode cK_step 1 = .ok (.invokevirtual 94, 3) := by decide +kernel
theorem dK_step_4 : decode cK_step 4 = .ok (.aload_n 0, 1) := by decide +kernel
theorem dK_step_5 : decode cK_step 5 = .ok (.getfield 76, 3) := by decide +kernel
theorem dK_step_8 : decode cK_step 8 = .ok (.ifCond .eq 4, 3) := by decide +kernel
theorem dK_step_11 : decode cK_step 11 = .ok (.return_, 1) := by decide +kernel
theorem dK_step_12 : decode cK_step 12 = .ok (.aload_n 0, 1) := by decide +kernel
theorem dK_step_13 : decode cK_step 13 = .ok (.getfield 32, 3) := by decide +kernel
theorem dK_step_16 : decode cK_step 16 = .ok (.aload_n 0, 1) := by decide +kernel
theorem dK_step_17 : decode cK_step 17 = .ok (.getfield 28, 3) := by decide +kernel
theorem dK_step_20 : decode cK_step 20 = .ok (.invokevirtual 97, 3) := by decide +kernel
theorem dK_step_23 : decode cK_step 23 = .ok (.aload_n 0, 1) := by decide +kernel
theorem dK_step_24 : decode cK_step 24 = .ok (.iconst 0, 1) := by decide +kernel
theorem dK_step_25 : decode cK_step 25 = .ok (.putfield 101, 3) := by decide +kernel
theorem dK_step_28 : decode cK_step 28 = .ok (.aload_n 0, 1) := by decide +kernel
theorem dK_step_29 : decode cK_step 29 = .ok (.invokevirtual 104, 3) := by decide +kernel
theorem dK_step_32 : decode cK_step 32 = .ok (.istore_n 1, 1) := by decide +kernel
theorem dK_step_33 : decode cK_step 33 = .ok (.aload_n 0, 1) := by decide +kernel
theorem dK_step_34 : decode cK_step 34 = .ok (.getfield 101, 3) := by decide +kernel
theorem dK_step_37 : decode cK_step 37 = .ok (.ifCond .ne 16, 3) := by decide +kernel
theorem dK_step_40 : decode cK_step 40 = .ok (.aload_n 0, 1) := by decide +kernel
theorem dK_step_41 : decode cK_step 41 = .ok (.iload_n 1, 1) := by decide +kernel
theorem dK_step_42 : decode cK_step 42 = .ok (.invokevirtual 108, 3) := by decide +kernel
theorem dK_step_45 : decode cK_step 45 = .ok (.ifCond .eq 8, 3) := by decide +kernel
theorem dK_step_48 : decode cK_step 48 = .ok (.aload_n 0, 1) := by decide +kernel
theorem dK_step_49 : decode cK_step 49 = .ok (.iconst 1, 1) := by decide +kernel
theorem dK_step_50 : decode cK_step 50 = .ok (.putfield 101, 3) := by decide +kernel
theorem dK_step_53 : decode cK_step 53 = .ok (.aload_n 0, 1) := by decide +kernel
theorem dK_step_54 : decode cK_step 54 = .ok (.getfield 101, 3) := by decide +kernel
theorem dK_step_57 : decode cK_step 57 = .ok (.ifCond .ne 38, 3) := by decide +kernel
theorem dK_step_60 : decode cK_step 60 = .ok (.aload_n 0, 1) := by decide +kernel
theorem dK_step_61 : decode cK_step 61 = .ok (.aload_n 0, 1) := by decide +kernel
theorem dK_step_62 : decode cK_step 62 = .ok (.getfield 28, 3) := by decide +kernel
theorem dK_step_65 : decode cK_step 65 = .ok (.getfield 61, 3) := by decide +kernel
theorem dK_step_68 : decode cK_step 68 = .ok (.iconst 1, 1) := by decide +kernel
theorem dK_step_69 : decode cK_step 69 = .ok (.iadd, 1) := by decide +kernel
theorem dK_step_70 : decode cK_step 70 = .ok (.invokevirtual 111, 3) := by decide +kernel
theorem dK_step_73 : decode cK_step 73 = .ok (.iload_n 1, 1) := by decide +kernel
theorem dK_step_74 : decode cK_step 74 = .ok (.bipush 12, 2) := by decide +kernel
theorem dK_step_76 : decode cK_step 76 = .ok (.ishr, 1) := by decide +kernel
theorem dK_step_77 : decode cK_step 77 = .ok (.bipush 6, 2) := by decide +kernel
theorem dK_step_79 : decode cK_step 79 = .ok (.if_icmp .gt 11, 3) := by decide +kernel
theorem dK_step_82 : decode cK_step 82 = .ok (.aload_n 0, 1) := by decide +kernel
theorem dK_step_83 : decode cK_step 83 = .ok (.iload_n 1, 1) := by decide +kernel
theorem dK_step_84 : decode cK_step 84 = .ok (.invokevirtual 115, 3) := by decide +kernel
theorem dK_step_87 : decode cK_step 87 = .ok (.goto 8, 3) := by decide +kernel
theorem dK_step_90 : decode cK_step 90 = .ok (.aload_n 0, 1) := by decide +kernel
theorem dK_step_91 : decode cK_step 91 = .ok (.iload_n 1, 1) := by decide +kernel
theorem dK_step_92 : decode cK_step 92 = .ok (.invokevirtual 118, 3) := by decide +kernel
theorem dK_step_95 : decode cK_step 95 = .ok (.aload_n 0, 1) := by decide +kernel
theorem dK_step_96 : decode cK_step 96 = .ok (.getfield 101, 3) := by decide +kernel
theorem dK_step_99 : decode cK_step 99 = .ok (.ifCond .eq 7, 3) := by decide +kernel
theorem dK_step_102 : decode cK_step 102 = .ok (.aload_n 0, 1) := by decide +kernel
theorem dK_step_103 : decode cK_step 103 = .ok (.invokevirtual 121, 3) := by decide +kernel
theorem dK_step_106 : decode cK_step 106 = .ok (.return_, 1) := by decide +kernel
theorem dK_takePending_0 : decode cK_takePending 0 = .ok (.aload_n 0, 1) := by decide +kernel
theorem dK_takePending_1 : decode cK_takePending 1 = .ok (.getfield 28, 3) := by decide +kernel
theorem dK_takePending_4 : decode cK_takePending 4 = .ok (.getfield 73, 3) := by decide +kernel
theorem dK_takePending_7 : decode cK_takePending 7 = .ok (.ifCond .ne 8, 3) := by decide +kernel
theorem dK_takePending_10 : decode cK_takePending 10 = .ok (.bipush 7, 2) := by decide +kernel
theorem dK_takePending_12 : decode cK_takePending 12 = .ok (.goto 10, 3) := by decide +kernel
theorem dK_takePending_15 : decode cK_takePending 15 = .ok (.aload_n 0, 1) := by decide +kernel
theorem dK_takePending_16 : decode cK_takePending 16 = .ok (.getfield 28, 3) := by decide +kernel
theorem dK_takePending_19 : decode cK_takePending 19 = .ok (.getfield 73, 3) := by decide +kernel
theorem dK_takePending_22 : decode cK_takePending 22 = .ok (.istore_n 1, 1) := by decide +kernel
theorem dK_takePending_23 : decode cK_takePending 23 = .ok (.iconst 3, 1) := by decide +kernel
theorem dK_takePending_24 : decode cK_takePending 24 = .ok (.istore_n 2, 1) := by decide +kernel
theorem dK_takePending_25 : decode cK_takePending 25 = .ok (.iload_n 2, 1) := by decide +kernel
theorem dK_takePending_26 : decode cK_takePending 26 = .ok (.iload_n 1, 1) := by decide +kernel
theorem dK_takePending_27 : decode cK_takePending 27 = .ok (.if_icmp .ge 40, 3) := by decide +kernel
theorem dK_takePending_30 : decode cK_takePending 30 = .ok (.aload_n 0, 1) := by decide +kernel
theorem dK_takePending_31 : decode cK_takePending 31 = .ok (.getfield 79, 3) := by decide +kernel
theorem dK_takePending_34 : decode cK_takePending 34 = .ok (.iload_n 2, 1) := by decide +kernel
theorem dK_takePending_35 : decode cK_takePending 35 = .ok (.ishr, 1) := by decide +kernel
theorem dK_takePending_36 : decode cK_takePending 36 = .ok (.iconst 1, 1) := by decide +kernel
theorem dK_takePending_37 : decode cK_takePending 37 = .ok (.iand, 1) := by decide +kernel
theorem dK_takePending_38 : decode cK_takePending 38 = .ok (.ifCond .eq 23, 3) := by decide +kernel
theorem dK_takePending_41 : decode cK_takePending 41 = .ok (.aload_n 0, 1) := by decide +kernel
theorem dK_takePending_42 : decode cK_takePending 42 = .ok (.dup, 1) := by decide +kernel
theorem dK_takePending_43 : decode cK_takePending 43 = .ok (.getfield 79, 3) := by decide +kernel
theorem dK_takePending_46 : decode cK_takePending 46 = .ok (.iconst 1, 1) := by decide +kernel
theorem dK_takePending_47 : decode cK_takePending 47 = .ok (.iload_n 2, 1) := by decide +kernel
theorem dK_takePending_48 : decode cK_takePending 48 = .ok (.ishl, 1) := by decide +kernel
theorem dK_takePending_49 : decode cK_takePending 49 = .ok (.iconst (-1), 1) := by decide +kernel
theorem dK_takePending_50 : decode cK_takePending 50 = .ok (.ixor, 1) := by decide +kernel
theorem dK_takePending_51 : decode cK_takePending 51 = .ok (.iand, 1) := by decide +kernel
theorem dK_takePending_52 : decode cK_takePending 52 = .ok (.putfield 79, 3) := by decide +kernel
theorem dK_takePending_55 : decode cK_takePending 55 = .ok (.aload_n 0, 1) := by decide +kernel
theorem dK_takePending_56 : decode cK_takePending 56 = .ok (.iload_n 2, 1) := by decide +kernel
theorem dK_takePending_57 : decode cK_takePending 57 = .ok (.invokevirtual 124, 3) := by decide +kernel
theorem dK_takePending_60 : decode cK_takePending 60 = .ok (.return_, 1) := by decide +kernel
theorem dK_takePending_61 : decode cK_takePending 61 = .ok (.iinc 2 1, 3) := by decide +kernel
theorem dK_takePending_64 : decode cK_takePending 64 = .ok (.goto (-39), 3) := by decide +kernel
theorem dK_takePending_67 : decode cK_takePending 67 = .ok (.return_, 1) := by decide +kernel
theorem dK_fetch_0 : decode cK_fetch 0 = .ok (.aload_n 0, 1) := by decide +kernel
theorem dK_fetch_1 : decode cK_fetch 1 = .ok (.getfield 9, 3) := by decide +kernel
theorem dK_fetch_4 : decode cK_fetch 4 = .ok (.aload_n 0, 1) := by decide +kernel
theorem dK_fetch_5 : decode cK_fetch 5 = .ok (.getfield 28, 3) := by decide +kernel
theorem dK_fetch_8 : decode cK_fetch 8 = .ok (.getfield 61, 3) := by decide +kernel
theorem dK_fetch_11 : decode cK_fetch 11 = .ok (.sipush 255, 3) := by decide +kernel
theorem dK_fetch_14 : decode cK_fetch 14 = .ok (.iand, 1) := by decide +kernel
theorem dK_fetch_15 : decode cK_fetch 15 = .ok (.iaload, 1) := by decide +kernel
theorem dK_fetch_16 : decode cK_fetch 16 = .ok (.istore_n 1, 1) := by decide +kernel
theorem dK_fetch_17 : decode cK_fetch 17 = .ok (.aload_n 0, 1) := by decide +kernel
theorem dK_fetch_18 : decode cK_fetch 18 = .ok (.getfield 13, 3) := by decide +kernel
theorem dK_fetch_21 : decode cK_fetch 21 = .ok (.aload_n 0, 1) := by decide +kernel
theorem dK_fetch_22 : decode cK_fetch 22 = .ok (.getfield 28, 3) := by decide +kernel
theorem dK_fetch_25 : decode cK_fetch 25 = .ok (.getfield 61, 3) := by decide +kernel
theorem dK_fetch_28 : decode cK_fetch 28 = .ok (.sipush 255, 3) := by decide +kernel
theorem dK_fetch_31 : decode cK_fetch 31 = .ok (.iand, 1) := by decide +kernel
theorem dK_fetch_32 : decode cK_fetch 32 = .ok (.iaload, 1) := by decide +kernel
theorem dK_fetch_33 : decode cK_fetch 33 = .ok (.istore_n 2, 1) := by decide +kernel
theorem dK_fetch_34 : decode cK_fetch 34 = .ok (.aload_n 0, 1) := by decide +kernel
theorem dK_fetch_35 : decode cK_fetch 35 = .ok (.getfield 28, 3) := by decide +kernel
theorem dK_fetch_38 : decode cK_fetch 38 = .ok (.getfield 64, 3) := by decide +kernel
theorem dK_fetch_41 : decode cK_fetch 41 = .ok (.ifCond .ne 16, 3) := by decide +kernel
theorem dK_fetch_44 : decode cK_fetch 44 = .ok (.iload_n 2, 1) := by decide +kernel
theorem dK_fetch_45 : decode cK_fetch 45 = .ok (.iconst 1, 1) := by decide +kernel
theorem dK_fetch_46 : decode cK_fetch 46 = .ok (.if_icmp .ne 61, 3) := by decide +kernel
theorem dK_fetch_49 : decode cK_fetch 49 = .ok (.aload_n 0, 1) := by decide +kernel
theorem dK_fetch_50 : decode cK_fetch 50 = .ok (.iconst 2, 1) := by decide +kernel
theorem dK_fetch_51 : decode cK_fetch 51 = .ok (.putfield 101, 3) := by decide +kernel
theorem dK_fetch_54 : decode cK_fetch 54 = .ok (.goto 53, 3) := by decide +kernel
theorem dK_fetch_57 : decode cK_fetch 57 = .ok (.iload_n 2, 1) := by decide +kernel
theorem dK_fetch_58 : decode cK_fetch 58 = .ok (.iconst 2, 1) := by decide +kernel
theorem dK_fetch_59 : decode cK_fetch 59 = .ok (.if_icmp .ne 38, 3) := by decide +kernel
theorem dK_fetch_62 : decode cK_fetch 62 = .ok (.iload_n 1, 1) := by decide +kernel
theorem dK_fetch_63 : decode cK_fetch 63 = .ok (.bipush 12, 2) := by decide +kernel
theorem dK_fetch_65 : decode cK_fetch 65 = .ok (.ishr, 1) := by decide +kernel
theorem dK_fetch_66 : decode cK_fetch 66 = .ok (.bipush 10, 2) := by decide +kernel
theorem dK_fetch_68 : decode cK_fetch 68 = .ok (.if_icmp .ne 29, 3) := by decide +kernel
theorem dK_fetch_71 : decode cK_fetch 71 = .ok (.aload_n 0, 1) := by decide +kernel
theorem dK_fetch_72 : decode cK_fetch 72 = .ok (.getfield 28, 3) := by decide +kernel
theorem dK_fetch_75 : decode cK_fetch 75 = .ok (.iconst 0, 1) := by decide +kernel
theorem dK_fetch_76 : decode cK_fetch 76 = .ok (.putfield 64, 3) := by decide +kernel
theorem dK_fetch_79 : decode cK_fetch 79 = .ok (.aload_n 0, 1) := by decide +kernel
theorem dK_fetch_80 : decode cK_fetch 80 = .ok (.getfield 28, 3) := by decide +kernel
theorem dK_fetch_83 : decode cK_fetch 83 = .ok (.getfield 82, 3) := by decide +kernel
theorem dK_fetch_86 : decode cK_fetch 86 = .ok (.bipush 6, 2) := by decide +kernel
theorem dK_fetch_88 : decode cK_fetch 88 = .ok (.dup2, 1) := by decide +kernel
theorem dK_fetch_89 : decode cK_fetch 89 = .ok (.iaload, 1) := by decide +kernel
theorem dK_fetch_90 : decode cK_fetch 90 = .ok (.ldc 127, 2) := by decide +kernel
theorem dK_fetch_92 : decode cK_fetch 92 = .ok (.ior, 1) := by decide +kernel
theorem dK_fetch_93 : decode cK_fetch 93 = .ok (.iastore, 1) := by decide +kernel
theorem dK_fetch_94 : decode cK_fetch 94 = .ok (.goto 13, 3) := by decide +kernel
theorem dK_fetch_97 : decode cK_fetch 97 = .ok (.iload_n 2, 1) := by decide +kernel
theorem dK_fetch_98 : decode cK_fetch 98 = .ok (.iconst 1, 1) := by decide +kernel
theorem dK_fetch_99 : decode cK_fetch 99 = .ok (.if_icmp .eq 8, 3) := by decide +kernel
theorem dK_fetch_102 : decode cK_fetch 102 = .ok (.aload_n 0, 1) := by decide +kernel
theorem dK_fetch_103 : decode cK_fetch 103 = .ok (.iconst 2, 1) := by decide +kernel
theorem dK_fetch_104 : decode cK_fetch 104 = .ok (.putfield 101, 3) := by decide +kernel
theorem dK_fetch_107 : decode cK_fetch 107 = .ok (.iload_n 1, 1) := by decide +kernel
theorem dK_fetch_108 : decode cK_fetch 108 = .ok (.ireturn, 1) := by decide +kernel
theorem dK_isUnknown_0 : decode cK_isUnknown 0 = .ok (.iload_n 1, 1) := by decide +kernel
theorem dK_isUnknown_1 : decode cK_isUnknown 1 = .ok (.bipush 12, 2) := by decide +kernel
theorem dK_isUnknown_3 : decode cK_isUnknown 3 = .ok (.ishr, 1) := by decide +kernel
theorem dK_isUnknown_4 : decode cK_isUnknown 4 = .ok (.bipush 15, 2) := by decide +kernel
theorem dK_isUnknown_6 : decode cK_isUnknown 6 = .ok (.iand, 1) := by decide +kernel
theorem dK_isUnknown_7 : decode cK_isUnknown 7 = .ok (.istore_n 2, 1) := by decide +kernel
theorem dK_isUnknown_8 : decode cK_isUnknown 8 = .ok (.aload_n 0, 1) := by decide +kernel
theorem dK_isUnknown_9 : decode cK_isUnknown 9 = .ok (.getfield 28, 3) := by decide +kernel
theorem dK_isUnknown_12 : decode cK_isUnknown 12 = .ok (.getfield 64, 3) := by decide +kernel
theorem dK_isUnknown_15 : decode cK_isUnknown 15 = .ok (.ifCond .eq 23, 3) := by decide +kernel
theorem dK_isUnknown_18 : decode cK_isUnknown 18 = .ok (.iload_n 2, 1) := by decide +kernel
theorem dK_isUnknown_19 : decode cK_isUnknown 19 = .ok (.bipush 11, 2) := by decide +kernel
theorem dK_isUnknown_21 : decode cK_isUnknown 21 = .ok (.if_icmp .eq 15, 3) := by decide +kernel
theorem dK_isUnknown_24 : decode cK_isUnknown 24 = .ok (.iload_n 2, 1) := by decide +kernel
theorem dK_isUnknown_25 : decode cK_isUnknown 25 = .ok (.bipush 12, 2) := by decide +kernel
theorem dK_isUnknown_27 : decode cK_isUnknown 27 = .ok (.if_icmp .eq 9, 3) := by decide +kernel
theorem dK_isUnknown_30 : decode cK_isUnknown 30 = .ok (.iload_n 2, 1) := by decide +kernel
theorem dK_isUnknown_31 : decode cK_isUnknown 31 = .ok (.bipush 15, 2) := by decide +kernel
theorem dK_isUnknown_33 : decode cK_isUnknown 33 = .ok (.if_icmp .ne 5, 3) := by decide +kernel
theorem dK_isUnknown_36 : decode cK_isUnknown 36 = .ok (.iconst 1, 1) := by decide +kernel
theorem dK_isUnknown_37 : decode cK_isUnknown 37 = .ok (.ireturn, 1) := by decide +kernel
theorem dK_isUnknown_38 : decode cK_isUnknown 38 = .ok (.getstatic 128, 3) := by decide +kernel
theorem dK_isUnknown_41 : decode cK_isUnknown 41 = .ok (.iload_n 2, 1) := by decide +kernel
theorem dK_isUnknown_42 : decode cK_isUnknown 42 = .ok (.iaload, 1) := by decide +kernel
theorem dK_isUnknown_43 : decode cK_isUnknown 43 = .ok (.istore_n 3, 1) := by decide +kernel
theorem dK_isUnknown_44 : decode cK_isUnknown 44 = .ok (.iload_n 3, 1) := by decide +kernel
theorem dK_isUnknown_45 : decode cK_isUnknown 45 = .ok (.iconst 1, 1) := by decide +kernel
theorem dK_isUnknown_46 : decode cK_isUnknown 46 = .ok (.iand, 1) := by decide +kernel
theorem dK_isUnknown_47 : decode cK_isUnknown 47 = .ok (.ifCond .eq 15, 3) := by decide +kernel
theorem dK_isUnknown_50 : decode cK_isUnknown 50 = .ok (.iload_n 1, 1) := by decide +kernel
theorem dK_isUnknown_51 : decode cK_isUnknown 51 = .ok (.bipush 9, 2) := by decide +kernel
theorem dK_isUnknown_53 : decode cK_isUnknown 53 = .ok (.ishr, 1) := by decide +kernel
theorem dK_isUnknown_54 : decode cK_isUnknown 54 = .ok (.bipush 7, 2) := by decide +kernel
theorem dK_isUnknown_56 : decode cK_isUnknown 56 = .ok (.iand, 1) := by decide +kernel
theorem dK_isUnknown_57 : decode cK_isUnknown 57 = .ok (.bipush 7, 2) := by decide +kernel
theorem dK_isUnknown_59 : decode cK_isUnknown 59 = .ok (.if_icmp .eq 38, 3) := by decide +kernel
theorem dK_isUnknown_62 : decode cK_isUnknown 62 = .ok (.iload_n 3, 1) := by decide +kernel
theorem dK_isUnknown_63 : decode cK_isUnknown 63 = .ok (.iconst 2, 1) := by decide +kernel
theorem dK_isUnknown_64 : decode cK_isUnknown 64 = .ok (.iand, 1) := by decide +kernel
theorem dK_isUnknown_65 : decode cK_isUnknown 65 = .ok (.ifCond .eq 15, 3) := by decide +kernel
theorem dK_isUnknown_68 : decode cK_isUnknown 68 = .ok (.iload_n 1, 1) := by decide +kernel
theorem dK_isUnknown_69 : decode cK_isUnknown 69 = .ok (.bipush 6, 2) := by decide +kernel
theorem dK_isUnknown_71 : decode cK_isUnknown 71 = .ok (.ishr, 1) := by decide +kernel
theorem dK_isUnknown_72 : decode cK_isUnknown 72 = .ok (.bipush 7, 2) := by decide +kernel
theorem dK_isUnknown_74 : decode cK_isUnknown 74 = .ok (.iand, 1) := by decide +kernel
theorem dK_isUnknown_75 : decode cK_isUnknown 75 = .ok (.bipush 7, 2) := by decide +kernel
theorem dK_isUnknown_77 : decode cK_isUnknown 77 = .ok (.if_icmp .eq 20, 3) := by decide +kernel
theorem dK_isUnknown_80 : decode cK_isUnknown 80 = .ok (.iload_n 3, 1) := by decide +kernel
theorem dK_isUnknown_81 : decode cK_isUnknown 81 = .ok (.iconst 4, 1) := by decide +kernel
theorem dK_isUnknown_82 : decode cK_isUnknown 82 = .ok (.iand, 1) := by decide +kernel
theorem dK_isUnknown_83 : decode cK_isUnknown 83 = .ok (.ifCond .eq 18, 3) := by decide +kernel
theorem dK_isUnknown_86 : decode cK_isUnknown 86 = .ok (.iload_n 1, 1) := by decide +kernel
theorem dK_isUnknown_87 : decode cK_isUnknown 87 = .ok (.iconst 3, 1) := by decide +kernel
theorem dK_isUnknown_88 : decode cK_isUnknown 88 = .ok (.ishr, 1) := by decide +kernel
theorem dK_isUnknown_89 : decode cK_isUnknown 89 = .ok (.bipush 7, 2) := by decide +kernel
theorem dK_isUnknown_91 : decode cK_isUnknown 91 = .ok (.iand, 1) := by decide +kernel
theorem dK_isUnknown_92 : decode cK_isUnknown 92 = .ok (.bipush 7, 2) := by decide +kernel
theorem dK_isUnknown_94 : decode cK_isUnknown 94 = .ok (.if_icmp .ne 7, 3) := by decide +kernel
theorem dK_isUnknown_97 : decode cK_isUnknown 97 = .ok (.iconst 1, 1) := by decide +kernel
theorem dK_isUnknown_98 : decode cK_isUnknown 98 = .ok (.goto 4, 3) := by decide +kernel
theorem dK_isUnknown_101 : decode cK_isUnknown 101 = .ok (.iconst 0, 1) := by decide +kernel
theorem dK_isUnknown_102 : decode cK_isUnknown 102 = .ok (.ireturn, 1) := by decide +kernel
theorem dK_moveData_0 : decode cK_moveData 0 = .ok (.aload_n 0, 1) := by decide +kernel
theorem dK_moveData_1 : decode cK_moveData 1 = .ok (.getfield 28, 3) := by decide +kernel
theorem dK_moveData_4 : decode cK_moveData 4 = .ok (.getfield 82, 3) := by decide +kernel
theorem dK_moveData_7 : decode cK_moveData 7 = .ok (.astore_n 2, 1) := by decide +kernel
theorem dK_moveData_8 : decode cK_moveData 8 = .ok (.iload_n 1, 1) := by decide +kernel
theorem dK_moveData_9 : decode cK_moveData 9 = .ok (.bipush 9, 2) := by decide +kernel
theorem dK_moveData_11 : decode cK_moveData 11 = .ok (.ishr, 1) := by decide +kernel
theorem dK_moveData_12 : decode cK_moveData 12 = .ok (.bipush 7, 2) := by decide +kernel
theorem dK_moveData_14 : decode cK_moveData 14 = .ok (.iand, 1) := by decide +kernel
theorem dK_moveData_15 : decode cK_moveData 15 = .ok (.istore_n 3, 1) := by decide +kernel
theorem dK_moveData_16 : decode cK_moveData 16 = .ok (.iload_n 1, 1) := by decide +kernel
theorem dK_moveData_17 : decode cK_moveData 17 = .ok (.bipush 6, 2) := by decide +kernel
theorem dK_moveData_19 : decode cK_moveData 19 = .ok (.ishr, 1) := by decide +kernel
theorem dK_moveData_20 : decode cK_moveData 20 = .ok (.bipush 7, 2) := by decide +kernel
theorem dK_moveData_22 : decode cK_moveData 22 = .ok (.iand, 1) := by decide +kernel
theorem dK_moveData_23 : decode cK_moveData 23 = .ok (.istore 4, 2) := by decide +kernel
theorem dK_moveData_25 : decode cK_moveData 25 = .ok (.iload_n 1, 1) := by decide +kernel
theorem dK_moveData_26 : decode cK_moveData 26 = .ok (.iconst 3, 1) := by decide +kernel
theorem dK_moveData_27 : decode cK_moveData 27 = .ok (.ishr, 1) := by decide +kernel
theorem dK_moveData_28 : decode cK_moveData 28 = .ok (.bipush 7, 2) := by decide +kernel
theorem dK_moveData_30 : decode cK_moveData 30 = .ok (.iand, 1) := by decide +kernel
theorem dK_moveData_31 : decode cK_moveData 31 = .ok (.istore 5, 2) := by decide +kernel
theorem dK_moveData_33 : decode cK_moveData 33 = .ok (.iload_n 1, 1) := by decide +kernel
theorem dK_moveData_34 : decode cK_moveData 34 = .ok (.bipush 63, 2) := by decide +kernel
theorem dK_moveData_36 : decode cK_moveData 36 = .ok (.iand, 1) := by decide +kernel
theorem dK_moveData_37 : decode cK_moveData 37 = .ok (.istore 6, 2) := by decide +kernel
theorem dK_moveData_39 : decode cK_moveData 39 = .ok (.iload_n 1, 1) := by decide +kernel
theorem dK_moveData_40 : decode cK_moveData 40 = .ok (.bipush 12, 2) := by decide +kernel
theorem dK_moveData_42 : decode cK_moveData 42 = .ok (.ishr, 1) := by decide +kernel
theorem dK_moveData_43 : decode cK_moveData 43 = .ok (.tableswitch 160 0 6 #[41, 52, 70, 106, 123, 140, 150], 41) := by decide +kernel
theorem dK_moveData_84 : decode cK_moveData 84 = .ok (.aload_n 2, 1) := by decide +kernel
theorem dK_moveData_85 : decode cK_moveData 85 = .ok (.iload_n 3, 1) := by decide +kernel
theorem dK_moveData_86 : decode cK_moveData 86 = .ok (.iload_n 1, 1) := by decide +kernel
theorem dK_moveData_87 : decode cK_moveData 87 = .ok (.sipush 511, 3) := by decide +kernel
theorem dK_moveData_90 : decode cK_moveData 90 = .ok (.iand, 1) := by decide +kernel
theorem dK_moveData_91 : decode cK_moveData 91 = .ok (.iastore, 1) := by decide +kernel
theorem dK_moveData_92 : decode cK_moveData 92 = .ok (.goto 111, 3) := by decide +kernel
theorem dK_moveData_95 : decode cK_moveData 95 = .ok (.aload_n 2, 1) := by decide +kernel
theorem dK_moveData_96 : decode cK_moveData 96 = .ok (.iload_n 3, 1) := by decide +kernel
theorem dK_moveData_97 : decode cK_moveData 97 = .ok (.aload_n 2, 1) := by decide +kernel
theorem dK_moveData_98 : decode cK_moveData 98 = .ok (.iload 4, 2) := by decide +kernel
theorem dK_moveData_100 : decode cK_moveData 100 = .ok (.iaload, 1) := by decide +kernel
theorem dK_moveData_101 : decode cK_moveData 101 = .ok (.aload_n 2, 1) := by decide +kernel
theorem dK_moveData_102 : decode cK_moveData 102 = .ok (.iload 5, 2) := by decide +kernel
theorem dK_moveData_104 : decode cK_moveData 104 = .ok (.iaload, 1) := by decide +kernel
theorem dK_moveData_105 : decode cK_moveData 105 = .ok (.iadd, 1) := by decide +kernel
theorem dK_moveData_106 : decode cK_moveData 106 = .ok (.ldc 39, 2) := by decide +kernel
theorem dK_moveData_108 : decode cK_moveData 108 = .ok (.iand, 1) := by decide +kernel
theorem dK_moveData_109 : decode cK_moveData 109 = .ok (.iastore, 1) := by decide +kernel
theorem dK_moveData_110 : decode cK_moveData 110 = .ok (.goto 93, 3) := by decide +kernel
theorem dK_moveData_113 : decode cK_moveData 113 = .ok (.aload_n 2, 1) := by decide +kernel
theorem dK_moveData_114 : decode cK_moveData 114 = .ok (.iload_n 3, 1) := by decide +kernel
theorem dK_moveData_115 : decode cK_moveData 115 = .ok (.aload_n 2, 1) := by decide +kernel
theorem dK_moveData_116 : decode cK_moveData 116 = .ok (.iload 4, 2) := by decide +kernel
theorem dK_moveData_118 : decode cK_moveData 118 = .ok (.iaload, 1) := by decide +kernel
theorem dK_moveData_119 : decode cK_moveData 119 = .ok (.aload_n 2, 1) := by decide +kernel
theorem dK_moveData_120 : decode cK_moveData 120 = .ok (.iload 5, 2) := by decide +kernel
theorem dK_moveData_122 : decode cK_moveData 122 = .ok (.iaload, 1) := by decide +kernel
theorem dK_moveData_123 : decode cK_moveData 123 = .ok (.isub, 1) := by decide +kernel
theorem dK_moveData_124 : decode cK_moveData 124 = .ok (.ldc 39, 2) := by decide +kernel
theorem dK_moveData_126 : decode cK_moveData 126 = .ok (.iand, 1) := by decide +kernel
theorem dK_moveData_127 : decode cK_moveData 127 = .ok (.iastore, 1) := by decide +kernel
theorem dK_moveData_128 : decode cK_moveData 128 = .ok (.aload_n 0, 1) := by decide +kernel
theorem dK_moveData_129 : decode cK_moveData 129 = .ok (.getfield 28, 3) := by decide +kernel
theorem dK_moveData_132 : decode cK_moveData 132 = .ok (.aload_n 2, 1) := by decide +kernel
theorem dK_moveData_133 : decode cK_moveData 133 = .ok (.iload_n 3, 1) := by decide +kernel
theorem dK_moveData_134 : decode cK_moveData 134 = .ok (.iaload, 1) := by decide +kernel
theorem dK_moveData_135 : decode cK_moveData 135 = .ok (.ifCond .ne 7, 3) := by decide +kernel
theorem dK_moveData_138 : decode cK_moveData 138 = .ok (.iconst 1, 1) := by decide +kernel
theorem dK_moveData_139 : decode cK_moveData 139 = .ok (.goto 4, 3) := by decide +kernel
theorem dK_moveData_142 : decode cK_moveData 142 = .ok (.iconst 0, 1) := by decide +kernel
theorem dK_moveData_143 : decode cK_moveData 143 = .ok (.putfield 88, 3) := by decide +kernel
theorem dK_moveData_146 : decode cK_moveData 146 = .ok (.goto 57, 3) := by decide +kernel
theorem dK_moveData_149 : decode cK_moveData 149 = .ok (.aload_n 2, 1) := by decide +kernel
theorem dK_moveData_150 : decode cK_moveData 150 = .ok (.iload_n 3, 1) := by decide +kernel
theorem dK_moveData_151 : decode cK_moveData 151 = .ok (.aload_n 0, 1) := by decide +kernel
theorem dK_moveData_152 : decode cK_moveData 152 = .ok (.aload_n 2, 1) := by decide +kernel
theorem dK_moveData_153 : decode cK_moveData 153 = .ok (.iload 4, 2) := by decide +kernel
theorem dK_moveData_155 : decode cK_moveData 155 = .ok (.iaload, 1) := by decide +kernel
theorem dK_moveData_156 : decode cK_moveData 156 = .ok (.iload 6, 2) := by decide +kernel
theorem dK_moveData_158 : decode cK_moveData 158 = .ok (.iadd, 1) := by decide +kernel
theorem dK_moveData_159 : decode cK_moveData 159 = .ok (.invokevirtual 131, 3) := by decide +kernel
theorem dK_moveData_162 : decode cK_moveData 162 = .ok (.iastore, 1) := by decide +kernel
theorem dK_moveData_163 : decode cK_moveData 163 = .ok (.goto 40, 3) := by decide +kernel
theorem dK_moveData_166 : decode cK_moveData 166 = .ok (.aload_n 0, 1) := by decide +kernel
theorem dK_moveData_167 : decode cK_moveData 167 = .ok (.aload_n 2, 1) := by decide +kernel
theorem dK_moveData_168 : decode cK_moveData 168 = .ok (.iload 4, 2) := by decide +kernel
theorem dK_moveData_170 : decode cK_moveData 170 = .ok (.iaload, 1) := by decide +kernel
theorem dK_moveData_171 : decode cK_moveData 171 = .ok (.iload 6, 2) := by decide +kernel
theorem dK_moveData_173 : decode cK_moveData 173 = .ok (.iadd, 1) := by decide +kernel
theorem dK_moveData_174 : decode cK_moveData 174 = .ok (.aload_n 2, 1) := by decide +kernel
theorem dK_moveData_175 : decode cK_moveData 175 = .ok (.iload_n 3, 1) := by decide +kernel
theorem dK_moveData_176 : decode cK_moveData 176 = .ok (.iaload, 1) := by decide +kernel
theorem dK_moveData_177 : decode cK_moveData 177 = .ok (.invokevirtual 134, 3) := by decide +kernel
theorem dK_moveData_180 : decode cK_moveData 180 = .ok (.goto 23, 3) := by decide +kernel
theorem dK_moveData_183 : decode cK_moveData 183 = .ok (.aload_n 0, 1) := by decide +kernel
theorem dK_moveData_184 : decode cK_moveData 184 = .ok (.aload_n 2, 1) := by decide +kernel
theorem dK_moveData_185 : decode cK_moveData 185 = .ok (.iload_n 3, 1) := by decide +kernel
theorem dK_moveData_186 : decode cK_moveData 186 = .ok (.iaload, 1) := by decide +kernel
theorem dK_moveData_187 : decode cK_moveData 187 = .ok (.invokevirtual 138, 3) := by decide +kernel
theorem dK_moveData_190 : decode cK_moveData 190 = .ok (.goto 13, 3) := by decide +kernel
theorem dK_moveData_193 : decode cK_moveData 193 = .ok (.aload_n 2, 1) := by decide +kernel
theorem dK_moveData_194 : decode cK_moveData 194 = .ok (.iload_n 3, 1) := by decide +kernel
theorem dK_moveData_195 : decode cK_moveData 195 = .ok (.aload_n 0, 1) := by decide +kernel
theorem dK_moveData_196 : decode cK_moveData 196 = .ok (.invokevirtual 141, 3) := by decide +kernel
theorem dK_moveData_199 : decode cK_moveData 199 = .ok (.iastore, 1) := by decide +kernel
theorem dK_moveData_200 : decode cK_moveData 200 = .ok (.goto 3, 3) := by decide +kernel
theorem dK_moveData_203 : decode cK_moveData 203 = .ok (.return_, 1) := by decide +kernel
theorem dK_changeFlow_0 : decode cK_changeFlow 0 = .ok (.aload_n 0, 1) := by decide +kernel
theorem dK_changeFlow_1 : decode cK_changeFlow 1 = .ok (.getfield 28, 3) := by decide +kernel
theorem dK_changeFlow_4 : decode cK_changeFlow 4 = .ok (.getfield 82, 3) := by decide +kernel
theorem dK_changeFlow_7 : decode cK_changeFlow 7 = .ok (.iload_n 1, 1) := by decide +kernel
theorem dK_changeFlow_8 : decode cK_changeFlow 8 = .ok (.bipush 6, 2) := by decide +kernel
theorem dK_changeFlow_10 : decode cK_changeFlow 10 = .ok (.ishr, 1) := by decide +kernel
theorem dK_changeFlow_11 : decode cK_changeFlow 11 = .ok (.bipush 7, 2) := by decide +kernel
theorem dK_changeFlow_13 : decode cK_changeFlow 13 = .ok (.iand, 1) := by decide +kernel
theorem dK_changeFlow_14 : decode cK_changeFlow 14 = .ok (.iaload, 1) := by decide +kernel
theorem dK_changeFlow_15 : decode cK_changeFlow 15 = .ok (.istore_n 2, 1) := by decide +kernel
theorem dK_changeFlow_16 : decode cK_changeFlow 16 = .ok (.iload_n 1, 1) := by decide +kernel
theorem dK_changeFlow_17 : decode cK_changeFlow 17 = .ok (.bipush 12, 2) := by decide +kernel
theorem dK_changeFlow_19 : decode cK_changeFlow 19 = .ok (.ishr, 1) := by decide +kernel
theorem dK_changeFlow_20 : decode cK_changeFlow 20 = .ok (.tableswitch 138 7 15 #[52, 60, 78, 138, 86, 94, 102, 109, 130], 52) := by decide +kernel
theorem dK_changeFlow_72 : decode cK_changeFlow 72 = .ok (.aload_n 0, 1) := by decide +kernel
theorem dK_changeFlow_73 : decode cK_changeFlow 73 = .ok (.iload_n 1, 1) := by decide +kernel
theorem dK_changeFlow_74 : decode cK_changeFlow 74 = .ok (.invokevirtual 111, 3) := by decide +kernel
theorem dK_changeFlow_77 : decode cK_changeFlow 77 = .ok (.goto 81, 3) := by decide +kernel
theorem dK_changeFlow_80 : decode cK_changeFlow 80 = .ok (.aload_n 0, 1) := by decide +kernel
theorem dK_changeFlow_81 : decode cK_changeFlow 81 = .ok (.getfield 28, 3) := by decide +kernel
theorem dK_changeFlow_84 : decode cK_changeFlow 84 = .ok (.getfield 88, 3) := by decide +kernel
theorem dK_changeFlow_87 : decode cK_changeFlow 87 = .ok (.ifCond .eq 71, 3) := by decide +kernel
theorem dK_changeFlow_90 : decode cK_changeFlow 90 = .ok (.aload_n 0, 1) := by decide +kernel
theorem dK_changeFlow_91 : decode cK_changeFlow 91 = .ok (.iload_n 1, 1) := by decide +kernel
theorem dK_changeFlow_92 : decode cK_changeFlow 92 = .ok (.invokevirtual 111, 3) := by decide +kernel
theorem dK_changeFlow_95 : decode cK_changeFlow 95 = .ok (.goto 63, 3) := by decide +kernel
theorem dK_changeFlow_98 : decode cK_changeFlow 98 = .ok (.aload_n 0, 1) := by decide +kernel
theorem dK_changeFlow_99 : decode cK_changeFlow 99 = .ok (.iload_n 2, 1) := by decide +kernel
theorem dK_changeFlow_100 : decode cK_changeFlow 100 = .ok (.invokevirtual 144, 3) := by decide +kernel
theorem dK_changeFlow_103 : decode cK_changeFlow 103 = .ok (.goto 55, 3) := by decide +kernel
theorem dK_changeFlow_106 : decode cK_changeFlow 106 = .ok (.aload_n 0, 1) := by decide +kernel
theorem dK_changeFlow_107 : decode cK_changeFlow 107 = .ok (.iload_n 2, 1) := by decide +kernel
theorem dK_changeFlow_108 : decode cK_changeFlow 108 = .ok (.invokevirtual 147, 3) := by decide +kernel
theorem dK_changeFlow_111 : decode cK_changeFlow 111 = .ok (.goto 47, 3) := by decide +kernel
theorem dK_changeFlow_114 : decode cK_changeFlow 114 = .ok (.aload_n 0, 1) := by decide +kernel
theorem dK_changeFlow_115 : decode cK_changeFlow 115 = .ok (.iload_n 2, 1) := by decide +kernel
theorem dK_changeFlow_116 : decode cK_changeFlow 116 = .ok (.invokevirtual 150, 3) := by decide +kernel
theorem dK_changeFlow_119 : decode cK_changeFlow 119 = .ok (.goto 39, 3) := by decide +kernel
theorem dK_changeFlow_122 : decode cK_changeFlow 122 = .ok (.aload_n 0, 1) := by decide +kernel
theorem dK_changeFlow_123 : decode cK_changeFlow 123 = .ok (.invokevirtual 153, 3) := by decide +kernel
theorem dK_changeFlow_126 : decode cK_changeFlow 126 = .ok (.goto 32, 3) := by decide +kernel
theorem dK_changeFlow_129 : decode cK_changeFlow 129 = .ok (.aload_n 0, 1) := by decide +kernel
theorem dK_changeFlow_130 : decode cK_changeFlow 130 = .ok (.dup, 1) := by decide +kernel
theorem dK_changeFlow_131 : decode cK_changeFlow 131 = .ok (.getfield 79, 3) := by decide +kernel
theorem dK_changeFlow_134 : decode cK_changeFlow 134 = .ok (.iconst 1, 1) := by decide +kernel
theorem dK_changeFlow_135 : decode cK_changeFlow 135 = .ok (.iconst 3, 1) := by decide +kernel
theorem dK_changeFlow_136 : decode cK_changeFlow 136 = .ok (.iload_n 1, 1) := by decide +kernel
theorem dK_changeFlow_137 : decode cK_changeFlow 137 = .ok (.iconst 3, 1) := by decide +kernel
theorem dK_changeFlow_138 : decode cK_changeFlow 138 = .ok (.ishr, 1) := by decide +kernel
theorem dK_changeFlow_139 : decode cK_changeFlow 139 = .ok (.iconst 3, 1) := by decide +kernel
theorem dK_changeFlow_140 : decode cK_changeFlow 140 = .ok (.iand, 1) := by decide +kernel
theorem dK_changeFlow_141 : decode cK_changeFlow 141 = .ok (.iadd, 1) := by decide +kernel
theorem dK_changeFlow_142 : decode cK_changeFlow 142 = .ok (.ishl, 1) := by decide +kernel
theorem dK_changeFlow_143 : decode cK_changeFlow 143 = .ok (.ior, 1) := by decide +kernel
theorem dK_changeFlow_144 : decode cK_changeFlow 144 = .ok (.putfield 79, 3) := by decide +kernel
theorem dK_changeFlow_147 : decode cK_changeFlow 147 = .ok (.goto 11, 3) := by decide +kernel
theorem dK_changeFlow_150 : decode cK_changeFlow 150 = .ok (.aload_n 0, 1) := by decide +kernel
theorem dK_changeFlow_151 : decode cK_changeFlow 151 = .ok (.iconst 1, 1) := by decide +kernel
theorem dK_changeFlow_152 : decode cK_changeFlow 152 = .ok (.putfield 76, 3) := by decide +kernel
theorem dK_changeFlow_155 : decode cK_changeFlow 155 = .ok (.goto 3, 3) := by decide +kernel
theorem dK_changeFlow_158 : decode cK_changeFlow 158 = .ok (.return_, 1) := by decide +kernel
theorem dK_goTo_0 : decode cK_goTo 0 = .ok (.aload_n 0, 1) := by decide +kernel
theorem dK_goTo_1 : decode cK_goTo 1 = .ok (.getfield 28, 3) := by decide +kernel
theorem dK_goTo_4 : decode cK_goTo 4 = .ok (.iload_n 1, 1) := by decide +kernel
theorem dK_goTo_5 : decode cK_goTo 5 = .ok (.sipush 255, 3) := by decide +kernel
theorem dK_goTo_8 : decode cK_goTo 8 = .ok (.iand, 1) := by decide +kernel
theorem dK_goTo_9 : decode cK_goTo 9 = .ok (.putfield 61, 3) := by decide +kernel
theorem dK_goTo_12 : decode cK_goTo 12 = .ok (.return_, 1) := by decide +kernel
theorem dK_call_0 : decode cK_call 0 = .ok (.aload_n 0, 1) := by decide +kernel
theorem dK_call_1 : decode cK_call 1 = .ok (.getfield 28, 3) := by decide +kernel
theorem dK_call_4 : decode cK_call 4 = .ok (.getfield 82, 3) := by decide +kernel
theorem dK_call_7 : decode cK_call 7 = .ok (.bipush 6, 2) := by decide +kernel
theorem dK_call_9 : decode cK_call 9 = .ok (.aload_n 0, 1) := by decide +kernel
theorem dK_call_10 : decode cK_call 10 = .ok (.getfield 28, 3) := by decide +kernel
theorem dK_call_13 : decode cK_call 13 = .ok (.getfield 61, 3) := by decide +kernel
theorem dK_call_16 : decode cK_call 16 = .ok (.iastore, 1) := by decide +kernel
theorem dK_call_17 : decode cK_call 17 = .ok (.aload_n 0, 1) := by decide +kernel
theorem dK_call_18 : decode cK_call 18 = .ok (.iload_n 1, 1) := by decide +kernel
theorem dK_call_19 : decode cK_call 19 = .ok (.invokevirtual 111, 3) := by decide +kernel
theorem dK_call_22 : decode cK_call 22 = .ok (.return_, 1) := by decide +kernel
theorem dK_goOut_0 : decode cK_goOut 0 = .ok (.aload_n 0, 1) := by decide +kernel
theorem dK_goOut_1 : decode cK_goOut 1 = .ok (.getfield 28, 3) := by decide +kernel
theorem dK_goOut_4 : decode cK_goOut 4 = .ok (.iconst 1, 1) := by decide +kernel
theorem dK_goOut_5 : decode cK_goOut 5 = .ok (.putfield 64, 3) := by decide +kernel
theorem dK_goOut_8 : decode cK_goOut 8 = .ok (.aload_n 0, 1) := by decide +kernel
theorem dK_goOut_9 : decode cK_goOut 9 = .ok (.iload_n 1, 1) := by decide +kernel
theorem dK_goOut_10 : decode cK_goOut 10 = .ok (.invokevirtual 111, 3) := by decide +kernel
theorem dK_goOut_13 : decode cK_goOut 13 = .ok (.return_, 1) := by decide +kernel
theorem dK_callOut_0 : decode cK_callOut 0 = .ok (.aload_n 0, 1) := by decide +kernel
theorem dK_callOut_1 : decode cK_callOut 1 = .ok (.aload_n 0, 1) := by decide +kernel
theorem dK_callOut_2 : decode cK_callOut 2 = .ok (.getfield 28, 3) := by decide +kernel
theorem dK_callOut_5 : decode cK_callOut 5 = .ok (.getfield 61, 3) := by decide +kernel
theorem dK_callOut_8 : decode cK_callOut 8 = .ok (.invokevirtual 138, 3) := by decide +kernel
theorem dK_callOut_11 : decode cK_callOut 11 = .ok (.aload_n 0, 1) := by decide +kernel
theorem dK_callOut_12 : decode cK_callOut 12 = .ok (.sipush 4096, 3) := by decide +kernel
theorem dK_callOut_15 : decode cK_callOut 15 = .ok (.invokevirtual 138, 3) := by decide +kernel
theorem dK_callOut_18 : decode cK_callOut 18 = .ok (.aload_n 0, 1) := by decide +kernel
theorem dK_callOut_19 : decode cK_callOut 19 = .ok (.getfield 28, 3) := by decide +kernel
theorem dK_callOut_22 : decode cK_callOut 22 = .ok (.getfield 82, 3) := by decide +kernel
theorem dK_callOut_25 : decode cK_callOut 25 = .ok (.bipush 6, 2) := by decide +kernel
theorem dK_callOut_27 : decode cK_callOut 27 = .ok (.ldc 156, 2) := by decide +kernel
theorem dK_callOut_29 : decode cK_callOut 29 = .ok (.iastore, 1) := by decide +kernel
theorem dK_callOut_30 : decode cK_callOut 30 = .ok (.aload_n 0, 1) := by decide +kernel
theorem dK_callOut_31 : decode cK_callOut 31 = .ok (.iload_n 1, 1) := by decide +kernel
theorem dK_callOut_32 : decode cK_callOut 32 = .ok (.invokevirtual 147, 3) := by decide +kernel
theorem dK_callOut_35 : decode cK_callOut 35 = .ok (.return_, 1) := by decide +kernel
theorem dK_goBack_0 : decode cK_goBack 0 = .ok (.aload_n 0, 1) := by decide +kernel
theorem dK_goBack_1 : decode cK_goBack 1 = .ok (.getfield 28, 3) := by decide +kernel
theorem dK_goBack_4 : decode cK_goBack 4 = .ok (.getfield 82, 3) := by decide +kernel
theorem dK_goBack_7 : decode cK_goBack 7 = .ok (.bipush 6, 2) := by decide +kernel
theorem dK_goBack_9 : decode cK_goBack 9 = .ok (.iaload, 1) := by decide +kernel
theorem dK_goBack_10 : decode cK_goBack 10 = .ok (.istore_n 1, 1) := by decide +kernel
theorem dK_goBack_11 : decode cK_goBack 11 = .ok (.iload_n 1, 1) := by decide +kernel
theorem dK_goBack_12 : decode cK_goBack 12 = .ok (.ldc 127, 2) := by decide +kernel
theorem dK_goBack_14 : decode cK_goBack 14 = .ok (.if_icmp .ge 11, 3) := by decide +kernel
theorem dK_goBack_17 : decode cK_goBack 17 = .ok (.aload_n 0, 1) := by decide +kernel
theorem dK_goBack_18 : decode cK_goBack 18 = .ok (.iload_n 1, 1) := by decide +kernel
theorem dK_goBack_19 : decode cK_goBack 19 = .ok (.invokevirtual 111, 3) := by decide +kernel
theorem dK_goBack_22 : decode cK_goBack 22 = .ok (.goto 88, 3) := by decide +kernel
theorem dK_goBack_25 : decode cK_goBack 25 = .ok (.iload_n 1, 1) := by decide +kernel
theorem dK_goBack_26 : decode cK_goBack 26 = .ok (.ldc 157, 2) := by decide +kernel
theorem dK_goBack_28 : decode cK_goBack 28 = .ok (.if_icmp .ge 21, 3) := by decide +kernel
theorem dK_goBack_31 : decode cK_goBack 31 = .ok (.aload_n 0, 1) := by decide +kernel
theorem dK_goBack_32 : decode cK_goBack 32 = .ok (.getfield 28, 3) := by decide +kernel
theorem dK_goBack_35 : decode cK_goBack 35 = .ok (.getfield 64, 3) := by decide +kernel
theorem dK_goBack_38 : decode cK_goBack 38 = .ok (.ifCond .ne 11, 3) := by decide +kernel
theorem dK_goBack_41 : decode cK_goBack 41 = .ok (.aload_n 0, 1) := by decide +kernel
theorem dK_goBack_42 : decode cK_goBack 42 = .ok (.iload_n 1, 1) := by decide +kernel
theorem dK_goBack_43 : decode cK_goBack 43 = .ok (.invokevirtual 147, 3) := by decide +kernel
theorem dK_goBack_46 : decode cK_goBack 46 = .ok (.goto 64, 3) := by decide +kernel
theorem dK_goBack_49 : decode cK_goBack 49 = .ok (.iload_n 1, 1) := by decide +kernel
theorem dK_goBack_50 : decode cK_goBack 50 = .ok (.ldc 156, 2) := by decide +kernel
theorem dK_goBack_52 : decode cK_goBack 52 = .ok (.if_icmp .ne 20, 3) := by decide +kernel
theorem dK_goBack_55 : decode cK_goBack 55 = .ok (.aload_n 0, 1) := by decide +kernel
theorem dK_goBack_56 : decode cK_goBack 56 = .ok (.getfield 28, 3) := by decide +kernel
theorem dK_goBack_59 : decode cK_goBack 59 = .ok (.getfield 64, 3) := by decide +kernel
theorem dK_goBack_62 : decode cK_goBack 62 = .ok (.ifCond .eq 10, 3) := by decide +kernel
theorem dK_goBack_65 : decode cK_goBack 65 = .ok (.aload_n 0, 1) := by decide +kernel
theorem dK_goBack_66 : decode cK_goBack 66 = .ok (.invokevirtual 158, 3) := by decide +kernel
theorem dK_goBack_69 : decode cK_goBack 69 = .ok (.goto 41, 3) := by decide +kernel
theorem dK_goBack_72 : decode cK_goBack 72 = .ok (.iload_n 1, 1) := by decide +kernel
theorem dK_goBack_73 : decode cK_goBack 73 = .ok (.ldc 157, 2) := by decide +kernel
theorem dK_goBack_75 : decode cK_goBack 75 = .ok (.if_icmp .lt 30, 3) := by decide +kernel
theorem dK_goBack_78 : decode cK_goBack 78 = .ok (.iload_n 1, 1) := by decide +kernel
theorem dK_goBack_79 : decode cK_goBack 79 = .ok (.ldc 156, 2) := by decide +kernel
theorem dK_goBack_81 : decode cK_goBack 81 = .ok (.if_icmp .ge 24, 3) := by decide +kernel
theorem dK_goBack_84 : decode cK_goBack 84 = .ok (.aload_n 0, 1) := by decide +kernel
theorem dK_goBack_85 : decode cK_goBack 85 = .ok (.getfield 28, 3) := by decide +kernel
theorem dK_goBack_88 : decode cK_goBack 88 = .ok (.getfield 73, 3) := by decide +kernel
theorem dK_goBack_91 : decode cK_goBack 91 = .ok (.ifCond .eq 14, 3) := by decide +kernel
theorem dK_goBack_94 : decode cK_goBack 94 = .ok (.aload_n 0, 1) := by decide +kernel
theorem dK_goBack_95 : decode cK_goBack 95 = .ok (.iload_n 1, 1) := by decide +kernel
theorem dK_goBack_96 : decode cK_goBack 96 = .ok (.ldc 157, 2) := by decide +kernel
theorem dK_goBack_98 : decode cK_goBack 98 = .ok (.isub, 1) := by decide +kernel
theorem dK_goBack_99 : decode cK_goBack 99 = .ok (.invokevirtual 161, 3) := by decide +kernel
theorem dK_goBack_102 : decode cK_goBack 102 = .ok (.goto 8, 3) := by decide +kernel
theorem dK_goBack_105 : decode cK_goBack 105 = .ok (.aload_n 0, 1) := by decide +kernel
theorem dK_goBack_106 : decode cK_goBack 106 = .ok (.iconst 2, 1) := by decide +kernel
theorem dK_goBack_107 : decode cK_goBack 107 = .ok (.putfield 101, 3) := by decide +kernel
theorem dK_goBack_110 : decode cK_goBack 110 = .ok (.return_, 1) := by decide +kernel
theorem dK_endOutCall_0 : decode cK_endOutCall 0 = .ok (.aload_n 0, 1) := by decide +kernel
theorem dK_endOutCall_1 : decode cK_endOutCall 1 = .ok (.getfield 28, 3) := by decide +kernel
theorem dK_endOutCall_4 : decode cK_endOutCall 4 = .ok (.iconst 0, 1) := by decide +kernel
theorem dK_endOutCall_5 : decode cK_endOutCall 5 = .ok (.putfield 64, 3) := by decide +kernel
theorem dK_endOutCall_8 : decode cK_endOutCall 8 = .ok (.aload_n 0, 1) := by decide +kernel
theorem dK_endOutCall_9 : decode cK_endOutCall 9 = .ok (.invokevirtual 141, 3) := by decide +kernel
theorem dK_endOutCall_12 : decode cK_endOutCall 12 = .ok (.sipush 4096, 3) := by decide +kernel
theorem dK_endOutCall_15 : decode cK_endOutCall 15 = .ok (.if_icmp .eq 8, 3) := by decide +kernel
theorem dK_endOutCall_18 : decode cK_endOutCall 18 = .ok (.aload_n 0, 1) := by decide +kernel
theorem dK_endOutCall_19 : decode cK_endOutCall 19 = .ok (.iconst 2, 1) := by decide +kernel
theorem dK_endOutCall_20 : decode cK_endOutCall 20 = .ok (.putfield 101, 3) := by decide +kernel
theorem dK_endOutCall_23 : decode cK_endOutCall 23 = .ok (.aload_n 0, 1) := by decide +kernel
theorem dK_endOutCall_24 : decode cK_endOutCall 24 = .ok (.aload_n 0, 1) := by decide +kernel
theorem dK_endOutCall_25 : decode cK_endOutCall 25 = .ok (.invokevirtual 141, 3) := by decide +kernel
theorem dK_endOutCall_28 : decode cK_endOutCall 28 = .ok (.invokevirtual 111, 3) := by decide +kernel
theorem dK_endOutCall_31 : decode cK_endOutCall 31 = .ok (.return_, 1) := by decide +kernel
theorem dK_endException_0 : decode cK_endException 0 = .ok (.iload_n 1, 1) := by decide +kernel
theorem dK_endException_1 : decode cK_endException 1 = .ok (.iconst 4, 1) := by decide +kernel
theorem dK_endException_2 : decode cK_endException 2 = .ok (.ishr, 1) := by decide +kernel
theorem dK_endException_3 : decode cK_endException 3 = .ok (.bipush 7, 2) := by decide +kernel
theorem dK_endException_5 : decode cK_endException 5 = .ok (.iand, 1) := by decide +kernel
theorem dK_endException_6 : decode cK_endException 6 = .ok (.istore_n 2, 1) := by decide +kernel
theorem dK_endException_7 : decode cK_endException 7 = .ok (.aload_n 0, 1) := by decide +kernel
theorem dK_endException_8 : decode cK_endException 8 = .ok (.getfield 28, 3) := by decide +kernel
theorem dK_endException_11 : decode cK_endException 11 = .ok (.iload_n 1, 1) := by decide +kernel
theorem dK_endException_12 : decode cK_endException 12 = .ok (.iconst 1, 1) := by decide +kernel
theorem dK_endException_13 : decode cK_endException 13 = .ok (.iand, 1) := by decide +kernel
theorem dK_endException_14 : decode cK_endException 14 = .ok (.ifCond .ne 7, 3) := by decide +kernel
theorem dK_endException_17 : decode cK_endException 17 = .ok (.iconst 1, 1) := by decide +kernel
theorem dK_endException_18 : decode cK_endException 18 = .ok (.goto 4, 3) := by decide +kernel
theorem dK_endException_21 : decode cK_endException 21 = .ok (.iconst 0, 1) := by decide +kernel
theorem dK_endException_22 : decode cK_endException 22 = .ok (.putfield 64, 3) := by decide +kernel
theorem dK_endException_25 : decode cK_endException 25 = .ok (.aload_n 0, 1) := by decide +kernel
theorem dK_endException_26 : decode cK_endException 26 = .ok (.invokevirtual 141, 3) := by decide +kernel
theorem dK_endException_29 : decode cK_endException 29 = .ok (.sipush 1000, 3) := by decide +kernel
theorem dK_endException_32 : decode cK_endException 32 = .ok (.iload_n 2, 1) := by decide +kernel
theorem dK_endException_33 : decode cK_endException 33 = .ok (.iadd, 1) := by decide +kernel
theorem dK_endException_34 : decode cK_endException 34 = .ok (.if_icmp .eq 8, 3) := by decide +kernel
theorem dK_endException_37 : decode cK_endException 37 = .ok (.aload_n 0, 1) := by decide +kernel
theorem dK_endException_38 : decode cK_endException 38 = .ok (.iconst 2, 1) := by decide +kernel
theorem dK_endException_39 : decode cK_endException 39 = .ok (.putfield 101, 3) := by decide +kernel
theorem dK_endException_42 : decode cK_endException 42 = .ok (.iconst 5, 1) := by decide +kernel
theorem dK_endException_43 : decode cK_endException 43 = .ok (.istore_n 3, 1) := by decide +kernel
theorem dK_endException_44 : decode cK_endException 44 = .ok (.iload_n 3, 1) := by decide +kernel
theorem dK_endException_45 : decode cK_endException 45 = .ok (.ifCond .lt 22, 3) := by decide +kernel
theorem dK_endException_48 : decode cK_endException 48 = .ok (.aload_n 0, 1) := by decide +kernel
theorem dK_endException_49 : decode cK_endException 49 = .ok (.getfield 28, 3) := by decide +kernel
theorem dK_endException_52 : decode cK_endException 52 = .ok (.getfield 82, 3) := by decide +kernel
theorem dK_endException_55 : decode cK_endException 55 = .ok (.iload_n 3, 1) := by decide +kernel
theorem dK_endException_56 : decode cK_endException 56 = .ok (.aload_n 0, 1) := by decide +kernel
theorem dK_endException_57 : decode cK_endException 57 = .ok (.invokevirtual 141, 3) := by decide +kernel
theorem dK_endException_60 : decode cK_endException 60 = .ok (.iastore, 1) := by decide +kernel
theorem dK_endException_61 : decode cK_endException 61 = .ok (.iinc 3 (-1), 3) := by decide +kernel
theorem dK_endException_64 : decode cK_endException 64 = .ok (.goto (-20), 3) := by decide +kernel
theorem dK_endException_67 : decode cK_endException 67 = .ok (.aload_n 0, 1) := by decide +kernel
theorem dK_endException_68 : decode cK_endException 68 = .ok (.getfield 28, 3) := by decide +kernel
theorem dK_endException_71 : decode cK_endException 71 = .ok (.getfield 82, 3) := by decide +kernel
theorem dK_endException_74 : decode cK_endException 74 = .ok (.bipush 6, 2) := by decide +kernel
theorem dK_endException_76 : decode cK_endException 76 = .ok (.aload_n 0, 1) := by decide +kernel
theorem dK_endException_77 : decode cK_endException 77 = .ok (.invokevirtual 141, 3) := by decide +kernel
theorem dK_endException_80 : decode cK_endException 80 = .ok (.iastore, 1) := by decide +kernel
theorem dK_endException_81 : decode cK_endException 81 = .ok (.aload_n 0, 1) := by decide +kernel
theorem dK_endException_82 : decode cK_endException 82 = .ok (.getfield 28, 3) := by decide +kernel
theorem dK_endException_85 : decode cK_endException 85 = .ok (.aload_n 0, 1) := by decide +kernel
theorem dK_endException_86 : decode cK_endException 86 = .ok (.invokevirtual 141, 3) := by decide +kernel
theorem dK_endException_89 : decode cK_endException 89 = .ok (.ifCond .eq 7, 3) := by decide +kernel
theorem dK_endException_92 : decode cK_endException 92 = .ok (.iconst 1, 1) := by decide +kernel
theorem dK_endException_93 : decode cK_endException 93 = .ok (.goto 4, 3) := by decide +kernel
theorem dK_endException_96 : decode cK_endException 96 = .ok (.iconst 0, 1) := by decide +kernel
theorem dK_endException_97 : decode cK_endException 97 = .ok (.putfield 88, 3) := by decide +kernel
theorem dK_endException_100 : decode cK_endException 100 = .ok (.aload_n 0, 1) := by decide +kernel
theorem dK_endException_101 : decode cK_endException 101 = .ok (.aload_n 0, 1) := by decide +kernel
theorem dK_endException_102 : decode cK_endException 102 = .ok (.invokevirtual 141, 3) := by decide +kernel
theorem dK_endException_105 : decode cK_endException 105 = .ok (.invokevirtual 111, 3) := by decide +kernel
theorem dK_endException_108 : decode cK_endException 108 = .ok (.aload_n 0, 1) := by decide +kernel
theorem dK_endException_109 : decode cK_endException 109 = .ok (.getfield 28, 3) := by decide +kernel
theorem dK_endException_112 : decode cK_endException 112 = .ok (.iload_n 2, 1) := by decide +kernel
theorem dK_endException_113 : decode cK_endException 113 = .ok (.putfield 73, 3) := by decide +kernel
theorem dK_endException_116 : decode cK_endException 116 = .ok (.return_, 1) := by decide +kernel
theorem dK_answerFault_0 : decode cK_answerFault 0 = .ok (.aload_n 0, 1) := by decide +kernel
theorem dK_answerFault_1 : decode cK_answerFault 1 = .ok (.getfield 28, 3) := by decide +kernel
theorem dK_answerFault_4 : decode cK_answerFault 4 = .ok (.aload_n 0, 1) := by decide +kernel
theorem dK_answerFault_5 : decode cK_answerFault 5 = .ok (.getfield 32, 3) := by decide +kernel
theorem dK_answerFault_8 : decode cK_answerFault 8 = .ok (.invokevirtual 97, 3) := by decide +kernel
theorem dK_answerFault_11 : decode cK_answerFault 11 = .ok (.aload_n 0, 1) := by decide +kernel
theorem dK_answerFault_12 : decode cK_answerFault 12 = .ok (.getfield 35, 3) := by decide +kernel
theorem dK_answerFault_15 : decode cK_answerFault 15 = .ok (.ifCond .eq 10, 3) := by decide +kernel
theorem dK_answerFault_18 : decode cK_answerFault 18 = .ok (.aload_n 0, 1) := by decide +kernel
theorem dK_answerFault_19 : decode cK_answerFault 19 = .ok (.getfield 101, 3) := by decide +kernel
theorem dK_answerFault_22 : decode cK_answerFault 22 = .ok (.goto 4, 3) := by decide +kernel
theorem dK_answerFault_25 : decode cK_answerFault 25 = .ok (.iconst 1, 1) := by decide +kernel
theorem dK_answerFault_26 : decode cK_answerFault 26 = .ok (.istore_n 1, 1) := by decide +kernel
theorem dK_answerFault_27 : decode cK_answerFault 27 = .ok (.aload_n 0, 1) := by decide +kernel
theorem dK_answerFault_28 : decode cK_answerFault 28 = .ok (.getfield 28, 3) := by decide +kernel
theorem dK_answerFault_31 : decode cK_answerFault 31 = .ok (.getfield 73, 3) := by decide +kernel
theorem dK_answerFault_34 : decode cK_answerFault 34 = .ok (.iconst 1, 1) := by decide +kernel
theorem dK_answerFault_35 : decode cK_answerFault 35 = .ok (.if_icmp .eq 19, 3) := by decide +kernel
theorem dK_answerFault_38 : decode cK_answerFault 38 = .ok (.aload_n 0, 1) := by decide +kernel
theorem dK_answerFault_39 : decode cK_answerFault 39 = .ok (.getfield 28, 3) := by decide +kernel
theorem dK_answerFault_42 : decode cK_answerFault 42 = .ok (.getfield 73, 3) := by decide +kernel
theorem dK_answerFault_45 : decode cK_answerFault 45 = .ok (.iconst 2, 1) := by decide +kernel
theorem dK_answerFault_46 : decode cK_answerFault 46 = .ok (.if_icmp .ne 16, 3) := by decide +kernel
theorem dK_answerFault_49 : decode cK_answerFault 49 = .ok (.iload_n 1, 1) := by decide +kernel
theorem dK_answerFault_50 : decode cK_answerFault 50 = .ok (.iconst 2, 1) := by decide +kernel
theorem dK_answerFault_51 : decode cK_answerFault 51 = .ok (.if_icmp .ne 11, 3) := by decide +kernel
theorem dK_answerFault_54 : decode cK_answerFault 54 = .ok (.aload_n 0, 1) := by decide +kernel
theorem dK_answerFault_55 : decode cK_answerFault 55 = .ok (.iconst 2, 1) := by decide +kernel
theorem dK_answerFault_56 : decode cK_answerFault 56 = .ok (.putfield 76, 3) := by decide +kernel
theorem dK_answerFault_59 : decode cK_answerFault 59 = .ok (.goto 8, 3) := by decide +kernel
theorem dK_answerFault_62 : decode cK_answerFault 62 = .ok (.aload_n 0, 1) := by decide +kernel
theorem dK_answerFault_63 : decode cK_answerFault 63 = .ok (.iload_n 1, 1) := by decide +kernel
theorem dK_answerFault_64 : decode cK_answerFault 64 = .ok (.invokevirtual 124, 3) := by decide +kernel
theorem dK_answerFault_67 : decode cK_answerFault 67 = .ok (.return_, 1) := by decide +kernel
theorem dK_take_0 : decode cK_take 0 = .ok (.aload_n 0, 1) := by decide +kernel
theorem dK_take_1 : decode cK_take 1 = .ok (.getfield 32, 3) := by decide +kernel
theorem dK_take_4 : decode cK_take 4 = .ok (.aload_n 0, 1) := by decide +kernel
theorem dK_take_5 : decode cK_take 5 = .ok (.getfield 28, 3) := by decide +kernel
theorem dK_take_8 : decode cK_take 8 = .ok (.invokevirtual 97, 3) := by decide +kernel
theorem dK_take_11 : decode cK_take 11 = .ok (.aload_n 0, 1) := by decide +kernel
theorem dK_take_12 : decode cK_take 12 = .ok (.iconst 0, 1) := by decide +kernel
theorem dK_take_13 : decode cK_take 13 = .ok (.putfield 101, 3) := by decide +kernel
theorem dK_take_16 : decode cK_take 16 = .ok (.aload_n 0, 1) := by decide +kernel
theorem dK_take_17 : decode cK_take 17 = .ok (.invokevirtual 164, 3) := by decide +kernel
theorem dK_take_20 : decode cK_take 20 = .ok (.aload_n 0, 1) := by decide +kernel
theorem dK_take_21 : decode cK_take 21 = .ok (.getfield 101, 3) := by decide +kernel
theorem dK_take_24 : decode cK_take 24 = .ok (.ifCond .eq 22, 3) := by decide +kernel
theorem dK_take_27 : decode cK_take 27 = .ok (.aload_n 0, 1) := by decide +kernel
theorem dK_take_28 : decode cK_take 28 = .ok (.getfield 28, 3) := by decide +kernel
theorem dK_take_31 : decode cK_take 31 = .ok (.aload_n 0, 1) := by decide +kernel
theorem dK_take_32 : decode cK_take 32 = .ok (.getfield 32, 3) := by decide +kernel
theorem dK_take_35 : decode cK_take 35 = .ok (.invokevirtual 97, 3) := by decide +kernel
theorem dK_take_38 : decode cK_take 38 = .ok (.aload_n 0, 1) := by decide +kernel
theorem dK_take_39 : decode cK_take 39 = .ok (.iconst 2, 1) := by decide +kernel
theorem dK_take_40 : decode cK_take 40 = .ok (.putfield 76, 3) := by decide +kernel
theorem dK_take_43 : decode cK_take 43 = .ok (.goto 8, 3) := by decide +kernel
theorem dK_take_46 : decode cK_take 46 = .ok (.aload_n 0, 1) := by decide +kernel
theorem dK_take_47 : decode cK_take 47 = .ok (.iload_n 1, 1) := by decide +kernel
theorem dK_take_48 : decode cK_take 48 = .ok (.invokevirtual 167, 3) := by decide +kernel
theorem dK_take_51 : decode cK_take 51 = .ok (.return_, 1) := by decide +kernel
theorem dK_pushFrame_0 : decode cK_pushFrame 0 = .ok (.aload_n 0, 1) := by decide +kernel
theorem dK_pushFrame_1 : decode cK_pushFrame 1 = .ok (.aload_n 0, 1) := by decide +kernel
theorem dK_pushFrame_2 : decode cK_pushFrame 2 = .ok (.getfield 28, 3) := by decide +kernel
theorem dK_pushFrame_5 : decode cK_pushFrame 5 = .ok (.getfield 61, 3) := by decide +kernel
theorem dK_pushFrame_8 : decode cK_pushFrame 8 = .ok (.invokevirtual 138, 3) := by decide +kernel
theorem dK_pushFrame_11 : decode cK_pushFrame 11 = .ok (.aload_n 0, 1) := by decide +kernel
theorem dK_pushFrame_12 : decode cK_pushFrame 12 = .ok (.aload_n 0, 1) := by decide +kernel
theorem dK_pushFrame_13 : decode cK_pushFrame 13 = .ok (.getfield 28, 3) := by decide +kernel
theorem dK_pushFrame_16 : decode cK_pushFrame 16 = .ok (.getfield 88, 3) := by decide +kernel
theorem dK_pushFrame_19 : decode cK_pushFrame 19 = .ok (.ifCond .eq 7, 3) := by decide +kernel
theorem dK_pushFrame_22 : decode cK_pushFrame 22 = .ok (.iconst 1, 1) := by decide +kernel
theorem dK_pushFrame_23 : decode cK_pushFrame 23 = .ok (.goto 4, 3) := by decide +kernel
theorem dK_pushFrame_26 : decode cK_pushFrame 26 = .ok (.iconst 0, 1) := by decide +kernel
theorem dK_pushFrame_27 : decode cK_pushFrame 27 = .ok (.invokevirtual 138, 3) := by decide +kernel
theorem dK_pushFrame_30 : decode cK_pushFrame 30 = .ok (.aload_n 0, 1) := by decide +kernel
theorem dK_pushFrame_31 : decode cK_pushFrame 31 = .ok (.aload_n 0, 1) := by decide +kernel
theorem dK_pushFrame_32 : decode cK_pushFrame 32 = .ok (.getfield 28, 3) := by decide +kernel
theorem dK_pushFrame_35 : decode cK_pushFrame 35 = .ok (.getfield 82, 3) := by decide +kernel
theorem dK_pushFrame_38 : decode cK_pushFrame 38 = .ok (.bipush 6, 2) := by decide +kernel
theorem dK_pushFrame_40 : decode cK_pushFrame 40 = .ok (.iaload, 1) := by decide +kernel
theorem dK_pushFrame_41 : decode cK_pushFrame 41 = .ok (.invokevirtual 138, 3) := by decide +kernel
theorem dK_pushFrame_44 : decode cK_pushFrame 44 = .ok (.iconst 0, 1) := by decide +kernel
theorem dK_pushFrame_45 : decode cK_pushFrame 45 = .ok (.istore_n 1, 1) := by decide +kernel
theorem dK_pushFrame_46 : decode cK_pushFrame 46 = .ok (.iload_n 1, 1) := by decide +kernel
theorem dK_pushFrame_47 : decode cK_pushFrame 47 = .ok (.bipush 6, 2) := by decide +kernel
theorem dK_pushFrame_49 : decode cK_pushFrame 49 = .ok (.if_icmp .ge 22, 3) := by decide +kernel
theorem dK_pushFrame_52 : decode cK_pushFrame 52 = .ok (.aload_n 0, 1) := by decide +kernel
theorem dK_pushFrame_53 : decode cK_pushFrame 53 = .ok (.aload_n 0, 1) := by decide +kernel
theorem dK_pushFrame_54 : decode cK_pushFrame 54 = .ok (.getfield 28, 3) := by decide +kernel
theorem dK_pushFrame_57 : decode cK_pushFrame 57 = .ok (.getfield 82, 3) := by decide +kernel
theorem dK_pushFrame_60 : decode cK_pushFrame 60 = .ok (.iload_n 1, 1) := by decide +kernel
theorem dK_pushFrame_61 : decode cK_pushFrame 61 = .ok (.iaload, 1) := by decide +kernel
theorem dK_pushFrame_62 : decode cK_pushFrame 62 = .ok (.invokevirtual 138, 3) := by decide +kernel
theorem dK_pushFrame_65 : decode cK_pushFrame 65 = .ok (.iinc 1 1, 3) := by decide +kernel
theorem dK_pushFrame_68 : decode cK_pushFrame 68 = .ok (.goto (-22), 3) := by decide +kernel
theorem dK_pushFrame_71 : decode cK_pushFrame 71 = .ok (.aload_n 0, 1) := by decide +kernel
theorem dK_pushFrame_72 : decode cK_pushFrame 72 = .ok (.sipush 1000, 3) := by decide +kernel
theorem dK_pushFrame_75 : decode cK_pushFrame 75 = .ok (.aload_n 0, 1) := by decide +kernel
theorem dK_pushFrame_76 : decode cK_pushFrame 76 = .ok (.getfield 28, 3) := by decide +kernel
theorem dK_pushFrame_79 : decode cK_pushFrame 79 = .ok (.getfield 73, 3) := by decide +kernel
theorem dK_pushFrame_82 : decode cK_pushFrame 82 = .ok (.iadd, 1) := by decide +kernel
theorem dK_pushFrame_83 : decode cK_pushFrame 83 = .ok (.invokevirtual 138, 3) := by decide +kernel
theorem dK_pushFrame_86 : decode cK_pushFrame 86 = .ok (.return_, 1) := by decide +kernel
theorem dK_enter_0 : decode cK_enter 0 = .ok (.aload_n 0, 1) := by decide +kernel
theorem dK_enter_1 : decode cK_enter 1 = .ok (.iload_n 1, 1) := by decide +kernel
theorem dK_enter_2 : decode cK_enter 2 = .ok (.invokevirtual 170, 3) := by decide +kernel
theorem dK_enter_5 : decode cK_enter 5 = .ok (.istore_n 2, 1) := by decide +kernel
theorem dK_enter_6 : decode cK_enter 6 = .ok (.aload_n 0, 1) := by decide +kernel
theorem dK_enter_7 : decode cK_enter 7 = .ok (.getfield 28, 3) := by decide +kernel
theorem dK_enter_10 : decode cK_enter 10 = .ok (.getfield 82, 3) := by decide +kernel
theorem dK_enter_13 : decode cK_enter 13 = .ok (.bipush 6, 2) := by decide +kernel
theorem dK_enter_15 : decode cK_enter 15 = .ok (.ldc 157, 2) := by decide +kernel
theorem dK_enter_17 : decode cK_enter 17 = .ok (.bipush 16, 2) := by decide +kernel
theorem dK_enter_19 : decode cK_enter 19 = .ok (.aload_n 0, 1) := by decide +kernel
theorem dK_enter_20 : decode cK_enter 20 = .ok (.getfield 28, 3) := by decide +kernel
theorem dK_enter_23 : decode cK_enter 23 = .ok (.getfield 73, 3) := by decide +kernel
theorem dK_enter_26 : decode cK_enter 26 = .ok (.imul, 1) := by decide +kernel
theorem dK_enter_27 : decode cK_enter 27 = .ok (.iadd, 1) := by decide +kernel
theorem dK_enter_28 : decode cK_enter 28 = .ok (.aload_n 0, 1) := by decide +kernel
theorem dK_enter_29 : decode cK_enter 29 = .ok (.getfield 28, 3) := by decide +kernel
theorem dK_enter_32 : decode cK_enter 32 = .ok (.getfield 64, 3) := by decide +kernel
theorem dK_enter_35 : decode cK_enter 35 = .ok (.ifCond .eq 7, 3) := by decide +kernel
theorem dK_enter_38 : decode cK_enter 38 = .ok (.iconst 0, 1) := by decide +kernel
theorem dK_enter_39 : decode cK_enter 39 = .ok (.goto 4, 3) := by decide +kernel
theorem dK_enter_42 : decode cK_enter 42 = .ok (.iconst 1, 1) := by decide +kernel
theorem dK_enter_43 : decode cK_enter 43 = .ok (.iadd, 1) := by decide +kernel
theorem dK_enter_44 : decode cK_enter 44 = .ok (.iastore, 1) := by decide +kernel
theorem dK_enter_45 : decode cK_enter 45 = .ok (.aload_n 0, 1) := by decide +kernel
theorem dK_enter_46 : decode cK_enter 46 = .ok (.getfield 28, 3) := by decide +kernel
theorem dK_enter_49 : decode cK_enter 49 = .ok (.getfield 64, 3) := by decide +kernel
theorem dK_enter_52 : decode cK_enter 52 = .ok (.ifCond .ne 14, 3) := by decide +kernel
theorem dK_enter_55 : decode cK_enter 55 = .ok (.iload_n 2, 1) := by decide +kernel
theorem dK_enter_56 : decode cK_enter 56 = .ok (.ifCond .eq 10, 3) := by decide +kernel
theorem dK_enter_59 : decode cK_enter 59 = .ok (.aload_n 0, 1) := by decide +kernel
theorem dK_enter_60 : decode cK_enter 60 = .ok (.getfield 28, 3) := by decide +kernel
theorem dK_enter_63 : decode cK_enter 63 = .ok (.invokevirtual 173, 3) := by decide +kernel
theorem dK_enter_66 : decode cK_enter 66 = .ok (.aload_n 0, 1) := by decide +kernel
theorem dK_enter_67 : decode cK_enter 67 = .ok (.getfield 28, 3) := by decide +kernel
theorem dK_enter_70 : decode cK_enter 70 = .ok (.iload_n 2, 1) := by decide +kernel
theorem dK_enter_71 : decode cK_enter 71 = .ok (.putfield 64, 3) := by decide +kernel
theorem dK_enter_74 : decode cK_enter 74 = .ok (.aload_n 0, 1) := by decide +kernel
theorem dK_enter_75 : decode cK_enter 75 = .ok (.getfield 28, 3) := by decide +kernel
theorem dK_enter_78 : decode cK_enter 78 = .ok (.iload_n 1, 1) := by decide +kernel
theorem dK_enter_79 : decode cK_enter 79 = .ok (.putfield 73, 3) := by decide +kernel
theorem dK_enter_82 : decode cK_enter 82 = .ok (.aload_n 0, 1) := by decide +kernel
theorem dK_enter_83 : decode cK_enter 83 = .ok (.aload_n 0, 1) := by decide +kernel
theorem dK_enter_84 : decode cK_enter 84 = .ok (.getfield 9, 3) := by decide +kernel
theorem dK_enter_87 : decode cK_enter 87 = .ok (.bipush 8, 2) := by decide +kernel
theorem dK_enter_89 : decode cK_enter 89 = .ok (.iload_n 2, 1) := by decide +kernel
theorem dK_enter_90 : decode cK_enter 90 = .ok (.ifCond .eq 10, 3) := by decide +kernel
theorem dK_enter_93 : decode cK_enter 93 = .ok (.aload_n 0, 1) := by decide +kernel
theorem dK_enter_94 : decode cK_enter 94 = .ok (.getfield 58, 3) := by decide +kernel
theorem dK_enter_97 : decode cK_enter 97 = .ok (.goto 7, 3) := by decide +kernel
theorem dK_enter_100 : decode cK_enter 100 = .ok (.aload_n 0, 1) := by decide +kernel
theorem dK_enter_101 : decode cK_enter 101 = .ok (.getfield 55, 3) := by decide +kernel
theorem dK_enter_104 : decode cK_enter 104 = .ok (.imul, 1) := by decide +kernel
theorem dK_enter_105 : decode cK_enter 105 = .ok (.iload_n 1, 1) := by decide +kernel
theorem dK_enter_106 : decode cK_enter 106 = .ok (.iadd, 1) := by decide +kernel
theorem dK_enter_107 : decode cK_enter 107 = .ok (.sipush 255, 3) := by decide +kernel
theorem dK_enter_110 : decode cK_enter 110 = .ok (.iand, 1) := by decide +kernel
theorem dK_enter_111 : decode cK_enter 111 = .ok (.iaload, 1) := by decide +kernel
theorem dK_enter_112 : decode cK_enter 112 = .ok (.invokevirtual 111, 3) := by decide +kernel
theorem dK_enter_115 : decode cK_enter 115 = .ok (.aload_n 0, 1) := by decide +kernel
theorem dK_enter_116 : decode cK_enter 116 = .ok (.iload_n 1, 1) := by decide +kernel
theorem dK_enter_117 : decode cK_enter 117 = .ok (.putfield 91, 3) := by decide +kernel
theorem dK_enter_120 : decode cK_enter 120 = .ok (.return_, 1) := by decide +kernel
theorem dK_isHandledOpen_0 : decode cK_isHandledOpen 0 = .ok (.iload_n 1, 1) := by decide +kernel
theorem dK_isHandledOpen_1 : decode cK_isHandledOpen 1 = .ok (.iconst 3, 1) := by decide +kernel
theorem dK_isHandledOpen_2 : decode cK_isHandledOpen 2 = .ok (.if_icmp .lt 20, 3) := by decide +kernel
theorem dK_isHandledOpen_5 : decode cK_isHandledOpen 5 = .ok (.aload_n 0, 1) := by decide +kernel
theorem dK_isHandledOpen_6 : decode cK_isHandledOpen 6 = .ok (.getfield 51, 3) := by decide +kernel
theorem dK_isHandledOpen_9 : decode cK_isHandledOpen 9 = .ok (.iload_n 1, 1) := by decide +kernel
theorem dK_isHandledOpen_10 : decode cK_isHandledOpen 10 = .ok (.iconst 3, 1) := by decide +kernel
theorem dK_isHandledOpen_11 : decode cK_isHandledOpen 11 = .ok (.isub, 1) := by decide +kernel
theorem dK_isHandledOpen_12 : decode cK_isHandledOpen 12 = .ok (.ishr, 1) := by decide +kernel
theorem dK_isHandledOpen_13 : decode cK_isHandledOpen 13 = .ok (.iconst 1, 1) := by decide +kernel
theorem dK_isHandledOpen_14 : decode cK_isHandledOpen 14 = .ok (.iand, 1) := by decide +kernel
theorem dK_isHandledOpen_15 : decode cK_isHandledOpen 15 = .ok (.ifCond .ne 7, 3) := by decide +kernel
theorem dK_isHandledOpen_18 : decode cK_isHandledOpen 18 = .ok (.iconst 1, 1) := by decide +kernel
theorem dK_isHandledOpen_19 : decode cK_isHandledOpen 19 = .ok (.goto 4, 3) := by decide +kernel
theorem dK_isHandledOpen_22 : decode cK_isHandledOpen 22 = .ok (.iconst 0, 1) := by decide +kernel
theorem dK_isHandledOpen_23 : decode cK_isHandledOpen 23 = .ok (.ireturn, 1) := by decide +kernel
theorem dK_push_0 : decode cK_push 0 = .ok (.aload_n 0, 1) := by decide +kernel
theorem dK_push_1 : decode cK_push 1 = .ok (.getfield 28, 3) := by decide +kernel
theorem dK_push_4 : decode cK_push 4 = .ok (.invokevirtual 176, 3) := by decide +kernel
theorem dK_push_7 : decode cK_push 7 = .ok (.iconst 1, 1) := by decide +kernel
theorem dK_push_8 : decode cK_push 8 = .ok (.isub, 1) := by decide +kernel
theorem dK_push_9 : decode cK_push 9 = .ok (.ldc 39, 2) := by decide +kernel
theorem dK_push_11 : decode cK_push 11 = .ok (.iand, 1) := by decide +kernel
theorem dK_push_12 : decode cK_push 12 = .ok (.istore_n 2, 1) := by decide +kernel
theorem dK_push_13 : decode cK_push 13 = .ok (.aload_n 0, 1) := by decide +kernel
theorem dK_push_14 : decode cK_push 14 = .ok (.getfield 28, 3) := by decide +kernel
theorem dK_push_17 : decode cK_push 17 = .ok (.iload_n 2, 1) := by decide +kernel
theorem dK_push_18 : decode cK_push 18 = .ok (.invokevirtual 179, 3) := by decide +kernel
theorem dK_push_21 : decode cK_push 21 = .ok (.aload_n 0, 1) := by decide +kernel
theorem dK_push_22 : decode cK_push 22 = .ok (.iload_n 2, 1) := by decide +kernel
theorem dK_push_23 : decode cK_push 23 = .ok (.iload_n 1, 1) := by decide +kernel
theorem dK_push_24 : decode cK_push 24 = .ok (.invokevirtual 134, 3) := by decide +kernel
theorem dK_push_27 : decode cK_push 27 = .ok (.return_, 1) := by decide +kernel
theorem dK_pop_0 : decode cK_pop 0 = .ok (.aload_n 0, 1) := by decide +kernel
theorem dK_pop_1 : decode cK_pop 1 = .ok (.getfield 28, 3) := by decide +kernel
theorem dK_pop_4 : decode cK_pop 4 = .ok (.invokevirtual 176, 3) := by decide +kernel
theorem dK_pop_7 : decode cK_pop 7 = .ok (.istore_n 1, 1) := by decide +kernel
theorem dK_pop_8 : decode cK_pop 8 = .ok (.aload_n 0, 1) := by decide +kernel
theorem dK_pop_9 : decode cK_pop 9 = .ok (.getfield 28, 3) := by decide +kernel
theorem dK_pop_12 : decode cK_pop 12 = .ok (.iload_n 1, 1) := by decide +kernel
theorem dK_pop_13 : decode cK_pop 13 = .ok (.iconst 1, 1) := by decide +kernel
theorem dK_pop_14 : decode cK_pop 14 = .ok (.iadd, 1) := by decide +kernel
theorem dK_pop_15 : decode cK_pop 15 = .ok (.ldc 39, 2) := by decide +kernel
theorem dK_pop_17 : decode cK_pop 17 = .ok (.iand, 1) := by decide +kernel
theorem dK_pop_18 : decode cK_pop 18 = .ok (.invokevirtual 179, 3) := by decide +kernel
theorem dK_pop_21 : decode cK_pop 21 = .ok (.aload_n 0, 1) := by decide +kernel
theorem dK_pop_22 : decode cK_pop 22 = .ok (.iload_n 1, 1) := by decide +kernel
theorem dK_pop_23 : decode cK_pop 23 = .ok (.invokevirtual 131, 3) := by decide +kernel
theorem dK_pop_26 : decode cK_pop 26 = .ok (.ireturn, 1) := by decide +kernel
theorem dK_read_0 : decode cK_read 0 = .ok (.iload_n 1, 1) := by decide +kernel
theorem dK_read_1 : decode cK_read 1 = .ok (.sipush 255, 3) := by decide +kernel
theorem dK_read_4 : decode cK_read 4 = .ok (.iand, 1) := by decide +kernel
theorem dK_read_5 : decode cK_read 5 = .ok (.istore_n 2, 1) := by decide +kernel
theorem dK_read_6 : decode cK_read 6 = .ok (.aload_n 0, 1) := by decide +kernel
theorem dK_read_7 : decode cK_read 7 = .ok (.getfield 28, 3) := by decide +kernel
theorem dK_read_10 : decode cK_read 10 = .ok (.getfield 64, 3) := by decide +kernel
theorem dK_read_13 : decode cK_read 13 = .ok (.ifCond .eq 20, 3) := by decide +kernel
theorem dK_read_16 : decode cK_read 16 = .ok (.aload_n 0, 1) := by decide +kernel
theorem dK_read_17 : decode cK_read 17 = .ok (.getfield 13, 3) := by decide +kernel
theorem dK_read_20 : decode cK_read 20 = .ok (.iload_n 2, 1) := by decide +kernel
theorem dK_read_21 : decode cK_read 21 = .ok (.iaload, 1) := by decide +kernel
theorem dK_read_22 : decode cK_read 22 = .ok (.iconst 1, 1) := by decide +kernel
theorem dK_read_23 : decode cK_read 23 = .ok (.if_icmp .eq 10, 3) := by decide +kernel
theorem dK_read_26 : decode cK_read 26 = .ok (.aload_n 0, 1) := by decide +kernel
theorem dK_read_27 : decode cK_read 27 = .ok (.iconst 2, 1) := by decide +kernel
theorem dK_read_28 : decode cK_read 28 = .ok (.putfield 101, 3) := by decide +kernel
theorem dK_read_31 : decode cK_read 31 = .ok (.iconst 0, 1) := by decide +kernel
theorem dK_read_32 : decode cK_read 32 = .ok (.ireturn, 1) := by decide +kernel
theorem dK_read_33 : decode cK_read 33 = .ok (.aload_n 0, 1) := by decide +kernel
theorem dK_read_34 : decode cK_read 34 = .ok (.getfield 9, 3) := by decide +kernel
theorem dK_read_37 : decode cK_read 37 = .ok (.iload_n 2, 1) := by decide +kernel
theorem dK_read_38 : decode cK_read 38 = .ok (.iaload, 1) := by decide +kernel
theorem dK_read_39 : decode cK_read 39 = .ok (.ireturn, 1) := by decide +kernel
theorem dK_write_0 : decode cK_write 0 = .ok (.iload_n 1, 1) := by decide +kernel
theorem dK_write_1 : decode cK_write 1 = .ok (.sipush 255, 3) := by decide +kernel
theorem dK_write_4 : decode cK_write 4 = .ok (.iand, 1) := by decide +kernel
theorem dK_write_5 : decode cK_write 5 = .ok (.istore_n 3, 1) := by decide +kernel
theorem dK_write_6 : decode cK_write 6 = .ok (.aload_n 0, 1) := by decide +kernel
theorem dK_write_7 : decode cK_write 7 = .ok (.getfield 28, 3) := by decide +kernel
theorem dK_write_10 : decode cK_write 10 = .ok (.getfield 64, 3) := by decide +kernel
theorem dK_write_13 : decode cK_write 13 = .ok (.ifCond .eq 18, 3) := by decide +kernel
theorem dK_write_16 : decode cK_write 16 = .ok (.aload_n 0, 1) := by decide +kernel
theorem dK_write_17 : decode cK_write 17 = .ok (.getfield 13, 3) := by decide +kernel
theorem dK_write_20 : decode cK_write 20 = .ok (.iload_n 3, 1) := by decide +kernel
theorem dK_write_21 : decode cK_write 21 = .ok (.iaload, 1) := by decide +kernel
theorem dK_write_22 : decode cK_write 22 = .ok (.iconst 1, 1) := by decide +kernel
theorem dK_write_23 : decode cK_write 23 = .ok (.if_icmp .eq 8, 3) := by decide +kernel
theorem dK_write_26 : decode cK_write 26 = .ok (.aload_n 0, 1) := by decide +kernel
theorem dK_write_27 : decode cK_write 27 = .ok (.iconst 2, 1) := by decide +kernel
theorem dK_write_28 : decode cK_write 28 = .ok (.putfield 101, 3) := by decide +kernel
theorem dK_write_31 : decode cK_write 31 = .ok (.aload_n 0, 1) := by decide +kernel
theorem dK_write_32 : decode cK_write 32 = .ok (.getfield 101, 3) := by decide +kernel
theorem dK_write_35 : decode cK_write 35 = .ok (.ifCond .ne 10, 3) := by decide +kernel
theorem dK_write_38 : decode cK_write 38 = .ok (.aload_n 0, 1) := by decide +kernel
theorem dK_write_39 : decode cK_write 39 = .ok (.getfield 9, 3) := by decide +kernel
theorem dK_write_42 : decode cK_write 42 = .ok (.iload_n 3, 1) := by decide +kernel
theorem dK_write_43 : decode cK_write 43 = .ok (.iload_n 2, 1) := by decide +kernel
theorem dK_write_44 : decode cK_write 44 = .ok (.iastore, 1) := by decide +kernel
theorem dK_write_45 : decode cK_write 45 = .ok (.return_, 1) := by decide +kernel
theorem dQ_init_0 : decode cQ_init 0 = .ok (.aload_n 0, 1) := by decide +kernel
theorem dQ_init_1 : decode cQ_init 1 = .ok (.invokespecial 3, 3) := by decide +kernel
theorem dQ_init_4 : decode cQ_init 4 = .ok (.aload_n 0, 1) := by decide +kernel
theorem dQ_init_5 : decode cQ_init 5 = .ok (.bipush 8, 2) := by decide +kernel
theorem dQ_init_7 : decode cQ_init 7 = .ok (.newarray .int, 2) := by decide +kernel
theorem dQ_init_9 : decode cQ_init 9 = .ok (.putfield 9, 3) := by decide +kernel
theorem dQ_init_12 : decode cQ_init 12 = .ok (.aload_n 0, 1) := by decide +kernel
theorem dQ_init_13 : decode cQ_init 13 = .ok (.sipush 256, 3) := by decide +kernel
theorem dQ_init_16 : decode cQ_init 16 = .ok (.putfield 15, 3) := by decide +kernel
theorem dQ_init_19 : decode cQ_init 19 = .ok (.aload_n 0, 1) := by decide +kernel
theorem dQ_init_20 : decode cQ_init 20 = .ok (.sipush 256, 3) := by decide +kernel
theorem dQ_init_23 : decode cQ_init 23 = .ok (.putfield 19, 3) := by decide +kernel
theorem dQ_init_26 : decode cQ_init 26 = .ok (.return_, 1) := by decide +kernel
theorem dQ_copy_0 : decode cQ_copy 0 = .ok (.aload_n 1, 1) := by decide +kernel
theorem dQ_copy_1 : decode cQ_copy 1 = .ok (.getfield 9, 3) := by decide +kernel
theorem dQ_copy_4 : decode cQ_copy 4 = .ok (.iconst 0, 1) := by decide +kernel
theorem dQ_copy_5 : decode cQ_copy 5 = .ok (.aload_n 0, 1) := by decide +kernel
theorem dQ_copy_6 : decode cQ_copy 6 = .ok (.getfield 9, 3) := by decide +kernel
theorem dQ_copy_9 : decode cQ_copy 9 = .ok (.iconst 0, 1) := by decide +kernel
theorem dQ_copy_10 : decode cQ_copy 10 = .ok (.bipush 8, 2) := by decide +kernel
theorem dQ_copy_12 : decode cQ_copy 12 = .ok (.invokestatic 22, 3) := by decide +kernel
theorem dQ_copy_15 : decode cQ_copy 15 = .ok (.aload_n 0, 1) := by decide +kernel
theorem dQ_copy_16 : decode cQ_copy 16 = .ok (.aload_n 1, 1) := by decide +kernel
theorem dQ_copy_17 : decode cQ_copy 17 = .ok (.getfield 15, 3) := by decide +kernel
theorem dQ_copy_20 : decode cQ_copy 20 = .ok (.putfield 15, 3) := by decide +kernel
theorem dQ_copy_23 : decode cQ_copy 23 = .ok (.aload_n 0, 1) := by decide +kernel
theorem dQ_copy_24 : decode cQ_copy 24 = .ok (.aload_n 1, 1) := by decide +kernel
theorem dQ_copy_25 : decode cQ_copy 25 = .ok (.getfield 19, 3) := by decide +kernel
theorem dQ_copy_28 : decode cQ_copy 28 = .ok (.putfield 19, 3) := by decide +kernel
theorem dQ_copy_31 : decode cQ_copy 31 = .ok (.aload_n 0, 1) := by decide +kernel
theorem dQ_copy_32 : decode cQ_copy 32 = .ok (.aload_n 1, 1) := by decide +kernel
theorem dQ_copy_33 : decode cQ_copy 33 = .ok (.getfield 28, 3) := by decide +kernel
theorem dQ_copy_36 : decode cQ_copy 36 = .ok (.putfield 28, 3) := by decide +kernel
theorem dQ_copy_39 : decode cQ_copy 39 = .ok (.aload_n 0, 1) := by decide +kernel
theorem dQ_copy_40 : decode cQ_copy 40 = .ok (.aload_n 1, 1) := by decide +kernel
theorem dQ_copy_41 : decode cQ_copy 41 = .ok (.getfield 31, 3) := by decide +kernel
theorem dQ_copy_44 : decode cQ_copy 44 = .ok (.putfield 31, 3) := by decide +kernel
theorem dQ_copy_47 : decode cQ_copy 47 = .ok (.aload_n 0, 1) := by decide +kernel
theorem dQ_copy_48 : decode cQ_copy 48 = .ok (.aload_n 1, 1) := by decide +kernel
theorem dQ_copy_49 : decode cQ_copy 49 = .ok (.getfield 35, 3) := by decide +kernel
theorem dQ_copy_52 : decode cQ_copy 52 = .ok (.putfield 35, 3) := by decide +kernel
theorem dQ_copy_55 : decode cQ_copy 55 = .ok (.aload_n 0, 1) := by decide +kernel
theorem dQ_copy_56 : decode cQ_copy 56 = .ok (.aload_n 1, 1) := by decide +kernel
theorem dQ_copy_57 : decode cQ_copy 57 = .ok (.getfield 38, 3) := by decide +kernel
theorem dQ_copy_60 : decode cQ_copy 60 = .ok (.putfield 38, 3) := by decide +kernel
theorem dQ_copy_63 : decode cQ_copy 63 = .ok (.return_, 1) := by decide +kernel
theorem dQ_stack_0 : decode cQ_stack 0 = .ok (.aload_n 0, 1) := by decide +kernel
theorem dQ_stack_1 : decode cQ_stack 1 = .ok (.getfield 35, 3) := by decide +kernel
theorem dQ_stack_4 : decode cQ_stack 4 = .ok (.ifCond .eq 10, 3) := by decide +kernel
theorem dQ_stack_7 : decode cQ_stack 7 = .ok (.aload_n 0, 1) := by decide +kernel
theorem dQ_stack_8 : decode cQ_stack 8 = .ok (.getfield 19, 3) := by decide +kernel
theorem dQ_stack_11 : decode cQ_stack 11 = .ok (.goto 7, 3) := by decide +kernel
theorem dQ_stack_14 : decode cQ_stack 14 = .ok (.aload_n 0, 1) := by decide +kernel
theorem dQ_stack_15 : decode cQ_stack 15 = .ok (.getfield 15, 3) := by decide +kernel
theorem dQ_stack_18 : decode cQ_stack 18 = .ok (.ireturn, 1) := by decide +kernel
theorem dQ_setStack_0 : decode cQ_setStack 0 = .ok (.aload_n 0, 1) := by decide +kernel
theorem dQ_setStack_1 : decode cQ_setStack 1 = .ok (.getfield 35, 3) := by decide +kernel
theorem dQ_setStack_4 : decode cQ_setStack 4 = .ok (.ifCond .eq 11, 3) := by decide +kernel
theorem dQ_setStack_7 : decode cQ_setStack 7 = .ok (.aload_n 0, 1) := by decide +kernel
theorem dQ_setStack_8 : decode cQ_setStack 8 = .ok (.iload_n 1, 1) := by decide +kernel
theorem dQ_setStack_9 : decode cQ_setStack 9 = .ok (.putfield 19, 3) := by decide +kernel
theorem dQ_setStack_12 : decode cQ_setStack 12 = .ok (.goto 8, 3) := by decide +kernel
theorem dQ_setStack_15 : decode cQ_setStack 15 = .ok (.aload_n 0, 1) := by decide +kernel
theorem dQ_setStack_16 : decode cQ_setStack 16 = .ok (.iload_n 1, 1) := by decide +kernel
theorem dQ_setStack_17 : decode cQ_setStack 17 = .ok (.putfield 15, 3) := by decide +kernel
theorem dQ_setStack_20 : decode cQ_setStack 20 = .ok (.return_, 1) := by decide +kernel
theorem dQ_clearForOpen_0 : decode cQ_clearForOpen 0 = .ok (.iconst 0, 1) := by decide +kernel
theorem dQ_clearForOpen_1 : decode cQ_clearForOpen 1 = .ok (.istore_n 1, 1) := by decide +kernel
theorem dQ_clearForOpen_2 : decode cQ_clearForOpen 2 = .ok (.iload_n 1, 1) := by decide +kernel
theorem dQ_clearForOpen_3 : decode cQ_clearForOpen 3 = .ok (.bipush 6, 2) := by decide +kernel
theorem dQ_clearForOpen_5 : decode cQ_clearForOpen 5 = .ok (.if_icmp .ge 16, 3) := by decide +kernel
theorem dQ_clearForOpen_8 : decode cQ_clearForOpen 8 = .ok (.aload_n 0, 1) := by decide +kernel
theorem dQ_clearForOpen_9 : decode cQ_clearForOpen 9 = .ok (.getfield 9, 3) := by decide +kernel
theorem dQ_clearForOpen_12 : decode cQ_clearForOpen 12 = .ok (.iload_n 1, 1) := by decide +kernel
theorem dQ_clearForOpen_13 : decode cQ_clearForOpen 13 = .ok (.iconst 0, 1) := by decide +kernel
theorem dQ_clearForOpen_14 : decode cQ_clearForOpen 14 = .ok (.iastore, 1) := by decide +kernel
theorem dQ_clearForOpen_15 : decode cQ_clearForOpen 15 = .ok (.iinc 1 1, 3) := by decide +kernel
theorem dQ_clearForOpen_18 : decode cQ_clearForOpen 18 = .ok (.goto (-16), 3) := by decide +kernel
theorem dQ_clearForOpen_21 : decode cQ_clearForOpen 21 = .ok (.aload_n 0, 1) := by decide +kernel
theorem dQ_clearForOpen_22 : decode cQ_clearForOpen 22 = .ok (.iconst 0, 1) := by decide +kernel
theorem dQ_clearForOpen_23 : decode cQ_clearForOpen 23 = .ok (.putfield 31, 3) := by decide +kernel
theorem dQ_clearForOpen_26 : decode cQ_clearForOpen 26 = .ok (.return_, 1) := by decide +kernel
end
section
set_option maxRecDepth 100000 in
set_option maxHeartbeats 4000000 in
theorem c_k_poke (l : Launch) (D : va_G) (q : Nat → Nat) (cA : ClassId) (tN : Nat) (σ0 : St) (a1 : Int32) (a2 : Int32) : Met l yK_poke wsK_poke { frames := 0, cells := 0, slots := 0, locals := 0 } (va_Pc [.ref (q 0), .int a1, .int a2] (KPre D q cA tN σ0)) (va_Qi (fun r u => (u, r) = k_poke σ0 a1 a2) (KPost D q cA) (KA q)) 0 0 (KA q) := by
  refine Met.ofW (cc := cK_poke) (maxL := 5) (ret := (some .int)) (by decide) rfl ?_
  intro p e s m args below meth c s₁ B hml hv
  obtain ⟨rfl, hP, hB, hC⟩ := hv
  have hx := B.exec
  have hb := B.bytes
  have hr := B.returns
  have hts : ∀ w ∈ gw, w.before ([.ref (q 0), .int a1, .int a2] : List Value).toArray s = true := fun w h => atoms_spec (ws := wsK_poke) B.pre w (List.mem_cons_of_mem _ h)
  have hown : s.vm.findClass RK = some m.cls := findClass_of_methodNamed B.named
  have hlocks := B.notSynchronized
  have hS : va_S (KA q) s.heap s.heap [] := va_S.rf
  have hl := lv_entry ([.ref (q 0), .int a1, .int a2]) (n := 5) (Nat.le_of_ble_eq_true rfl)
  rw [lg_entry_eq]
  generalize (lg_sl ([.ref (q 0), .int a1, .int a2]) ++ List.replicate (5 - (lg_sl ([.ref (q 0), .int a1, .int a2])).length) Slot.unset).toArray = ls at hl ⊢
  have hl : lv_has ls 5 [(0, .ref (q 0)), (1, .int a1), (2, .int a2)] := hl
  have hE : k_poke σ0 a1 a2 = k_poke σ0 a1 a2 := rfl
  refine lv_iload_n hx hb dK_poke_0 rfl (lv_at hl 1 rfl) ?_
  refine lv_sipush (v := 255) hx hb dK_poke_1 (by decide) ?_
  refine lv_iand hx hb dK_poke_4 ?_
  refine lv_istore_n (lv' := [(3, .int (a1 &&& 255)), (0, .ref (q 0)), (1, .int a1), (2, .int a2)]) hx hb dK_poke_5 rfl hl (by decide) rfl (fun ls hl => ?_)
  refine lv_aload_n hx hb dK_poke_6 rfl (lv_at hl 1 rfl) ?_
  refine kget_0_0 hx hb hts inK hown hC hP (hts _ wK_f9) dK_poke_7 ?_
  refine lv_iload_n hx hb dK_poke_10 rfl (lv_at hl 0 rfl) ?_
  refine kald_1 hx hb hC hP (vin_m 8 (by decide) (by decide) (by decide)) dK_poke_11 ?_
  refine lv_istore (lv' := [(4, .int (σ0 1 (ix (a1 &&& 255)))), (3, .int (a1 &&& 255)), (0, .ref (q 0)), (1, .int a1), (2, .int a2)]) hx hb dK_poke_12 hl (by decide) rfl (fun ls hl => ?_)
  refine lv_aload_n hx hb dK_poke_14 rfl (lv_at hl 2 rfl) ?_
  refine kget_0_0 hx hb hts inK hown hC hP (hts _ wK_f9) dK_poke_15 ?_
  refine lv_iload_n hx hb dK_poke_18 rfl (lv_at hl 1 rfl) ?_
  refine lv_iload_n hx hb dK_poke_19 rfl (lv_at hl 4 rfl) ?_
  refine lv_ldc (v := 65535) hx hb hown (hts _ wK_c39) dK_poke_20 ?_
  refine lv_iand hx hb dK_poke_22 ?_
  refine kast_1 hx hb hC hP hS (vin_m 8 (by decide) (by decide) (by decide)) dK_poke_23 (fun σ1 H locs e1 hP hS => ?_)
  have hE := hE.trans (bd_e e1)
  have hB : KB σ1 := by rw [e1]; exact hB
  refine lv_iload hx hb dK_poke_24 (lv_at hl 0 rfl) ?_
  exact W.iret (v := (σ0 1 (ix (a1 &&& 255)))) hx hb hr (fun t ht hW => ⟨⟨(σ0 1 (ix (a1 &&& 255))), σ1, rfl, hE.symm, ⟨by rw [ht]; exact hP, hB⟩⟩, hS.F ht⟩) hS.2.2 dK_poke_26
set_option maxRecDepth 100000 in
set_option maxHeartbeats 4000000 in
theorem c_k_fill (l : Launch) (D : va_G) (q : Nat → Nat) (cA : ClassId) (tN : Nat) (σ0 : St) (a1 : Int32) (a2 : Int64) : Met l yK_fill wsK_fill { frames := 0, cells := 0, slots := 0, locals := 0 } (va_Pc [.ref (q 0), .int a1, .long a2] (KPre D q cA tN σ0)) (va_Qi (fun r u => (u, r) = k_fill σ0 a1 a2 ∧ zb r) (KPost D q cA) (KA q)) 0 0 (KA q) := by
  refine Met.ofW (cc := cK_fill) (maxL := 5) (ret := (some .boolean)) (by decide) rfl ?_
  intro p e s m args below meth c s₁ B hml hv
  obtain ⟨rfl, hP, hB, hC⟩ := hv
  have hx := B.exec
  have hb := B.bytes
  have hr := B.returns
  have hts : ∀ w ∈ gw, w.before ([.ref (q 0), .int a1, .long a2] : List Value).toArray s = true := fun w h => atoms_spec (ws := wsK_fill) B.pre w (List.mem_cons_of_mem _ h)
  have hown : s.vm.findClass RK = some m.cls := findClass_of_methodNamed B.named
  have hlocks := B.notSynchronized
  have hS : va_S (KA q) s.heap s.heap [] := va_S.rf
  have hl := lv_entry ([.ref (q 0), .int a1, .long a2]) (n := 5) (Nat.le_of_ble_eq_true rfl)
  rw [lg_entry_eq]
  generalize (lg_sl ([.ref (q 0), .int a1, .long a2]) ++ List.replicate (5 - (lg_sl ([.ref (q 0), .int a1, .long a2])).length) Slot.unset).toArray = ls at hl ⊢
  have hl : lv_has ls 5 [(0, .ref (q 0)), (1, .int a1), (2, .long a2)] := hl
  have hE : k_fill σ0 a1 a2 = k_fill σ0 a1 a2 := rfl
  have b11 : ∀ (H : Heap) (locs : List Loc) (ls : Array Slot) (σ : St), k_fill σ0 a1 a2 = k_fill_11 σ → lv_has ls 5 [] → va_P D vwCl (wsK q cA σ) H → KB σ → va_S (KA q) s.heap H locs → W p l e (headSpec wsK_fill { frames := 0, cells := 0, slots := 0, locals := 0 }).room s m ([.ref (q 0), .int a1, .long a2] : List Value).toArray below meth c H locs 0 0 (MQ below (va_Qi (fun r u => (u, r) = k_fill σ0 a1 a2 ∧ zb r) (KPost D q cA) (KA q)) ([.ref (q 0), .int a1, .long a2] : List Value).toArray s 0 0 (KA q)) (F0 m 11 ls []) := by
    intro H locs ls σ hE hl hP hB hS
    refine lv_iconst (v := 0) hx hb dK_fill_11 (by decide) ?_
    exact W.zret (v := 0) hx hb hr (zb_n (by decide)).1 (fun t ht hW => ⟨⟨0, σ, rfl, ⟨hE.symm, (by decide)⟩, ⟨by rw [ht]; exact hP, hB⟩⟩, hS.F ht⟩) hS.2.2 dK_fill_12
  have b16_4 : ∀ (H : Heap) (locs : List Loc) (ls : Array Slot) (σ : St) (x1 : Int32) (x2 : Int64), k_fill σ0 a1 a2 = k_fill_16_4 σ x1 x2 → lv_has ls 5 [(0, .ref (q 0)), (1, .int x1), (2, .long x2), (4, .int 4)] → va_P D vwCl (wsK q cA σ) H → KB σ → va_S (KA q) s.heap H locs → W p l e (headSpec wsK_fill { frames := 0, cells := 0, slots := 0, locals := 0 }).room s m ([.ref (q 0), .int a1, .long a2] : List Value).toArray below meth c H locs 0 0 (MQ below (va_Qi (fun r u => (u, r) = k_fill σ0 a1 a2 ∧ zb r) (KPost D q cA) (KA q)) ([.ref (q 0), .int a1, .long a2] : List Value).toArray s 0 0 (KA q)) (F0 m 16 ls []) := by
    intro H locs ls σ x1 x2 hE hl hP hB hS
    refine lv_iload hx hb dK_fill_16 (lv_at hl 3 rfl) ?_
    refine lv_iconst (v := 4) hx hb dK_fill_18 (by decide) ?_
    refine lv_icmp_ge (tgt := 48) hx hb dK_fill_19 rfl (fun _ => ?_) (fun h11 => absurd (by decide) h11)
    refine lv_iconst (v := 1) hx hb dK_fill_48 (by decide) ?_
    exact W.zret (v := 1) hx hb hr (zb_n (by decide)).1 (fun t ht hW => ⟨⟨1, σ, rfl, ⟨hE.symm, (by decide)⟩, ⟨by rw [ht]; exact hP, hB⟩⟩, hS.F ht⟩) hS.2.2 dK_fill_49
  have b16_3 : ∀ (H : Heap) (locs : List Loc) (ls : Array Slot) (σ : St) (x1 : Int32) (x2 : Int64), bt0 x1 252 → k_fill σ0 a1 a2 = k_fill_16_3 σ x1 x2 → lv_has ls 5 [(0, .ref (q 0)), (1, .int x1), (2, .long x2), (4, .int 3)] → va_P D vwCl (wsK q cA σ) H → KB σ → va_S (KA q) s.heap H locs → W p l e (headSpec wsK_fill { frames := 0, cells := 0, slots := 0, locals := 0 }).room s m ([.ref (q 0), .int a1, .long a2] : List Value).toArray below meth c H locs 0 0 (MQ below (va_Qi (fun r u => (u, r) = k_fill σ0 a1 a2 ∧ zb r) (KPost D q cA) (KA q)) ([.ref (q 0), .int a1, .long a2] : List Value).toArray s 0 0 (KA q)) (F0 m 16 ls []) := by
    intro H locs ls σ x1 x2 hle252_x1 hE hl hP hB hS
    refine lv_iload hx hb dK_fill_16 (lv_at hl 3 rfl) ?_
    refine lv_iconst (v := 4) hx hb dK_fill_18 (by decide) ?_
    refine lv_icmp_ge (tgt := 48) hx hb dK_fill_19 rfl (fun h9 => absurd h9 (by decide)) (fun _ => ?_)
    refine lv_aload_n hx hb dK_fill_22 rfl (lv_at hl 0 rfl) ?_
    refine kget_0_0 hx hb hts inK hown hC hP (hts _ wK_f9) dK_fill_23 ?_
    refine lv_iload_n hx hb dK_fill_26 rfl (lv_at hl 1 rfl) ?_
    refine lv_iload hx hb dK_fill_27 (lv_at hl 3 rfl) ?_
    refine lv_iadd hx hb dK_fill_29 ?_
    refine lv_lload_n hx hb dK_fill_30 rfl (lv_at hl 2 rfl) ?_
    refine lv_bipush (v := 16) hx hb dK_fill_31 (by decide) ?_
    refine lv_iload hx hb dK_fill_33 (lv_at hl 3 rfl) ?_
    refine lv_imul hx hb dK_fill_35 ?_
    refine lv_lushr (v := (x2.toUInt64 >>> (((16 * 3) : Int32).toInt64.toUInt64 &&& Int64.toUInt64 63)).toInt64) hx hb dK_fill_36 rfl ?_
    refine lv_l2i (v := ((x2.toUInt64 >>> (((16 * 3) : Int32).toInt64.toUInt64 &&& Int64.toUInt64 63)).toInt64 : Int64).toInt32) hx hb dK_fill_37 rfl ?_
    refine lv_ldc (v := 65535) hx hb hown (hts _ wK_c39) dK_fill_38 ?_
    refine lv_iand hx hb dK_fill_40 ?_
    refine kast_1 hx hb hC hP hS (vin_add hle252_x1 (by decide)) dK_fill_41 (fun σ10 H locs e10 hP hS => ?_)
    have hE := hE.trans (bd_e e10)
    have hB : KB σ10 := by rw [e10]; exact hB
    refine lv_iinc (k := 3) (v := 4) (lv' := [(4, .int 4), (0, .ref (q 0)), (1, .int x1), (2, .long x2)]) hx hb dK_fill_42 hl rfl (by decide) (by decide) rfl (fun ls hl => ?_)
    refine lv_goto (tgt := 16) hx hb dK_fill_45 rfl ?_
    have hl := lv_sub hl [1, 2, 3, 0] rfl
    exact b16_4 _ _ _ _ x1 x2 hE hl hP hB hS
  have b16_2 : ∀ (H : Heap) (locs : List Loc) (ls : Array Slot) (σ : St) (x1 : Int32) (x2 : Int64), bt0 x1 252 → k_fill σ0 a1 a2 = k_fill_16_2 σ x1 x2 → lv_has ls 5 [(0, .ref (q 0)), (1, .int x1), (2, .long x2), (4, .int 2)] → va_P D vwCl (wsK q cA σ) H → KB σ → va_S (KA q) s.heap H locs → W p l e (headSpec wsK_fill { frames := 0, cells := 0, slots := 0, locals := 0 }).room s m ([.ref (q 0), .int a1, .long a2] : List Value).toArray below meth c H locs 0 0 (MQ below (va_Qi (fun r u => (u, r) = k_fill σ0 a1 a2 ∧ zb r) (KPost D q cA) (KA q)) ([.ref (q 0), .int a1, .long a2] : List Value).toArray s 0 0 (KA q)) (F0 m 16 ls []) := by
    intro H locs ls σ x1 x2 hle252_x1 hE hl hP hB hS
    refine lv_iload hx hb dK_fill_16 (lv_at hl 3 rfl) ?_
    refine lv_iconst (v := 4) hx hb dK_fill_18 (by decide) ?_
    refine lv_icmp_ge (tgt := 48) hx hb dK_fill_19 rfl (fun h7 => absurd h7 (by decide)) (fun _ => ?_)
    refine lv_aload_n hx hb dK_fill_22 rfl (lv_at hl 0 rfl) ?_
    refine kget_0_0 hx hb hts inK hown hC hP (hts _ wK_f9) dK_fill_23 ?_
    refine lv_iload_n hx hb dK_fill_26 rfl (lv_at hl 1 rfl) ?_
    refine lv_iload hx hb dK_fill_27 (lv_at hl 3 rfl) ?_
    refine lv_iadd hx hb dK_fill_29 ?_
    refine lv_lload_n hx hb dK_fill_30 rfl (lv_at hl 2 rfl) ?_
    refine lv_bipush (v := 16) hx hb dK_fill_31 (by decide) ?_
    refine lv_iload hx hb dK_fill_33 (lv_at hl 3 rfl) ?_
    refine lv_imul hx hb dK_fill_35 ?_
    refine lv_lushr (v := (x2.toUInt64 >>> (((16 * 2) : Int32).toInt64.toUInt64 &&& Int64.toUInt64 63)).toInt64) hx hb dK_fill_36 rfl ?_
    refine lv_l2i (v := ((x2.toUInt64 >>> (((16 * 2) : Int32).toInt64.toUInt64 &&& Int64.toUInt64 63)).toInt64 : Int64).toInt32) hx hb dK_fill_37 rfl ?_
    refine lv_ldc (v := 65535) hx hb hown (hts _ wK_c39) dK_fill_38 ?_
    refine lv_iand hx hb dK_fill_40 ?_
    refine kast_1 hx hb hC hP hS (vin_add hle252_x1 (by decide)) dK_fill_41 (fun σ8 H locs e8 hP hS => ?_)
    have hE := hE.trans (bd_e e8)
    have hB : KB σ8 := by rw [e8]; exact hB
    refine lv_iinc (k := 3) (v := 3) (lv' := [(4, .int 3), (0, .ref (q 0)), (1, .int x1), (2, .long x2)]) hx hb dK_fill_42 hl rfl (by decide) (by decide) rfl (fun ls hl => ?_)
    refine lv_goto (tgt := 16) hx hb dK_fill_45 rfl ?_
    have hl := lv_sub hl [1, 2, 3, 0] rfl
    exact b16_3 _ _ _ _ x1 x2 hle252_x1 hE hl hP hB hS
  have b16_1 : ∀ (H : Heap) (locs : List Loc) (ls : Array Slot) (σ : St) (x1 : Int32) (x2 : Int64), bt0 x1 252 → k_fill σ0 a1 a2 = k_fill_16_1 σ x1 x2 → lv_has ls 5 [(0, .ref (q 0)), (1, .int x1), (2, .long x2), (4, .int 1)] → va_P D vwCl (wsK q cA σ) H → KB σ → va_S (KA q) s.heap H locs → W p l e (headSpec wsK_fill { frames := 0, cells := 0, slots := 0, locals := 0 }).room s m ([.ref (q 0), .int a1, .long a2] : List Value).toArray below meth c H locs 0 0 (MQ below (va_Qi (fun r u => (u, r) = k_fill σ0 a1 a2 ∧ zb r) (KPost D q cA) (KA q)) ([.ref (q 0), .int a1, .long a2] : List Value).toArray s 0 0 (KA q)) (F0 m 16 ls []) := by
    intro H locs ls σ x1 x2 hle252_x1 hE hl hP hB hS
    refine lv_iload hx hb dK_fill_16 (lv_at hl 3 rfl) ?_
    refine lv_iconst (v := 4) hx hb dK_fill_18 (by decide) ?_
    refine lv_icmp_ge (tgt := 48) hx hb dK_fill_19 rfl (fun h5 => absurd h5 (by decide)) (fun _ => ?_)
    refine lv_aload_n hx hb dK_fill_22 rfl (lv_at hl 0 rfl) ?_
    refine kget_0_0 hx hb hts inK hown hC hP (hts _ wK_f9) dK_fill_23 ?_
    refine lv_iload_n hx hb dK_fill_26 rfl (lv_at hl 1 rfl) ?_
    refine lv_iload hx hb dK_fill_27 (lv_at hl 3 rfl) ?_
    refine lv_iadd hx hb dK_fill_29 ?_
    refine lv_lload_n hx hb dK_fill_30 rfl (lv_at hl 2 rfl) ?_
    refine lv_bipush (v := 16) hx hb dK_fill_31 (by decide) ?_
    refine lv_iload hx hb dK_fill_33 (lv_at hl 3 rfl) ?_
    refine lv_imul hx hb dK_fill_35 ?_
    refine lv_lushr (v := (x2.toUInt64 >>> (((16 * 1) : Int32).toInt64.toUInt64 &&& Int64.toUInt64 63)).toInt64) hx hb dK_fill_36 rfl ?_
    refine lv_l2i (v := ((x2.toUInt64 >>> (((16 * 1) : Int32).toInt64.toUInt64 &&& Int64.toUInt64 63)).toInt64 : Int64).toInt32) hx hb dK_fill_37 rfl ?_
    refine lv_ldc (v := 65535) hx hb hown (hts _ wK_c39) dK_fill_38 ?_
    refine lv_iand hx hb dK_fill_40 ?_
    refine kast_1 hx hb hC hP hS (vin_add hle252_x1 (by decide)) dK_fill_41 (fun σ6 H locs e6 hP hS => ?_)
    have hE := hE.trans (bd_e e6)
    have hB : KB σ6 := by rw [e6]; exact hB
    refine lv_iinc (k := 3) (v := 2) (lv' := [(4, .int 2), (0, .ref (q 0)), (1, .int x1), (2, .long x2)]) hx hb dK_fill_42 hl rfl (by decide) (by decide) rfl (fun ls hl => ?_)
    refine lv_goto (tgt := 16) hx hb dK_fill_45 rfl ?_
    have hl := lv_sub hl [1, 2, 3, 0] rfl
    exact b16_2 _ _ _ _ x1 x2 hle252_x1 hE hl hP hB hS
  have b16_0 : ∀ (H : Heap) (locs : List Loc) (ls : Array Slot) (σ : St) (x1 : Int32) (x2 : Int64), bt0 x1 252 → k_fill σ0 a1 a2 = k_fill_16_0 σ x1 x2 → lv_has ls 5 [(0, .ref (q 0)), (1, .int x1), (2, .long x2), (4, .int 0)] → va_P D vwCl (wsK q cA σ) H → KB σ → va_S (KA q) s.heap H locs → W p l e (headSpec wsK_fill { frames := 0, cells := 0, slots := 0, locals := 0 }).room s m ([.ref (q 0), .int a1, .long a2] : List Value).toArray below meth c H locs 0 0 (MQ below (va_Qi (fun r u => (u, r) = k_fill σ0 a1 a2 ∧ zb r) (KPost D q cA) (KA q)) ([.ref (q 0), .int a1, .long a2] : List Value).toArray s 0 0 (KA q)) (F0 m 16 ls []) := by
    intro H locs ls σ x1 x2 hle252_x1 hE hl hP hB hS
    refine lv_iload hx hb dK_fill_16 (lv_at hl 3 rfl) ?_
    refine lv_iconst (v := 4) hx hb dK_fill_18 (by decide) ?_
    refine lv_icmp_ge (tgt := 48) hx hb dK_fill_19 rfl (fun h3 => absurd h3 (by decide)) (fun _ => ?_)
    refine lv_aload_n hx hb dK_fill_22 rfl (lv_at hl 0 rfl) ?_
    refine kget_0_0 hx hb hts inK hown hC hP (hts _ wK_f9) dK_fill_23 ?_
    refine lv_iload_n hx hb dK_fill_26 rfl (lv_at hl 1 rfl) ?_
    refine lv_iload hx hb dK_fill_27 (lv_at hl 3 rfl) ?_
    refine lv_iadd hx hb dK_fill_29 ?_
    refine lv_lload_n hx hb dK_fill_30 rfl (lv_at hl 2 rfl) ?_
    refine lv_bipush (v := 16) hx hb dK_fill_31 (by decide) ?_
    refine lv_iload hx hb dK_fill_33 (lv_at hl 3 rfl) ?_
    refine lv_imul hx hb dK_fill_35 ?_
    refine lv_lushr (v := (x2.toUInt64 >>> (((16 * 0) : Int32).toInt64.toUInt64 &&& Int64.toUInt64 63)).toInt64) hx hb dK_fill_36 rfl ?_
    refine lv_l2i (v := ((x2.toUInt64 >>> (((16 * 0) : Int32).toInt64.toUInt64 &&& Int64.toUInt64 63)).toInt64 : Int64).toInt32) hx hb dK_fill_37 rfl ?_
    refine lv_ldc (v := 65535) hx hb hown (hts _ wK_c39) dK_fill_38 ?_
    refine lv_iand hx hb dK_fill_40 ?_
    refine kast_1 hx hb hC hP hS (vin_add hle252_x1 (by decide)) dK_fill_41 (fun σ4 H locs e4 hP hS => ?_)
    have hE := hE.trans (bd_e e4)
    have hB : KB σ4 := by rw [e4]; exact hB
    refine lv_iinc (k := 3) (v := 1) (lv' := [(4, .int 1), (0, .ref (q 0)), (1, .int x1), (2, .long x2)]) hx hb dK_fill_42 hl rfl (by decide) (by decide) rfl (fun ls hl => ?_)
    refine lv_goto (tgt := 16) hx hb dK_fill_45 rfl ?_
    have hl := lv_sub hl [1, 2, 3, 0] rfl
    exact b16_1 _ _ _ _ x1 x2 hle252_x1 hE hl hP hB hS
  refine lv_iload_n hx hb dK_fill_0 rfl (lv_at hl 1 rfl) ?_
  refine lv_if_lt (tgt := 11) hx hb dK_fill_1 rfl (fun h1 => ?_) (fun h1 => ?_)
  · have hE := hE.trans (if_pos h1)
    have hl := lv_sub hl [] rfl
    exact b11 _ _ _ _ hE hl hP hB hS
  · have hE := hE.trans (if_neg h1)
    refine lv_iload_n hx hb dK_fill_4 rfl (lv_at hl 1 rfl) ?_
    refine lv_sipush (v := 252) hx hb dK_fill_5 (by decide) ?_
    refine lv_icmp_le (tgt := 13) hx hb dK_fill_8 rfl (fun h2 => ?_) (fun h2 => ?_)
    · have hE := hE.trans (if_pos h2)
      refine lv_iconst (v := 0) hx hb dK_fill_13 (by decide) ?_
      refine lv_istore (lv' := [(4, .int 0), (0, .ref (q 0)), (1, .int a1), (2, .long a2)]) hx hb dK_fill_14 hl (by decide) rfl (fun ls hl => ?_)
      have hl := lv_sub hl [1, 2, 3, 0] rfl
      exact b16_0 _ _ _ _ a1 a2 ⟨h1, h2⟩ hE hl hP hB hS
    · have hE := hE.trans (if_neg h2)
      have hl := lv_sub hl [] rfl
      exact b11 _ _ _ _ hE hl hP hB hS
set_option maxRecDepth 100000 in
set_option maxHeartbeats 4000000 in
theorem c_k_isBase (l : Launch) (D : va_G) (q : Nat → Nat) (cA : ClassId) (tN : Nat) (σ0 : St) (a0 : Int32) : Met l yK_isBase wsK_isBase { frames := 0, cells := 0, slots := 0, locals := 0 } (va_Pc [.int a0] (KPre D q cA tN σ0)) (va_Qi (fun r u => (u, r) = k_isBase σ0 a0 ∧ zb r) (KPost D q cA) (KA q)) 0 0 (KA q) := by
  refine Met.ofW (cc := cK_isBase) (maxL := 1) (ret := (some .boolean)) (by decide) rfl ?_
  intro p e s m args below meth c s₁ B hml hv
  obtain ⟨rfl, hP, hB, hC⟩ := hv
  have hx := B.exec
  have hb := B.bytes
  have hr := B.returns
  have hts : ∀ w ∈ gw, w.before ([.int a0] : List Value).toArray s = true := fun w h => atoms_spec (ws := wsK_isBase) B.pre w (List.mem_cons_of_mem _ h)
  have hown : s.vm.findClass RK = some m.cls := findClass_of_methodNamed B.named
  have hlocks := B.notSynchronized
  have hS : va_S (KA q) s.heap s.heap [] := va_S.rf
  have hl := lv_entry ([.int a0]) (n := 1) (Nat.le_of_ble_eq_true rfl)
  rw [lg_entry_eq]
  generalize (lg_sl ([.int a0]) ++ List.replicate (1 - (lg_sl ([.int a0])).length) Slot.unset).toArray = ls at hl ⊢
  have hl : lv_has ls 1 [(0, .int a0)] := hl
  have hE : k_isBase σ0 a0 = k_isBase σ0 a0 := rfl
  have b15 : ∀ (H : Heap) (locs : List Loc) (ls : Array Slot) (σ : St) (y0 : Int32), zb y0 → k_isBase σ0 a0 = k_isBase_15 σ y0 → lv_has ls 1 [] → va_P D vwCl (wsK q cA σ) H → KB σ → va_S (KA q) s.heap H locs → W p l e (headSpec wsK_isBase { frames := 0, cells := 0, slots := 0, locals := 0 }).room s m ([.int a0] : List Value).toArray below meth c H locs 0 0 (MQ below (va_Qi (fun r u => (u, r) = k_isBase σ0 a0 ∧ zb r) (KPost D q cA) (KA q)) ([.int a0] : List Value).toArray s 0 0 (KA q)) (F0 m 15 ls [.int y0]) := by
    intro H locs ls σ y0 hz_y0 hE hl hP hB hS
    exact W.zret (v := y0) hx hb hr (zb_n hz_y0).1 (fun t ht hW => ⟨⟨y0, σ, rfl, ⟨hE.symm, hz_y0⟩, ⟨by rw [ht]; exact hP, hB⟩⟩, hS.F ht⟩) hS.2.2 dK_isBase_15
  have b14 : ∀ (H : Heap) (locs : List Loc) (ls : Array Slot) (σ : St), k_isBase σ0 a0 = k_isBase_14 σ → lv_has ls 1 [] → va_P D vwCl (wsK q cA σ) H → KB σ → va_S (KA q) s.heap H locs → W p l e (headSpec wsK_isBase { frames := 0, cells := 0, slots := 0, locals := 0 }).room s m ([.int a0] : List Value).toArray below meth c H locs 0 0 (MQ below (va_Qi (fun r u => (u, r) = k_isBase σ0 a0 ∧ zb r) (KPost D q cA) (KA q)) ([.int a0] : List Value).toArray s 0 0 (KA q)) (F0 m 14 ls []) := by
    intro H locs ls σ hE hl hP hB hS
    refine lv_iconst (v := 0) hx hb dK_isBase_14 (by decide) ?_
    exact b15 _ _ _ _ 0 (by decide) hE hl hP hB hS
  refine lv_iload_n hx hb dK_isBase_0 rfl (lv_at hl 0 rfl) ?_
  refine lv_if_lt (tgt := 14) hx hb dK_isBase_1 rfl (fun h1 => ?_) (fun h1 => ?_)
  · have hE := hE.trans (if_pos h1)
    have hl := lv_sub hl [] rfl
    exact b14 _ _ _ _ hE hl hP hB hS
  · have hE := hE.trans (if_neg h1)
    refine lv_iload_n hx hb dK_isBase_4 rfl (lv_at hl 0 rfl) ?_
    refine lv_bipush (v := 31) hx hb dK_isBase_5 (by decide) ?_
    refine lv_icmp_gt (tgt := 14) hx hb dK_isBase_7 rfl (fun h2 => ?_) (fun h2 => ?_)
    · have hE := hE.trans (if_pos h2)
      have hl := lv_sub hl [] rfl
      exact b14 _ _ _ _ hE hl hP hB hS
    · have hE := hE.trans (if_neg h2)
      refine lv_iconst (v := 1) hx hb dK_isBase_10 (by decide) ?_
      refine lv_goto (tgt := 15) hx hb dK_isBase_11 rfl ?_
      have hl := lv_sub hl [] rfl
      exact b15 _ _ _ _ 1 (by decide) hE hl hP hB hS
set_option maxRecDepth 100000 in
set_option maxHeartbeats 4000000 in
theorem c_k_settings (l : Launch) (D : va_G) (q : Nat → Nat) (cA : ClassId) (tN : Nat) (σ0 : St) (a1 : Int32) (a2 : Int32) (a3 : Int32) (a4 : Int32) (hz_a1 : zb a1) : Met l yK_settings wsK_settings { frames := 1, cells := 0, slots := 0, locals := 20 } (va_Pc [.ref (q 0), .int a1, .int a2, .int a3, .int a4] (KPre D q cA tN σ0)) (va_Qi (fun r u => (u, r) = k_settings σ0 a1 a2 a3 a4 ∧ zb r) (KPost D q cA) (KA q)) 0 0 (KA q) := by
  refine Met.ofW (cc := cK_settings) (maxL := 5) (ret := (some .boolean)) (by decide) rfl ?_
  intro p e s m args below meth c s₁ B hml hv
  obtain ⟨rfl, hP, hB, hC⟩ := hv
  have hx := B.exec
  have hb := B.bytes
  have hr := B.returns
  have hts : ∀ w ∈ gw, w.before ([.ref (q 0), .int a1, .int a2, .int a3, .int a4] : List Value).toArray s = true := fun w h => atoms_spec (ws := wsK_settings) B.pre w (List.mem_cons_of_mem _ h)
  have hown : s.vm.findClass RK = some m.cls := findClass_of_methodNamed B.named
  have hlocks := B.notSynchronized
  have hS : va_S (KA q) s.heap s.heap [] := va_S.rf
  have hl := lv_entry ([.ref (q 0), .int a1, .int a2, .int a3, .int a4]) (n := 5) (Nat.le_of_ble_eq_true rfl)
  rw [lg_entry_eq]
  generalize (lg_sl ([.ref (q 0), .int a1, .int a2, .int a3, .int a4]) ++ List.replicate (5 - (lg_sl ([.ref (q 0), .int a1, .int a2, .int a3, .int a4])).length) Slot.unset).toArray = ls at hl ⊢
  have hl : lv_has ls 5 [(0, .ref (q 0)), (1, .int a1), (2, .int a2), (3, .int a3), (4, .int a4)] := hl
  have hE : k_settings σ0 a1 a2 a3 a4 = k_settings σ0 a1 a2 a3 a4 := rfl
  have b25 : ∀ (H : Heap) (locs : List Loc) (ls : Array Slot) (σ : St), k_settings σ0 a1 a2 a3 a4 = k_settings_25 σ → lv_has ls 5 [] → va_P D vwCl (wsK q cA σ) H → KB σ → va_S (KA q) s.heap H locs → W p l e (headSpec wsK_settings { frames := 1, cells := 0, slots := 0, locals := 20 }).room s m ([.ref (q 0), .int a1, .int a2, .int a3, .int a4] : List Value).toArray below meth c H locs 0 0 (MQ below (va_Qi (fun r u => (u, r) = k_settings σ0 a1 a2 a3 a4 ∧ zb r) (KPost D q cA) (KA q)) ([.ref (q 0), .int a1, .int a2, .int a3, .int a4] : List Value).toArray s 0 0 (KA q)) (F0 m 25 ls []) := by
    intro H locs ls σ hE hl hP hB hS
    refine lv_iconst (v := 0) hx hb dK_settings_25 (by decide) ?_
    exact W.zret (v := 0) hx hb hr (zb_n (by decide)).1 (fun t ht hW => ⟨⟨0, σ, rfl, ⟨hE.symm, (by decide)⟩, ⟨by rw [ht]; exact hP, hB⟩⟩, hS.F ht⟩) hS.2.2 dK_settings_26
  refine lv_iload_n hx hb dK_settings_0 rfl (lv_at hl 2 rfl) ?_
  refine lv_if_lt (tgt := 25) hx hb dK_settings_1 rfl (fun h1 => ?_) (fun h1 => ?_)
  · have hE := hE.trans (if_pos h1)
    have hl := lv_sub hl [] rfl
    exact b25 _ _ _ _ hE hl hP hB hS
  · have hE := hE.trans (if_neg h1)
    refine lv_iload_n hx hb dK_settings_4 rfl (lv_at hl 2 rfl) ?_
    refine lv_bipush (v := 15) hx hb dK_settings_5 (by decide) ?_
    refine lv_icmp_gt (tgt := 25) hx hb dK_settings_7 rfl (fun h2 => ?_) (fun h2 => ?_)
    · have hE := hE.trans (if_pos h2)
      have hl := lv_sub hl [] rfl
      exact b25 _ _ _ _ hE hl hP hB hS
    · have hE := hE.trans (if_neg h2)
      refine lv_iload_n hx hb dK_settings_10 rfl (lv_at hl 3 rfl) ?_
      refine kscalli (rest := []) ⟨hx, hb, hml, hown, hts⟩ hC hP hB hS (c_k_isBase l D q cA tN σ0 a3) (va_cwS 1 hts gK_48 rfl rfl rfl hdK_isBase ⟨Nat.le_of_ble_eq_true rfl, Nat.le_of_ble_eq_true rfl⟩) rfl hl.1 rfl (Nat.le_of_ble_eq_true rfl) dK_settings_11 (fun σ3 v4 H locs e3 hP hB hS => ?_)
      have z3 : zb v4 := e3.2
      have hE := hE.trans (bd2_e e3.1)
      refine lv_if_eq (tgt := 25) hx hb dK_settings_14 rfl (fun h5 => ?_) (fun h5 => ?_)
      · have hE := hE.trans (if_pos h5)
        have hl := lv_sub hl [] rfl
        exact b25 _ _ _ _ hE hl hP hB hS
      · have hE := hE.trans (if_neg h5)
        refine lv_iload hx hb dK_settings_17 (lv_at hl 4 rfl) ?_
        refine kscalli (rest := []) ⟨hx, hb, hml, hown, hts⟩ hC hP hB hS (c_k_isBase l D q cA tN σ3 a4) (va_cwS 1 hts gK_48 rfl rfl rfl hdK_isBase ⟨Nat.le_of_ble_eq_true rfl, Nat.le_of_ble_eq_true rfl⟩) rfl hl.1 rfl (Nat.le_of_ble_eq_true rfl) dK_settings_19 (fun σ6 v7 H locs e6 hP hB hS => ?_)
        have z6 : zb v7 := e6.2
        have hE := hE.trans (bd2_e e6.1)
        refine lv_if_ne (tgt := 27) hx hb dK_settings_22 rfl (fun h8 => ?_) (fun h8 => ?_)
        · have hE := hE.trans (if_neg h8)
          refine lv_aload_n hx hb dK_settings_27 rfl (lv_at hl 0 rfl) ?_
          refine lv_iload_n hx hb dK_settings_28 rfl (lv_at hl 1 rfl) ?_
          refine kput_0_7 hx hb hts inK hown hC hP (hts _ wK_f35) hS hz_a1 dK_settings_29 (fun σ9 H locs e9 hP hS => ?_)
          have hE := hE.trans (bd_e e9)
          have hB : KB σ9 := by rw [e9]; exact KB_0_7s hB hz_a1
          refine lv_aload_n hx hb dK_settings_32 rfl (lv_at hl 0 rfl) ?_
          refine lv_iload_n hx hb dK_settings_33 rfl (lv_at hl 2 rfl) ?_
          refine kput_0_8 hx hb hts inK hown hC hP (hts _ wK_f51) hS dK_settings_34 (fun σ10 H locs e10 hP hS => ?_)
          have hE := hE.trans (bd_e e10)
          have hB : KB σ10 := by rw [e10]; exact hB
          refine lv_aload_n hx hb dK_settings_37 rfl (lv_at hl 0 rfl) ?_
          refine lv_iload_n hx hb dK_settings_38 rfl (lv_at hl 3 rfl) ?_
          refine kput_0_9 hx hb hts inK hown hC hP (hts _ wK_f55) hS dK_settings_39 (fun σ11 H locs e11 hP hS => ?_)
          have hE := hE.trans (bd_e e11)
          have hB : KB σ11 := by rw [e11]; exact hB
          refine lv_aload_n hx hb dK_settings_42 rfl (lv_at hl 0 rfl) ?_
          refine lv_iload hx hb dK_settings_43 (lv_at hl 4 rfl) ?_
          refine kput_0_10 hx hb hts inK hown hC hP (hts _ wK_f58) hS dK_settings_45 (fun σ12 H locs e12 hP hS => ?_)
          have hE := hE.trans (bd_e e12)
          have hB : KB σ12 := by rw [e12]; exact hB
          refine lv_iconst (v := 1) hx hb dK_settings_48 (by decide) ?_
          exact W.zret (v := 1) hx hb hr (zb_n (by decide)).1 (fun t ht hW => ⟨⟨1, σ12, rfl, ⟨hE.symm, (by decide)⟩, ⟨by rw [ht]; exact hP, hB⟩⟩, hS.F ht⟩) hS.2.2 dK_settings_49
        · have hE := hE.trans (if_pos h8)
          have hl := lv_sub hl [] rfl
          exact b25 _ _ _ _ hE hl hP hB hS
set_option maxRecDepth 100000 in
set_option maxHeartbeats 4000000 in
theorem c_k_isAddress (l : Launch) (D : va_G) (q : Nat → Nat) (cA : ClassId) (tN : Nat) (σ0 : St) (a0 : Int32) : Met l yK_isAddress wsK_isAddress { frames := 0, cells := 0, slots := 0, locals := 0 } (va_Pc [.int a0] (KPre D q cA tN σ0)) (va_Qi (fun r u => (u, r) = k_isAddress σ0 a0 ∧ zb r) (KPost D q cA) (KA q)) 0 0 (KA q) := by
  refine Met.ofW (cc := cK_isAddress) (maxL := 1) (ret := (some .boolean)) (by decide) rfl ?_
  intro p e s m args below meth c s₁ B hml hv
  obtain ⟨rfl, hP, hB, hC⟩ := hv
  have hx := B.exec
  have hb := B.bytes
  have hr := B.returns
  have hts : ∀ w ∈ gw, w.before ([.int a0] : List Value).toArray s = true := fun w h => atoms_spec (ws := wsK_isAddress) B.pre w (List.mem_cons_of_mem _ h)
  have hown : s.vm.findClass RK = some m.cls := findClass_of_methodNamed B.named
  have hlocks := B.notSynchronized
  have hS : va_S (KA q) s.heap s.heap [] := va_S.rf
  have hl := lv_entry ([.int a0]) (n := 1) (Nat.le_of_ble_eq_true rfl)
  rw [lg_entry_eq]
  generalize (lg_sl ([.int a0]) ++ List.replicate (1 - (lg_sl ([.int a0])).length) Slot.unset).toArray = ls at hl ⊢
  have hl : lv_has ls 1 [(0, .int a0)] := hl
  have hE : k_isAddress σ0 a0 = k_isAddress σ0 a0 := rfl
  have b16 : ∀ (H : Heap) (locs : List Loc) (ls : Array Slot) (σ : St) (y0 : Int32), zb y0 → k_isAddress σ0 a0 = k_isAddress_16 σ y0 → lv_has ls 1 [] → va_P D vwCl (wsK q cA σ) H → KB σ → va_S (KA q) s.heap H locs → W p l e (headSpec wsK_isAddress { frames := 0, cells := 0, slots := 0, locals := 0 }).room s m ([.int a0] : List Value).toArray below meth c H locs 0 0 (MQ below (va_Qi (fun r u => (u, r) = k_isAddress σ0 a0 ∧ zb r) (KPost D q cA) (KA q)) ([.int a0] : List Value).toArray s 0 0 (KA q)) (F0 m 16 ls [.int y0]) := by
    intro H locs ls σ y0 hz_y0 hE hl hP hB hS
    exact W.zret (v := y0) hx hb hr (zb_n hz_y0).1 (fun t ht hW => ⟨⟨y0, σ, rfl, ⟨hE.symm, hz_y0⟩, ⟨by rw [ht]; exact hP, hB⟩⟩, hS.F ht⟩) hS.2.2 dK_isAddress_16
  have b15 : ∀ (H : Heap) (locs : List Loc) (ls : Array Slot) (σ : St), k_isAddress σ0 a0 = k_isAddress_15 σ → lv_has ls 1 [] → va_P D vwCl (wsK q cA σ) H → KB σ → va_S (KA q) s.heap H locs → W p l e (headSpec wsK_isAddress { frames := 0, cells := 0, slots := 0, locals := 0 }).room s m ([.int a0] : List Value).toArray below meth c H locs 0 0 (MQ below (va_Qi (fun r u => (u, r) = k_isAddress σ0 a0 ∧ zb r) (KPost D q cA) (KA q)) ([.int a0] : List Value).toArray s 0 0 (KA q)) (F0 m 15 ls []) := by
    intro H locs ls σ hE hl hP hB hS
    refine lv_iconst (v := 0) hx hb dK_isAddress_15 (by decide) ?_
    exact b16 _ _ _ _ 0 (by decide) hE hl hP hB hS
  refine lv_iload_n hx hb dK_isAddress_0 rfl (lv_at hl 0 rfl) ?_
  refine lv_if_lt (tgt := 15) hx hb dK_isAddress_1 rfl (fun h1 => ?_) (fun h1 => ?_)
  · have hE := hE.trans (if_pos h1)
    have hl := lv_sub hl [] rfl
    exact b15 _ _ _ _ hE hl hP hB hS
  · have hE := hE.trans (if_neg h1)
    refine lv_iload_n hx hb dK_isAddress_4 rfl (lv_at hl 0 rfl) ?_
    refine lv_sipush (v := 256) hx hb dK_isAddress_5 (by decide) ?_
    refine lv_icmp_ge (tgt := 15) hx hb dK_isAddress_8 rfl (fun h2 => ?_) (fun h2 => ?_)
    · have hE := hE.trans (if_pos h2)
      have hl := lv_sub hl [] rfl
      exact b15 _ _ _ _ hE hl hP hB hS
    · have hE := hE.trans (if_neg h2)
      refine lv_iconst (v := 1) hx hb dK_isAddress_11 (by decide) ?_
      refine lv_goto (tgt := 16) hx hb dK_isAddress_12 rfl ?_
      have hl := lv_sub hl [] rfl
      exact b16 _ _ _ _ 1 (by decide) hE hl hP hB hS
set_option maxRecDepth 100000 in
set_option maxHeartbeats 4000000 in
theorem c_k_begin (l : Launch) (D : va_G) (q : Nat → Nat) (cA : ClassId) (tN : Nat) (σ0 : St) (a1 : Int32) (a2 : Int32) (a3 : Int32) (a4 : Int32) (hz_a2 : zb a2) : Met l yK_begin wsK_begin { frames := 1, cells := 0, slots := 0, locals := 20 } (va_Pc [.ref (q 0), .int a1, .int a2, .int a3, .int a4] (KPre D q cA tN σ0)) (va_Qi (fun r u => (u, r) = k_begin σ0 a1 a2 a3 a4 ∧ zb r) (KPost D q cA) (KA q)) 0 0 (KA q) := by
  refine Met.ofW (cc := cK_begin) (maxL := 5) (ret := (some .boolean)) (by decide) rfl ?_
  intro p e s m args below meth c s₁ B hml hv
  obtain ⟨rfl, hP, hB, hC⟩ := hv
  have hx := B.exec
  have hb := B.bytes
  have hr := B.returns
  have hts : ∀ w ∈ gw, w.before ([.ref (q 0), .int a1, .int a2, .int a3, .int a4] : List Value).toArray s = true := fun w h => atoms_spec (ws := wsK_begin) B.pre w (List.mem_cons_of_mem _ h)
  have hown : s.vm.findClass RK = some m.cls := findClass_of_methodNamed B.named
  have hlocks := B.notSynchronized
  have hS : va_S (KA q) s.heap s.heap [] := va_S.rf
  have hl := lv_entry ([.ref (q 0), .int a1, .int a2, .int a3, .int a4]) (n := 5) (Nat.le_of_ble_eq_true rfl)
  rw [lg_entry_eq]
  generalize (lg_sl ([.ref (q 0), .int a1, .int a2, .int a3, .int a4]) ++ List.replicate (5 - (lg_sl ([.ref (q 0), .int a1, .int a2, .int a3, .int a4])).length) Slot.unset).toArray = ls at hl ⊢
  have hl : lv_has ls 5 [(0, .ref (q 0)), (1, .int a1), (2, .int a2), (3, .int a3), (4, .int a4)] := hl
  have hE : k_begin σ0 a1 a2 a3 a4 = k_begin σ0 a1 a2 a3 a4 := rfl
  refine lv_iload_n hx hb dK_begin_0 rfl (lv_at hl 1 rfl) ?_
  refine kscalli (rest := []) ⟨hx, hb, hml, hown, hts⟩ hC hP hB hS (c_k_isAddress l D q cA tN σ0 a1) (va_cwS 1 hts gK_40 rfl rfl rfl hdK_isAddress ⟨Nat.le_of_ble_eq_true rfl, Nat.le_of_ble_eq_true rfl⟩) rfl hl.1 rfl (Nat.le_of_ble_eq_true rfl) dK_begin_1 (fun σ1 v2 H locs e1 hP hB hS => ?_)
  have z1 : zb v2 := e1.2
  have hE := hE.trans (bd2_e e1.1)
  refine lv_if_ne (tgt := 9) hx hb dK_begin_4 rfl (fun h3 => ?_) (fun h3 => ?_)
  · have hE := hE.trans (if_neg h3)
    refine lv_aload_n hx hb dK_begin_9 rfl (lv_at hl 0 rfl) ?_
    refine kget_0_5 hx hb hts inK hown hC hP (hts _ wK_f28) dK_begin_10 ?_
    refine lv_iload_n hx hb dK_begin_13 rfl (lv_at hl 1 rfl) ?_
    refine kput_6_3 hx hb hts inQ hown hC hP (hts _ wK_f61) hS dK_begin_14 (fun σ4 H locs e4 hP hS => ?_)
    have hE := hE.trans (bd_e e4)
    have hB : KB σ4 := by rw [e4]; exact hB
    refine lv_aload_n hx hb dK_begin_17 rfl (lv_at hl 0 rfl) ?_
    refine kget_0_5 hx hb hts inK hown hC hP (hts _ wK_f28) dK_begin_18 ?_
    refine lv_iload_n hx hb dK_begin_21 rfl (lv_at hl 2 rfl) ?_
    refine kput_6_5 hx hb hts inQ hown hC hP (hts _ wK_f64) hS hz_a2 dK_begin_22 (fun σ5 H locs e5 hP hS => ?_)
    have hE := hE.trans (bd_e e5)
    have hB : KB σ5 := by rw [e5]; exact KB_6_5s hB hz_a2
    refine lv_aload_n hx hb dK_begin_25 rfl (lv_at hl 0 rfl) ?_
    refine kget_0_5 hx hb hts inK hown hC hP (hts _ wK_f28) dK_begin_26 ?_
    refine lv_iload_n hx hb dK_begin_29 rfl (lv_at hl 3 rfl) ?_
    refine lv_ldc (v := 65535) hx hb hown (hts _ wK_c39) dK_begin_30 ?_
    refine lv_iand hx hb dK_begin_32 ?_
    refine kput_6_1 hx hb hts inQ hown hC hP (hts _ wK_f67) hS dK_begin_33 (fun σ6 H locs e6 hP hS => ?_)
    have hE := hE.trans (bd_e e6)
    have hB : KB σ6 := by rw [e6]; exact hB
    refine lv_aload_n hx hb dK_begin_36 rfl (lv_at hl 0 rfl) ?_
    refine kget_0_5 hx hb hts inK hown hC hP (hts _ wK_f28) dK_begin_37 ?_
    refine lv_iload hx hb dK_begin_40 (lv_at hl 4 rfl) ?_
    refine lv_ldc (v := 65535) hx hb hown (hts _ wK_c39) dK_begin_42 ?_
    refine lv_iand hx hb dK_begin_44 ?_
    refine kput_6_2 hx hb hts inQ hown hC hP (hts _ wK_f70) hS dK_begin_45 (fun σ7 H locs e7 hP hS => ?_)
    have hE := hE.trans (bd_e e7)
    have hB : KB σ7 := by rw [e7]; exact hB
    refine lv_aload_n hx hb dK_begin_48 rfl (lv_at hl 0 rfl) ?_
    refine kget_0_5 hx hb hts inK hown hC hP (hts _ wK_f28) dK_begin_49 ?_
    refine lv_iconst (v := 0) hx hb dK_begin_52 (by decide) ?_
    refine kput_6_6 hx hb hts inQ hown hC hP (hts _ wK_f73) hS dK_begin_53 (fun σ8 H locs e8 hP hS => ?_)
    have hE := hE.trans (bd_e e8)
    have hB : KB σ8 := by rw [e8]; exact hB
    refine lv_aload_n hx hb dK_begin_56 rfl (lv_at hl 0 rfl) ?_
    refine lv_iconst (v := 0) hx hb dK_begin_57 (by decide) ?_
    refine kput_0_11 hx hb hts inK hown hC hP (hts _ wK_f76) hS dK_begin_58 (fun σ9 H locs e9 hP hS => ?_)
    have hE := hE.trans (bd_e e9)
    have hB : KB σ9 := by rw [e9]; exact hB
    refine lv_aload_n hx hb dK_begin_61 rfl (lv_at hl 0 rfl) ?_
    refine lv_iconst (v := 0) hx hb dK_begin_62 (by decide) ?_
    refine kput_0_12 hx hb hts inK hown hC hP (hts _ wK_f79) hS dK_begin_63 (fun σ10 H locs e10 hP hS => ?_)
    have hE := hE.trans (bd_e e10)
    have hB : KB σ10 := by rw [e10]; exact hB
    refine lv_iconst (v := 1) hx hb dK_begin_66 (by decide) ?_
    exact W.zret (v := 1) hx hb hr (zb_n (by decide)).1 (fun t ht hW => ⟨⟨1, σ10, rfl, ⟨hE.symm, (by decide)⟩, ⟨by rw [ht]; exact hP, hB⟩⟩, hS.F ht⟩) hS.2.2 dK_begin_67
  · have hE := hE.trans (if_pos h3)
    refine lv_iconst (v := 0) hx hb dK_begin_7 (by decide) ?_
    exact W.zret (v := 0) hx hb hr (zb_n (by decide)).1 (fun t ht hW => ⟨⟨0, σ1, rfl, ⟨hE.symm, (by decide)⟩, ⟨by rw [ht]; exact hP, hB⟩⟩, hS.F ht⟩) hS.2.2 dK_begin_8
set_option maxRecDepth 100000 in
set_option maxHeartbeats 4000000 in
theorem c_k_set (l : Launch) (D : va_G) (q : Nat → Nat) (cA : ClassId) (tN : Nat) (σ0 : St) (a1 : Int32) (a2 : Int32) : Met l yK_set wsK_set { frames := 0, cells := 0, slots := 0, locals := 0 } (va_Pc [.ref (q 0), .int a1, .int a2] (KPre D q cA tN σ0)) (va_Qi (fun r u => (u, r) = k_set σ0 a1 a2 ∧ zb r) (KPost D q cA) (KA q)) 0 0 (KA q) := by
  refine Met.ofW (cc := cK_set) (maxL := 3) (ret := (some .boolean)) (by decide) rfl ?_
  intro p e s m args below meth c s₁ B hml hv
  obtain ⟨rfl, hP, hB, hC⟩ := hv
  have hx := B.exec
  have hb := B.bytes
  have hr := B.returns
  have hts : ∀ w ∈ gw, w.before ([.ref (q 0), .int a1, .int a2] : List Value).toArray s = true := fun w h => atoms_spec (ws := wsK_set) B.pre w (List.mem_cons_of_mem _ h)
  have hown : s.vm.findClass RK = some m.cls := findClass_of_methodNamed B.named
  have hlocks := B.notSynchronized
  have hS : va_S (KA q) s.heap s.heap [] := va_S.rf
  have hl := lv_entry ([.ref (q 0), .int a1, .int a2]) (n := 3) (Nat.le_of_ble_eq_true rfl)
  rw [lg_entry_eq]
  generalize (lg_sl ([.ref (q 0), .int a1, .int a2]) ++ List.replicate (3 - (lg_sl ([.ref (q 0), .int a1, .int a2])).length) Slot.unset).toArray = ls at hl ⊢
  have hl : lv_has ls 3 [(0, .ref (q 0)), (1, .int a1), (2, .int a2)] := hl
  have hE : k_set σ0 a1 a2 = k_set σ0 a1 a2 := rfl
  have b10 : ∀ (H : Heap) (locs : List Loc) (ls : Array Slot) (σ : St), k_set σ0 a1 a2 = k_set_10 σ → lv_has ls 3 [] → va_P D vwCl (wsK q cA σ) H → KB σ → va_S (KA q) s.heap H locs → W p l e (headSpec wsK_set { frames := 0, cells := 0, slots := 0, locals := 0 }).room s m ([.ref (q 0), .int a1, .int a2] : List Value).toArray below meth c H locs 0 0 (MQ below (va_Qi (fun r u => (u, r) = k_set σ0 a1 a2 ∧ zb r) (KPost D q cA) (KA q)) ([.ref (q 0), .int a1, .int a2] : List Value).toArray s 0 0 (KA q)) (F0 m 10 ls []) := by
    intro H locs ls σ hE hl hP hB hS
    refine lv_iconst (v := 0) hx hb dK_set_10 (by decide) ?_
    exact W.zret (v := 0) hx hb hr (zb_n (by decide)).1 (fun t ht hW => ⟨⟨0, σ, rfl, ⟨hE.symm, (by decide)⟩, ⟨by rw [ht]; exact hP, hB⟩⟩, hS.F ht⟩) hS.2.2 dK_set_11
  refine lv_iload_n hx hb dK_set_0 rfl (lv_at hl 1 rfl) ?_
  refine lv_if_lt (tgt := 10) hx hb dK_set_1 rfl (fun h1 => ?_) (fun h1 => ?_)
  · have hE := hE.trans (if_pos h1)
    have hl := lv_sub hl [] rfl
    exact b10 _ _ _ _ hE hl hP hB hS
  · have hE := hE.trans (if_neg h1)
    refine lv_iload_n hx hb dK_set_4 rfl (lv_at hl 1 rfl) ?_
    refine lv_bipush (v := 6) hx hb dK_set_5 (by decide) ?_
    refine lv_icmp_le (tgt := 12) hx hb dK_set_7 rfl (fun h2 => ?_) (fun h2 => ?_)
    · have hE := hE.trans (if_pos h2)
      refine lv_aload_n hx hb dK_set_12 rfl (lv_at hl 0 rfl) ?_
      refine kget_0_5 hx hb hts inK hown hC hP (hts _ wK_f28) dK_set_13 ?_
      refine kget_6_0 hx hb hts inQ hown hC hP (hts _ wK_f82) dK_set_16 ?_
      refine lv_iload_n hx hb dK_set_19 rfl (lv_at hl 1 rfl) ?_
      refine lv_iload_n hx hb dK_set_20 rfl (lv_at hl 2 rfl) ?_
      refine lv_ldc (v := 65535) hx hb hown (hts _ wK_c39) dK_set_21 ?_
      refine lv_iand hx hb dK_set_23 ?_
      refine kast_8 hx hb hC hP hS (vin_le h1 h2 (by decide)) dK_set_24 (fun σ3 H locs e3 hP hS => ?_)
      have hE := hE.trans (bd_e e3)
      have hB : KB σ3 := by rw [e3]; exact hB
      refine lv_iconst (v := 1) hx hb dK_set_25 (by decide) ?_
      exact W.zret (v := 1) hx hb hr (zb_n (by decide)).1 (fun t ht hW => ⟨⟨1, σ3, rfl, ⟨hE.symm, (by decide)⟩, ⟨by rw [ht]; exact hP, hB⟩⟩, hS.F ht⟩) hS.2.2 dK_set_26
    · have hE := hE.trans (if_neg h2)
      have hl := lv_sub hl [] rfl
      exact b10 _ _ _ _ hE hl hP hB hS
set_option maxRecDepth 100000 in
set_option maxHeartbeats 4000000 in
theorem c_k_interrupt (l : Launch) (D : va_G) (q : Nat → Nat) (cA : ClassId) (tN : Nat) (σ0 : St) (a1 : Int32) : Met l yK_interrupt wsK_interrupt { frames := 0, cells := 0, slots := 0, locals := 0 } (va_Pc [.ref (q 0), .int a1] (KPre D q cA tN σ0)) (va_Qi (fun r u => (u, r) = k_interrupt σ0 a1 ∧ zb r) (KPost D q cA) (KA q)) 0 0 (KA q) := by
  refine Met.ofW (cc := cK_interrupt) (maxL := 2) (ret := (some .boolean)) (by decide) rfl ?_
  intro p e s m args below meth c s₁ B hml hv
  obtain ⟨rfl, hP, hB, hC⟩ := hv
  have hx := B.exec
  have hb := B.bytes
  have hr := B.returns
  have hts : ∀ w ∈ gw, w.before ([.ref (q 0), .int a1] : List Value).toArray s = true := fun w h => atoms_spec (ws := wsK_interrupt) B.pre w (List.mem_cons_of_mem _ h)
  have hown : s.vm.findClass RK = some m.cls := findClass_of_methodNamed B.named
  have hlocks := B.notSynchronized
  have hS : va_S (KA q) s.heap s.heap [] := va_S.rf
  have hl := lv_entry ([.ref (q 0), .int a1]) (n := 2) (Nat.le_of_ble_eq_true rfl)
  rw [lg_entry_eq]
  generalize (lg_sl ([.ref (q 0), .int a1]) ++ List.replicate (2 - (lg_sl ([.ref (q 0), .int a1])).length) Slot.unset).toArray = ls at hl ⊢
  have hl : lv_has ls 2 [(0, .ref (q 0)), (1, .int a1)] := hl
  have hE : k_interrupt σ0 a1 = k_interrupt σ0 a1 := rfl
  have b11 : ∀ (H : Heap) (locs : List Loc) (ls : Array Slot) (σ : St), k_interrupt σ0 a1 = k_interrupt_11 σ → lv_has ls 2 [] → va_P D vwCl (wsK q cA σ) H → KB σ → va_S (KA q) s.heap H locs → W p l e (headSpec wsK_interrupt { frames := 0, cells := 0, slots := 0, locals := 0 }).room s m ([.ref (q 0), .int a1] : List Value).toArray below meth c H locs 0 0 (MQ below (va_Qi (fun r u => (u, r) = k_interrupt σ0 a1 ∧ zb r) (KPost D q cA) (KA q)) ([.ref (q 0), .int a1] : List Value).toArray s 0 0 (KA q)) (F0 m 11 ls []) := by
    intro H locs ls σ hE hl hP hB hS
    refine lv_iconst (v := 0) hx hb dK_interrupt_11 (by decide) ?_
    exact W.zret (v := 0) hx hb hr (zb_n (by decide)).1 (fun t ht hW => ⟨⟨0, σ, rfl, ⟨hE.symm, (by decide)⟩, ⟨by rw [ht]; exact hP, hB⟩⟩, hS.F ht⟩) hS.2.2 dK_interrupt_12
  refine lv_iload_n hx hb dK_interrupt_0 rfl (lv_at hl 1 rfl) ?_
  refine lv_iconst (v := 3) hx hb dK_interrupt_1 (by decide) ?_
  refine lv_icmp_lt (tgt := 11) hx hb dK_interrupt_2 rfl (fun h1 => ?_) (fun h1 => ?_)
  · have hE := hE.trans (if_pos h1)
    have hl := lv_sub hl [] rfl
    exact b11 _ _ _ _ hE hl hP hB hS
  · have hE := hE.trans (if_neg h1)
    refine lv_iload_n hx hb dK_interrupt_5 rfl (lv_at hl 1 rfl) ?_
    refine lv_bipush (v := 6) hx hb dK_interrupt_6 (by decide) ?_
    refine lv_icmp_le (tgt := 13) hx hb dK_interrupt_8 rfl (fun h2 => ?_) (fun h2 => ?_)
    · have hE := hE.trans (if_pos h2)
      refine lv_aload_n hx hb dK_interrupt_13 rfl (lv_at hl 0 rfl) ?_
      refine lv_dup hx hb dK_interrupt_14 rfl ?_
      refine kget_0_12 hx hb hts inK hown hC hP (hts _ wK_f79) dK_interrupt_15 ?_
      refine lv_iconst (v := 1) hx hb dK_interrupt_18 (by decide) ?_
      refine lv_iload_n hx hb dK_interrupt_19 rfl (lv_at hl 1 rfl) ?_
      refine lv_ishl hx hb dK_interrupt_20 ?_
      refine lv_ior hx hb dK_interrupt_21 ?_
      refine kput_0_12 hx hb hts inK hown hC hP (hts _ wK_f79) hS dK_interrupt_22 (fun σ3 H locs e3 hP hS => ?_)
      have hE := hE.trans (bd_e e3)
      have hB : KB σ3 := by rw [e3]; exact hB
      refine lv_iconst (v := 1) hx hb dK_interrupt_25 (by decide) ?_
      exact W.zret (v := 1) hx hb hr (zb_n (by decide)).1 (fun t ht hW => ⟨⟨1, σ3, rfl, ⟨hE.symm, (by decide)⟩, ⟨by rw [ht]; exact hP, hB⟩⟩, hS.F ht⟩) hS.2.2 dK_interrupt_26
    · have hE := hE.trans (if_neg h2)
      have hl := lv_sub hl [] rfl
      exact b11 _ _ _ _ hE hl hP hB hS
set_option maxRecDepth 100000 in
set_option maxHeartbeats 4000000 in
theorem c_k_word (l : Launch) (D : va_G) (q : Nat → Nat) (cA : ClassId) (tN : Nat) (σ0 : St) (a1 : Int32) : Met l yK_word wsK_word { frames := 0, cells := 0, slots := 0, locals := 0 } (va_Pc [.ref (q 0), .int a1] (KPre D q cA tN σ0)) (va_Qi (fun r u => (u, r) = k_word σ0 a1) (KPost D q cA) (KA q)) 0 0 (KA q) := by
  refine Met.ofW (cc := cK_word) (maxL := 2) (ret := (some .int)) (by decide) rfl ?_
  intro p e s m args below meth c s₁ B hml hv
  obtain ⟨rfl, hP, hB, hC⟩ := hv
  have hx := B.exec
  have hb := B.bytes
  have hr := B.returns
  have hts : ∀ w ∈ gw, w.before ([.ref (q 0), .int a1] : List Value).toArray s = true := fun w h => atoms_spec (ws := wsK_word) B.pre w (List.mem_cons_of_mem _ h)
  have hown : s.vm.findClass RK = some m.cls := findClass_of_methodNamed B.named
  have hlocks := B.notSynchronized
  have hS : va_S (KA q) s.heap s.heap [] := va_S.rf
  have hl := lv_entry ([.ref (q 0), .int a1]) (n := 2) (Nat.le_of_ble_eq_true rfl)
  rw [lg_entry_eq]
  generalize (lg_sl ([.ref (q 0), .int a1]) ++ List.replicate (2 - (lg_sl ([.ref (q 0), .int a1])).length) Slot.unset).toArray = ls at hl ⊢
  have hl : lv_has ls 2 [(0, .ref (q 0)), (1, .int a1)] := hl
  have hE : k_word σ0 a1 = k_word σ0 a1 := rfl
  refine lv_aload_n hx hb dK_word_0 rfl (lv_at hl 0 rfl) ?_
  refine kget_0_0 hx hb hts inK hown hC hP (hts _ wK_f9) dK_word_1 ?_
  refine lv_iload_n hx hb dK_word_4 rfl (lv_at hl 1 rfl) ?_
  refine lv_sipush (v := 255) hx hb dK_word_5 (by decide) ?_
  refine lv_iand hx hb dK_word_8 ?_
  refine kald_1 hx hb hC hP (vin_m 8 (by decide) (by decide) (by decide)) dK_word_9 ?_
  exact W.iret (v := (σ0 1 (ix (a1 &&& 255)))) hx hb hr (fun t ht hW => ⟨⟨(σ0 1 (ix (a1 &&& 255))), σ0, rfl, hE.symm, ⟨by rw [ht]; exact hP, hB⟩⟩, hS.F ht⟩) hS.2.2 dK_word_10
set_option maxRecDepth 100000 in
set_option maxHeartbeats 4000000 in
theorem c_k_register (l : Launch) (D : va_G) (q : Nat → Nat) (cA : ClassId) (tN : Nat) (σ0 : St) (a1 : Int32) : Met l yK_register wsK_register { frames := 0, cells := 0, slots := 0, locals := 0 } (va_Pc [.ref (q 0), .int a1] (KPre D q cA tN σ0)) (va_Qi (fun r u => (u, r) = k_register σ0 a1) (KPost D q cA) (KA q)) 0 0 (KA q) := by
  refine Met.ofW (cc := cK_register) (maxL := 2) (ret := (some .int)) (by decide) rfl ?_
  intro p e s m args below meth c s₁ B hml hv
  obtain ⟨rfl, hP, hB, hC⟩ := hv
  have hx := B.exec
  have hb := B.bytes
  have hr := B.returns
  have hts : ∀ w ∈ gw, w.before ([.ref (q 0), .int a1] : List Value).toArray s = true := fun w h => atoms_spec (ws := wsK_register) B.pre w (List.mem_cons_of_mem _ h)
  have hown : s.vm.findClass RK = some m.cls := findClass_of_methodNamed B.named
  have hlocks := B.notSynchronized
  have hS : va_S (KA q) s.heap s.heap [] := va_S.rf
  have hl := lv_entry ([.ref (q 0), .int a1]) (n := 2) (Nat.le_of_ble_eq_true rfl)
  rw [lg_entry_eq]
  generalize (lg_sl ([.ref (q 0), .int a1]) ++ List.replicate (2 - (lg_sl ([.ref (q 0), .int a1])).length) Slot.unset).toArray = ls at hl ⊢
  have hl : lv_has ls 2 [(0, .ref (q 0)), (1, .int a1)] := hl
  have hE : k_register σ0 a1 = k_register σ0 a1 := rfl
  have b111 : ∀ (H : Heap) (locs : List Loc) (ls : Array Slot) (σ : St) (y0 : Int32), k_register σ0 a1 = k_register_111 σ y0 → lv_has ls 2 [] → va_P D vwCl (wsK q cA σ) H → KB σ → va_S (KA q) s.heap H locs → W p l e (headSpec wsK_register { frames := 0, cells := 0, slots := 0, locals := 0 }).room s m ([.ref (q 0), .int a1] : List Value).toArray below meth c H locs 0 0 (MQ below (va_Qi (fun r u => (u, r) = k_register σ0 a1) (KPost D q cA) (KA q)) ([.ref (q 0), .int a1] : List Value).toArray s 0 0 (KA q)) (F0 m 111 ls [.int y0]) := by
    intro H locs ls σ y0 hE hl hP hB hS
    exact W.iret (v := y0) hx hb hr (fun t ht hW => ⟨⟨y0, σ, rfl, hE.symm, ⟨by rw [ht]; exact hP, hB⟩⟩, hS.F ht⟩) hS.2.2 dK_register_111
  have b127 : ∀ (H : Heap) (locs : List Loc) (ls : Array Slot) (σ : St) (y0 : Int32), k_register σ0 a1 = k_register_127 σ y0 → lv_has ls 2 [] → va_P D vwCl (wsK q cA σ) H → KB σ → va_S (KA q) s.heap H locs → W p l e (headSpec wsK_register { frames := 0, cells := 0, slots := 0, locals := 0 }).room s m ([.ref (q 0), .int a1] : List Value).toArray below meth c H locs 0 0 (MQ below (va_Qi (fun r u => (u, r) = k_register σ0 a1) (KPost D q cA) (KA q)) ([.ref (q 0), .int a1] : List Value).toArray s 0 0 (KA q)) (F0 m 127 ls [.int y0]) := by
    intro H locs ls σ y0 hE hl hP hB hS
    exact W.iret (v := y0) hx hb hr (fun t ht hW => ⟨⟨y0, σ, rfl, hE.symm, ⟨by rw [ht]; exact hP, hB⟩⟩, hS.F ht⟩) hS.2.2 dK_register_127
  have b20 : ∀ (H : Heap) (locs : List Loc) (ls : Array Slot) (σ : St) (x1 : Int32), k_register σ0 a1 = k_register_20 σ x1 → lv_has ls 2 [(0, .ref (q 0)), (1, .int x1)] → va_P D vwCl (wsK q cA σ) H → KB σ → va_S (KA q) s.heap H locs → W p l e (headSpec wsK_register { frames := 0, cells := 0, slots := 0, locals := 0 }).room s m ([.ref (q 0), .int a1] : List Value).toArray below meth c H locs 0 0 (MQ below (va_Qi (fun r u => (u, r) = k_register σ0 a1) (KPost D q cA) (KA q)) ([.ref (q 0), .int a1] : List Value).toArray s 0 0 (KA q)) (F0 m 20 ls []) := by
    intro H locs ls σ x1 hE hl hP hB hS
    refine lv_iload_n hx hb dK_register_20 rfl (lv_at hl 1 rfl) ?_
    rcases Classical.em (x1 = 7) with h2 | h2
    · have hE := hE.trans (if_pos h2)
      refine lv_tableIn (tgt := 72) hx hb dK_register_21 (by rw [h2]; decide) (by rw [h2]; decide) (by rw [h2]; rfl) rfl ?_
      refine lv_aload_n hx hb dK_register_72 rfl (lv_at hl 0 rfl) ?_
      refine kget_0_5 hx hb hts inK hown hC hP (hts _ wK_f28) dK_register_73 ?_
      refine kget_6_3 hx hb hts inQ hown hC hP (hts _ wK_f61) dK_register_76 ?_
      exact W.iret (v := (σ 6 3)) hx hb hr (fun t ht hW => ⟨⟨(σ 6 3), σ, rfl, hE.symm, ⟨by rw [ht]; exact hP, hB⟩⟩, hS.F ht⟩) hS.2.2 dK_register_79
    have hE := hE.trans (if_neg h2)
    rcases Classical.em (x1 = 8) with h3 | h3
    · have hE := hE.trans (if_pos h3)
      refine lv_tableIn (tgt := 80) hx hb dK_register_21 (by rw [h3]; decide) (by rw [h3]; decide) (by rw [h3]; rfl) rfl ?_
      refine lv_aload_n hx hb dK_register_80 rfl (lv_at hl 0 rfl) ?_
      refine kget_0_5 hx hb hts inK hown hC hP (hts _ wK_f28) dK_register_81 ?_
      refine kget_6_1 hx hb hts inQ hown hC hP (hts _ wK_f67) dK_register_84 ?_
      exact W.iret (v := (σ 6 1)) hx hb hr (fun t ht hW => ⟨⟨(σ 6 1), σ, rfl, hE.symm, ⟨by rw [ht]; exact hP, hB⟩⟩, hS.F ht⟩) hS.2.2 dK_register_87
    have hE := hE.trans (if_neg h3)
    rcases Classical.em (x1 = 9) with h4 | h4
    · have hE := hE.trans (if_pos h4)
      refine lv_tableIn (tgt := 88) hx hb dK_register_21 (by rw [h4]; decide) (by rw [h4]; decide) (by rw [h4]; rfl) rfl ?_
      refine lv_aload_n hx hb dK_register_88 rfl (lv_at hl 0 rfl) ?_
      refine kget_0_5 hx hb hts inK hown hC hP (hts _ wK_f28) dK_register_89 ?_
      refine kget_6_2 hx hb hts inQ hown hC hP (hts _ wK_f70) dK_register_92 ?_
      exact W.iret (v := (σ 6 2)) hx hb hr (fun t ht hW => ⟨⟨(σ 6 2), σ, rfl, hE.symm, ⟨by rw [ht]; exact hP, hB⟩⟩, hS.F ht⟩) hS.2.2 dK_register_95
    have hE := hE.trans (if_neg h4)
    rcases Classical.em (x1 = 10) with h5 | h5
    · have hE := hE.trans (if_pos h5)
      refine lv_tableIn (tgt := 96) hx hb dK_register_21 (by rw [h5]; decide) (by rw [h5]; decide) (by rw [h5]; rfl) rfl ?_
      refine lv_aload_n hx hb dK_register_96 rfl (lv_at hl 0 rfl) ?_
      refine kget_0_5 hx hb hts inK hown hC hP (hts _ wK_f28) dK_register_97 ?_
      refine kget_6_4 hx hb hts inQ hown hC hP (hts _ wK_f88) dK_register_100 ?_
      have z6 : zb (σ 6 4) := KB_6_4 hB
      refine lv_if_eq (tgt := 110) hx hb dK_register_103 rfl (fun h7 => ?_) (fun h7 => ?_)
      · have hE := hE.trans (if_pos h7)
        refine lv_iconst (v := 0) hx hb dK_register_110 (by decide) ?_
        have hl := lv_sub hl [] rfl
        exact b111 _ _ _ _ 0 hE hl hP hB hS
      · have hE := hE.trans (if_neg h7)
        refine lv_iconst (v := 1) hx hb dK_register_106 (by decide) ?_
        refine lv_goto (tgt := 111) hx hb dK_register_107 rfl ?_
        have hl := lv_sub hl [] rfl
        exact b111 _ _ _ _ 1 hE hl hP hB hS
    have hE := hE.trans (if_neg h5)
    rcases Classical.em (x1 = 11) with h8 | h8
    · have hE := hE.trans (if_pos h8)
      refine lv_tableIn (tgt := 112) hx hb dK_register_21 (by rw [h8]; decide) (by rw [h8]; decide) (by rw [h8]; rfl) rfl ?_
      refine lv_aload_n hx hb dK_register_112 rfl (lv_at hl 0 rfl) ?_
      refine kget_0_5 hx hb hts inK hown hC hP (hts _ wK_f28) dK_register_113 ?_
      refine kget_6_5 hx hb hts inQ hown hC hP (hts _ wK_f64) dK_register_116 ?_
      have z9 : zb (σ 6 5) := KB_6_5 hB
      refine lv_if_eq (tgt := 126) hx hb dK_register_119 rfl (fun h10 => ?_) (fun h10 => ?_)
      · have hE := hE.trans (if_pos h10)
        refine lv_iconst (v := 0) hx hb dK_register_126 (by decide) ?_
        have hl := lv_sub hl [] rfl
        exact b127 _ _ _ _ 0 hE hl hP hB hS
      · have hE := hE.trans (if_neg h10)
        refine lv_iconst (v := 1) hx hb dK_register_122 (by decide) ?_
        refine lv_goto (tgt := 127) hx hb dK_register_123 rfl ?_
        have hl := lv_sub hl [] rfl
        exact b127 _ _ _ _ 1 hE hl hP hB hS
    have hE := hE.trans (if_neg h8)
    rcases Classical.em (x1 = 12) with h11 | h11
    · have hE := hE.trans (if_pos h11)
      refine lv_tableIn (tgt := 128) hx hb dK_register_21 (by rw [h11]; decide) (by rw [h11]; decide) (by rw [h11]; rfl) rfl ?_
      refine lv_aload_n hx hb dK_register_128 rfl (lv_at hl 0 rfl) ?_
      refine kget_0_5 hx hb hts inK hown hC hP (hts _ wK_f28) dK_register_129 ?_
      refine kget_6_6 hx hb hts inQ hown hC hP (hts _ wK_f73) dK_register_132 ?_
      exact W.iret (v := (σ 6 6)) hx hb hr (fun t ht hW => ⟨⟨(σ 6 6), σ, rfl, hE.symm, ⟨by rw [ht]; exact hP, hB⟩⟩, hS.F ht⟩) hS.2.2 dK_register_135
    have hE := hE.trans (if_neg h11)
    rcases Classical.em (x1 = 13) with h12 | h12
    · have hE := hE.trans (if_pos h12)
      refine lv_tableIn (tgt := 136) hx hb dK_register_21 (by rw [h12]; decide) (by rw [h12]; decide) (by rw [h12]; rfl) rfl ?_
      refine lv_aload_n hx hb dK_register_136 rfl (lv_at hl 0 rfl) ?_
      refine kget_0_11 hx hb hts inK hown hC hP (hts _ wK_f76) dK_register_137 ?_
      exact W.iret (v := (σ 0 11)) hx hb hr (fun t ht hW => ⟨⟨(σ 0 11), σ, rfl, hE.symm, ⟨by rw [ht]; exact hP, hB⟩⟩, hS.F ht⟩) hS.2.2 dK_register_140
    have hE := hE.trans (if_neg h12)
    rcases Classical.em (x1 = 14) with h13 | h13
    · have hE := hE.trans (if_pos h13)
      refine lv_tableIn (tgt := 141) hx hb dK_register_21 (by rw [h13]; decide) (by rw [h13]; decide) (by rw [h13]; rfl) rfl ?_
      refine lv_aload_n hx hb dK_register_141 rfl (lv_at hl 0 rfl) ?_
      refine kget_0_12 hx hb hts inK hown hC hP (hts _ wK_f79) dK_register_142 ?_
      exact W.iret (v := (σ 0 12)) hx hb hr (fun t ht hW => ⟨⟨(σ 0 12), σ, rfl, hE.symm, ⟨by rw [ht]; exact hP, hB⟩⟩, hS.F ht⟩) hS.2.2 dK_register_145
    have hE := hE.trans (if_neg h13)
    rcases Classical.em (x1 = 15) with h14 | h14
    · have hE := hE.trans (if_pos h14)
      refine lv_tableIn (tgt := 146) hx hb dK_register_21 (by rw [h14]; decide) (by rw [h14]; decide) (by rw [h14]; rfl) rfl ?_
      refine lv_aload_n hx hb dK_register_146 rfl (lv_at hl 0 rfl) ?_
      refine kget_0_13 hx hb hts inK hown hC hP (hts _ wK_f91) dK_register_147 ?_
      exact W.iret (v := (σ 0 13)) hx hb hr (fun t ht hW => ⟨⟨(σ 0 13), σ, rfl, hE.symm, ⟨by rw [ht]; exact hP, hB⟩⟩, hS.F ht⟩) hS.2.2 dK_register_150
    have hE := hE.trans (if_neg h14)
    · refine lv_tableOut (tgt := 151) hx hb dK_register_21 (by have n0 := ne_t 7 7 (by decide) h2; have n1 := ne_t 8 8 (by decide) h3; have n2 := ne_t 9 9 (by decide) h4; have n3 := ne_t 10 10 (by decide) h5; have n4 := ne_t 11 11 (by decide) h8; have n5 := ne_t 12 12 (by decide) h11; have n6 := ne_t 13 13 (by decide) h12; have n7 := ne_t 14 14 (by decide) h13; have n8 := ne_t 15 15 (by decide) h14; omega) rfl ?_
      refine lv_iconst (v := (-1)) hx hb dK_register_151 (by decide) ?_
      exact W.iret (v := (-1)) hx hb hr (fun t ht hW => ⟨⟨(-1), σ, rfl, hE.symm, ⟨by rw [ht]; exact hP, hB⟩⟩, hS.F ht⟩) hS.2.2 dK_register_152
  refine lv_iload_n hx hb dK_register_0 rfl (lv_at hl 1 rfl) ?_
  refine lv_if_lt (tgt := 20) hx hb dK_register_1 rfl (fun h1 => ?_) (fun h1 => ?_)
  · have hE := hE.trans (if_pos h1)
    exact b20 _ _ _ _ a1 hE hl hP hB hS
  · have hE := hE.trans (if_neg h1)
    refine lv_iload_n hx hb dK_register_4 rfl (lv_at hl 1 rfl) ?_
    refine lv_bipush (v := 6) hx hb dK_register_5 (by decide) ?_
    refine lv_icmp_gt (tgt := 20) hx hb dK_register_7 rfl (fun h15 => ?_) (fun h15 => ?_)
    · have hE := hE.trans (if_pos h15)
      exact b20 _ _ _ _ a1 hE hl hP hB hS
    · have hE := hE.trans (if_neg h15)
      refine lv_aload_n hx hb dK_register_10 rfl (lv_at hl 0 rfl) ?_
      refine kget_0_5 hx hb hts inK hown hC hP (hts _ wK_f28) dK_register_11 ?_
      refine kget_6_0 hx hb hts inQ hown hC hP (hts _ wK_f82) dK_register_14 ?_
      refine lv_iload_n hx hb dK_register_17 rfl (lv_at hl 1 rfl) ?_
      refine kald_8 hx hb hC hP (vin_ngt h1 h15 (by decide)) dK_register_18 ?_
      exact W.iret (v := (σ0 8 (ix a1))) hx hb hr (fun t ht hW => ⟨⟨(σ0 8 (ix a1)), σ0, rfl, hE.symm, ⟨by rw [ht]; exact hP, hB⟩⟩, hS.F ht⟩) hS.2.2 dK_register_19
set_option maxRecDepth 100000 in
set_option maxHeartbeats 4000000 in
theorem c_k_kind (l : Launch) (D : va_G) (q : Nat → Nat) (cA : ClassId) (tN : Nat) (σ0 : St) (a1 : Int32) : Met l yK_kind wsK_kind { frames := 0, cells := 0, slots := 0, locals := 0 } (va_Pc [.ref (q 0), .int a1] (KPre D q cA tN σ0)) (va_Qi (fun r u => (u, r) = k_kind σ0 a1) (KPost D q cA) (KA q)) 0 0 (KA q) := by
  refine Met.ofW (cc := cK_kind) (maxL := 2) (ret := (some .int)) (by decide) rfl ?_
  intro p e s m args below meth c s₁ B hml hv
  obtain ⟨rfl, hP, hB, hC⟩ := hv
  have hx := B.exec
  have hb := B.bytes
  have hr := B.returns
  have hts : ∀ w ∈ gw, w.before ([.ref (q 0), .int a1] : List Value).toArray s = true := fun w h => atoms_spec (ws := wsK_kind) B.pre w (List.mem_cons_of_mem _ h)
  have hown : s.vm.findClass RK = some m.cls := findClass_of_methodNamed B.named
  have hlocks := B.notSynchronized
  have hS : va_S (KA q) s.heap s.heap [] := va_S.rf
  have hl := lv_entry ([.ref (q 0), .int a1]) (n := 2) (Nat.le_of_ble_eq_true rfl)
  rw [lg_entry_eq]
  generalize (lg_sl ([.ref (q 0), .int a1]) ++ List.replicate (2 - (lg_sl ([.ref (q 0), .int a1])).length) Slot.unset).toArray = ls at hl ⊢
  have hl : lv_has ls 2 [(0, .ref (q 0)), (1, .int a1)] := hl
  have hE : k_kind σ0 a1 = k_kind σ0 a1 := rfl
  refine lv_aload_n hx hb dK_kind_0 rfl (lv_at hl 0 rfl) ?_
  refine kget_0_1 hx hb hts inK hown hC hP (hts _ wK_f13) dK_kind_1 ?_
  refine lv_iload_n hx hb dK_kind_4 rfl (lv_at hl 1 rfl) ?_
  refine lv_sipush (v := 255) hx hb dK_kind_5 (by decide) ?_
  refine lv_iand hx hb dK_kind_8 ?_
  refine kald_2 hx hb hC hP (vin_m 8 (by decide) (by decide) (by decide)) dK_kind_9 ?_
  exact W.iret (v := (σ0 2 (ix (a1 &&& 255)))) hx hb hr (fun t ht hW => ⟨⟨(σ0 2 (ix (a1 &&& 255))), σ0, rfl, hE.symm, ⟨by rw [ht]; exact hP, hB⟩⟩, hS.F ht⟩) hS.2.2 dK_kind_10
set_option maxRecDepth 100000 in
set_option maxHeartbeats 4000000 in
theorem c_k_kindByRegions (l : Launch) (D : va_G) (q : Nat → Nat) (cA : ClassId) (tN : Nat) (σ0 : St) (a1 : Int32) : Met l yK_kindByRegions wsK_kindByRegions { frames := 0, cells := 0, slots := 0, locals := 0 } (va_Pc [.ref (q 0), .int a1] (KPre D q cA tN σ0)) (va_Qi (fun r u => (u, r) = k_kindByRegions σ0 a1) (KPost D q cA) (KA q)) 0 0 (KA q) := by
  refine Met.ofW (cc := cK_kindByRegions) (maxL := 5) (ret := (some .int)) (by decide) rfl ?_
  intro p e s m args below meth c s₁ B hml hv
  obtain ⟨rfl, hP, hB, hC⟩ := hv
  have hx := B.exec
  have hb := B.bytes
  have hr := B.returns
  have hts : ∀ w ∈ gw, w.before ([.ref (q 0), .int a1] : List Value).toArray s = true := fun w h => atoms_spec (ws := wsK_kindByRegions) B.pre w (List.mem_cons_of_mem _ h)
  have hown : s.vm.findClass RK = some m.cls := findClass_of_methodNamed B.named
  have hlocks := B.notSynchronized
  have hS : va_S (KA q) s.heap s.heap [] := va_S.rf
  have hl := lv_entry ([.ref (q 0), .int a1]) (n := 5) (Nat.le_of_ble_eq_true rfl)
  rw [lg_entry_eq]
  generalize (lg_sl ([.ref (q 0), .int a1]) ++ List.replicate (5 - (lg_sl ([.ref (q 0), .int a1])).length) Slot.unset).toArray = ls at hl ⊢
  have hl : lv_has ls 5 [(0, .ref (q 0)), (1, .int a1)] := hl
  have hE : k_kindByRegions σ0 a1 = k_kindByRegions σ0 a1 := rfl
  have b72 : ∀ (H : Heap) (locs : List Loc) (ls : Array Slot) (σ : St) (y0 : Int32), k_kindByRegions σ0 a1 = k_kindByRegions_72 σ y0 → lv_has ls 5 [] → va_P D vwCl (wsK q cA σ) H → KB σ → va_S (KA q) s.heap H locs → W p l e (headSpec wsK_kindByRegions { frames := 0, cells := 0, slots := 0, locals := 0 }).room s m ([.ref (q 0), .int a1] : List Value).toArray below meth c H locs 0 0 (MQ below (va_Qi (fun r u => (u, r) = k_kindByRegions σ0 a1) (KPost D q cA) (KA q)) ([.ref (q 0), .int a1] : List Value).toArray s 0 0 (KA q)) (F0 m 72 ls [.int y0]) := by
    intro H locs ls σ y0 hE hl hP hB hS
    exact W.iret (v := y0) hx hb hr (fun t ht hW => ⟨⟨y0, σ, rfl, hE.symm, ⟨by rw [ht]; exact hP, hB⟩⟩, hS.F ht⟩) hS.2.2 dK_kindByRegions_72
  have b7_4 : ∀ (H : Heap) (locs : List Loc) (ls : Array Slot) (σ : St) (x1 : Int32) (x2 : Int32) (x3 : Int32), k_kindByRegions σ0 a1 = k_kindByRegions_7_4 σ x1 x2 x3 → lv_has ls 5 [(0, .ref (q 0)), (1, .int x1), (2, .int x2), (3, .int x3), (4, .int 4)] → va_P D vwCl (wsK q cA σ) H → KB σ → va_S (KA q) s.heap H locs → W p l e (headSpec wsK_kindByRegions { frames := 0, cells := 0, slots := 0, locals := 0 }).room s m ([.ref (q 0), .int a1] : List Value).toArray below meth c H locs 0 0 (MQ below (va_Qi (fun r u => (u, r) = k_kindByRegions σ0 a1) (KPost D q cA) (KA q)) ([.ref (q 0), .int a1] : List Value).toArray s 0 0 (KA q)) (F0 m 7 ls []) := by
    intro H locs ls σ x1 x2 x3 hE hl hP hB hS
    refine lv_iload hx hb dK_kindByRegions_7 (lv_at hl 4 rfl) ?_
    refine lv_iconst (v := 4) hx hb dK_kindByRegions_9 (by decide) ?_
    refine lv_icmp_ge (tgt := 62) hx hb dK_kindByRegions_10 rfl (fun _ => ?_) (fun h9 => absurd (by decide) h9)
    refine lv_iload_n hx hb dK_kindByRegions_62 rfl (lv_at hl 3 rfl) ?_
    refine lv_iconst (v := 1) hx hb dK_kindByRegions_63 (by decide) ?_
    refine lv_icmp_ne (tgt := 71) hx hb dK_kindByRegions_64 rfl (fun h10 => ?_) (fun h10 => ?_)
    · have hE := hE.trans (if_neg h10)
      refine lv_iconst (v := 0) hx hb dK_kindByRegions_71 (by decide) ?_
      have hl := lv_sub hl [] rfl
      exact b72 _ _ _ _ 0 hE hl hP hB hS
    · have hE := hE.trans (if_pos h10)
      refine lv_iload_n hx hb dK_kindByRegions_67 rfl (lv_at hl 2 rfl) ?_
      refine lv_goto (tgt := 72) hx hb dK_kindByRegions_68 rfl ?_
      have hl := lv_sub hl [] rfl
      exact b72 _ _ _ _ x2 hE hl hP hB hS
  have b56_3 : ∀ (H : Heap) (locs : List Loc) (ls : Array Slot) (σ : St) (x1 : Int32) (x2 : Int32) (x3 : Int32), k_kindByRegions σ0 a1 = k_kindByRegions_56_3 σ x1 x2 x3 → lv_has ls 5 [(0, .ref (q 0)), (1, .int x1), (2, .int x2), (3, .int x3), (4, .int 3)] → va_P D vwCl (wsK q cA σ) H → KB σ → va_S (KA q) s.heap H locs → W p l e (headSpec wsK_kindByRegions { frames := 0, cells := 0, slots := 0, locals := 0 }).room s m ([.ref (q 0), .int a1] : List Value).toArray below meth c H locs 0 0 (MQ below (va_Qi (fun r u => (u, r) = k_kindByRegions σ0 a1) (KPost D q cA) (KA q)) ([.ref (q 0), .int a1] : List Value).toArray s 0 0 (KA q)) (F0 m 56 ls []) := by
    intro H locs ls σ x1 x2 x3 hE hl hP hB hS
    refine lv_iinc (k := 4) (v := 4) (lv' := [(4, .int 4), (0, .ref (q 0)), (1, .int x1), (2, .int x2), (3, .int x3)]) hx hb dK_kindByRegions_56 hl rfl (by decide) (by decide) rfl (fun ls hl => ?_)
    refine lv_goto (tgt := 7) hx hb dK_kindByRegions_59 rfl ?_
    have hl := lv_sub hl [1, 2, 3, 4, 0] rfl
    exact b7_4 _ _ _ _ x1 x2 x3 hE hl hP hB hS
  have b7_3 : ∀ (H : Heap) (locs : List Loc) (ls : Array Slot) (σ : St) (x1 : Int32) (x2 : Int32) (x3 : Int32), k_kindByRegions σ0 a1 = k_kindByRegions_7_3 σ x1 x2 x3 → lv_has ls 5 [(0, .ref (q 0)), (1, .int x1), (2, .int x2), (3, .int x3), (4, .int 3)] → va_P D vwCl (wsK q cA σ) H → KB σ → va_S (KA q) s.heap H locs → W p l e (headSpec wsK_kindByRegions { frames := 0, cells := 0, slots := 0, locals := 0 }).room s m ([.ref (q 0), .int a1] : List Value).toArray below meth c H locs 0 0 (MQ below (va_Qi (fun r u => (u, r) = k_kindByRegions σ0 a1) (KPost D q cA) (KA q)) ([.ref (q 0), .int a1] : List Value).toArray s 0 0 (KA q)) (F0 m 7 ls []) := by
    intro H locs ls σ x1 x2 x3 hE hl hP hB hS
    refine lv_iload hx hb dK_kindByRegions_7 (lv_at hl 4 rfl) ?_
    refine lv_iconst (v := 4) hx hb dK_kindByRegions_9 (by decide) ?_
    refine lv_icmp_ge (tgt := 62) hx hb dK_kindByRegions_10 rfl (fun h7 => absurd h7 (by decide)) (fun _ => ?_)
    refine lv_aload_n hx hb dK_kindByRegions_13 rfl (lv_at hl 0 rfl) ?_
    refine kget_0_4 hx hb hts inK hown hC hP (hts _ wK_f22) dK_kindByRegions_14 ?_
    refine lv_iload hx hb dK_kindByRegions_17 (lv_at hl 4 rfl) ?_
    refine kald_5 hx hb hC hP (vin_c (by decide)) dK_kindByRegions_19 ?_
    refine lv_if_eq (tgt := 56) hx hb dK_kindByRegions_20 rfl (fun h8 => ?_) (fun h8 => ?_)
    · have hE := hE.trans (if_pos h8)
      exact b56_3 _ _ _ _ x1 x2 x3 hE hl hP hB hS
    · have hE := hE.trans (if_neg h8)
      refine lv_aload_n hx hb dK_kindByRegions_23 rfl (lv_at hl 0 rfl) ?_
      refine kget_0_2 hx hb hts inK hown hC hP (hts _ wK_f16) dK_kindByRegions_24 ?_
      refine lv_iload hx hb dK_kindByRegions_27 (lv_at hl 4 rfl) ?_
      refine kald_3 hx hb hC hP (vin_c (by decide)) dK_kindByRegions_29 ?_
      refine lv_iload_n hx hb dK_kindByRegions_30 rfl (lv_at hl 1 rfl) ?_
      refine lv_icmp_gt (tgt := 56) hx hb dK_kindByRegions_31 rfl (fun h11 => ?_) (fun h11 => ?_)
      · have hE := hE.trans (if_pos h11)
        exact b56_3 _ _ _ _ x1 x2 x3 hE hl hP hB hS
      · have hE := hE.trans (if_neg h11)
        refine lv_iload_n hx hb dK_kindByRegions_34 rfl (lv_at hl 1 rfl) ?_
        refine lv_aload_n hx hb dK_kindByRegions_35 rfl (lv_at hl 0 rfl) ?_
        refine kget_0_3 hx hb hts inK hown hC hP (hts _ wK_f19) dK_kindByRegions_36 ?_
        refine lv_iload hx hb dK_kindByRegions_39 (lv_at hl 4 rfl) ?_
        refine kald_4 hx hb hC hP (vin_c (by decide)) dK_kindByRegions_41 ?_
        refine lv_icmp_gt (tgt := 56) hx hb dK_kindByRegions_42 rfl (fun h12 => ?_) (fun h12 => ?_)
        · have hE := hE.trans (if_pos h12)
          exact b56_3 _ _ _ _ x1 x2 x3 hE hl hP hB hS
        · have hE := hE.trans (if_neg h12)
          refine lv_aload_n hx hb dK_kindByRegions_45 rfl (lv_at hl 0 rfl) ?_
          refine kget_0_4 hx hb hts inK hown hC hP (hts _ wK_f22) dK_kindByRegions_46 ?_
          refine lv_iload hx hb dK_kindByRegions_49 (lv_at hl 4 rfl) ?_
          refine kald_5 hx hb hC hP (vin_c (by decide)) dK_kindByRegions_51 ?_
          refine lv_istore_n (lv' := [(2, .int (σ 5 (ix 3))), (0, .ref (q 0)), (1, .int x1), (3, .int x3), (4, .int 3)]) hx hb dK_kindByRegions_52 rfl hl (by decide) rfl (fun ls hl => ?_)
          refine lv_iinc (k := 3) (v := (x3 + 1)) (lv' := [(3, .int (x3 + 1)), (2, .int (σ 5 (ix 3))), (0, .ref (q 0)), (1, .int x1), (4, .int 3)]) hx hb dK_kindByRegions_53 hl rfl rfl (by decide) rfl (fun ls hl => ?_)
          have hl := lv_sub hl [2, 3, 1, 0, 4] rfl
          exact b56_3 _ _ _ _ x1 (σ 5 (ix 3)) (x3 + 1) hE hl hP hB hS
  have b56_2 : ∀ (H : Heap) (locs : List Loc) (ls : Array Slot) (σ : St) (x1 : Int32) (x2 : Int32) (x3 : Int32), k_kindByRegions σ0 a1 = k_kindByRegions_56_2 σ x1 x2 x3 → lv_has ls 5 [(0, .ref (q 0)), (1, .int x1), (2, .int x2), (3, .int x3), (4, .int 2)] → va_P D vwCl (wsK q cA σ) H → KB σ → va_S (KA q) s.heap H locs → W p l e (headSpec wsK_kindByRegions { frames := 0, cells := 0, slots := 0, locals := 0 }).room s m ([.ref (q 0), .int a1] : List Value).toArray below meth c H locs 0 0 (MQ below (va_Qi (fun r u => (u, r) = k_kindByRegions σ0 a1) (KPost D q cA) (KA q)) ([.ref (q 0), .int a1] : List Value).toArray s 0 0 (KA q)) (F0 m 56 ls []) := by
    intro H locs ls σ x1 x2 x3 hE hl hP hB hS
    refine lv_iinc (k := 4) (v := 3) (lv' := [(4, .int 3), (0, .ref (q 0)), (1, .int x1), (2, .int x2), (3, .int x3)]) hx hb dK_kindByRegions_56 hl rfl (by decide) (by decide) rfl (fun ls hl => ?_)
    refine lv_goto (tgt := 7) hx hb dK_kindByRegions_59 rfl ?_
    have hl := lv_sub hl [1, 2, 3, 4, 0] rfl
    exact b7_3 _ _ _ _ x1 x2 x3 hE hl hP hB hS
  have b7_2 : ∀ (H : Heap) (locs : List Loc) (ls : Array Slot) (σ : St) (x1 : Int32) (x2 : Int32) (x3 : Int32), k_kindByRegions σ0 a1 = k_kindByRegions_7_2 σ x1 x2 x3 → lv_has ls 5 [(0, .ref (q 0)), (1, .int x1), (2, .int x2), (3, .int x3), (4, .int 2)] → va_P D vwCl (wsK q cA σ) H → KB σ → va_S (KA q) s.heap H locs → W p l e (headSpec wsK_kindByRegions { frames := 0, cells := 0, slots := 0, locals := 0 }).room s m ([.ref (q 0), .int a1] : List Value).toArray below meth c H locs 0 0 (MQ below (va_Qi (fun r u => (u, r) = k_kindByRegions σ0 a1) (KPost D q cA) (KA q)) ([.ref (q 0), .int a1] : List Value).toArray s 0 0 (KA q)) (F0 m 7 ls []) := by
    intro H locs ls σ x1 x2 x3 hE hl hP hB hS
    refine lv_iload hx hb dK_kindByRegions_7 (lv_at hl 4 rfl) ?_
    refine lv_iconst (v := 4) hx hb dK_kindByRegions_9 (by decide) ?_
    refine lv_icmp_ge (tgt := 62) hx hb dK_kindByRegions_10 rfl (fun h5 => absurd h5 (by decide)) (fun _ => ?_)
    refine lv_aload_n hx hb dK_kindByRegions_13 rfl (lv_at hl 0 rfl) ?_
    refine kget_0_4 hx hb hts inK hown hC hP (hts _ wK_f22) dK_kindByRegions_14 ?_
    refine lv_iload hx hb dK_kindByRegions_17 (lv_at hl 4 rfl) ?_
    refine kald_5 hx hb hC hP (vin_c (by decide)) dK_kindByRegions_19 ?_
    refine lv_if_eq (tgt := 56) hx hb dK_kindByRegions_20 rfl (fun h6 => ?_) (fun h6 => ?_)
    · have hE := hE.trans (if_pos h6)
      exact b56_2 _ _ _ _ x1 x2 x3 hE hl hP hB hS
    · have hE := hE.trans (if_neg h6)
      refine lv_aload_n hx hb dK_kindByRegions_23 rfl (lv_at hl 0 rfl) ?_
      refine kget_0_2 hx hb hts inK hown hC hP (hts _ wK_f16) dK_kindByRegions_24 ?_
      refine lv_iload hx hb dK_kindByRegions_27 (lv_at hl 4 rfl) ?_
      refine kald_3 hx hb hC hP (vin_c (by decide)) dK_kindByRegions_29 ?_
      refine lv_iload_n hx hb dK_kindByRegions_30 rfl (lv_at hl 1 rfl) ?_
      refine lv_icmp_gt (tgt := 56) hx hb dK_kindByRegions_31 rfl (fun h13 => ?_) (fun h13 => ?_)
      · have hE := hE.trans (if_pos h13)
        exact b56_2 _ _ _ _ x1 x2 x3 hE hl hP hB hS
      · have hE := hE.trans (if_neg h13)
        refine lv_iload_n hx hb dK_kindByRegions_34 rfl (lv_at hl 1 rfl) ?_
        refine lv_aload_n hx hb dK_kindByRegions_35 rfl (lv_at hl 0 rfl) ?_
        refine kget_0_3 hx hb hts inK hown hC hP (hts _ wK_f19) dK_kindByRegions_36 ?_
        refine lv_iload hx hb dK_kindByRegions_39 (lv_at hl 4 rfl) ?_
        refine kald_4 hx hb hC hP (vin_c (by decide)) dK_kindByRegions_41 ?_
        refine lv_icmp_gt (tgt := 56) hx hb dK_kindByRegions_42 rfl (fun h14 => ?_) (fun h14 => ?_)
        · have hE := hE.trans (if_pos h14)
          exact b56_2 _ _ _ _ x1 x2 x3 hE hl hP hB hS
        · have hE := hE.trans (if_neg h14)
          refine lv_aload_n hx hb dK_kindByRegions_45 rfl (lv_at hl 0 rfl) ?_
          refine kget_0_4 hx hb hts inK hown hC hP (hts _ wK_f22) dK_kindByRegions_46 ?_
          refine lv_iload hx hb dK_kindByRegions_49 (lv_at hl 4 rfl) ?_
          refine kald_5 hx hb hC hP (vin_c (by decide)) dK_kindByRegions_51 ?_
          refine lv_istore_n (lv' := [(2, .int (σ 5 (ix 2))), (0, .ref (q 0)), (1, .int x1), (3, .int x3), (4, .int 2)]) hx hb dK_kindByRegions_52 rfl hl (by decide) rfl (fun ls hl => ?_)
          refine lv_iinc (k := 3) (v := (x3 + 1)) (lv' := [(3, .int (x3 + 1)), (2, .int (σ 5 (ix 2))), (0, .ref (q 0)), (1, .int x1), (4, .int 2)]) hx hb dK_kindByRegions_53 hl rfl rfl (by decide) rfl (fun ls hl => ?_)
          have hl := lv_sub hl [2, 3, 1, 0, 4] rfl
          exact b56_2 _ _ _ _ x1 (σ 5 (ix 2)) (x3 + 1) hE hl hP hB hS
  have b56_1 : ∀ (H : Heap) (locs : List Loc) (ls : Array Slot) (σ : St) (x1 : Int32) (x2 : Int32) (x3 : Int32), k_kindByRegions σ0 a1 = k_kindByRegions_56_1 σ x1 x2 x3 → lv_has ls 5 [(0, .ref (q 0)), (1, .int x1), (2, .int x2), (3, .int x3), (4, .int 1)] → va_P D vwCl (wsK q cA σ) H → KB σ → va_S (KA q) s.heap H locs → W p l e (headSpec wsK_kindByRegions { frames := 0, cells := 0, slots := 0, locals := 0 }).room s m ([.ref (q 0), .int a1] : List Value).toArray below meth c H locs 0 0 (MQ below (va_Qi (fun r u => (u, r) = k_kindByRegions σ0 a1) (KPost D q cA) (KA q)) ([.ref (q 0), .int a1] : List Value).toArray s 0 0 (KA q)) (F0 m 56 ls []) := by
    intro H locs ls σ x1 x2 x3 hE hl hP hB hS
    refine lv_iinc (k := 4) (v := 2) (lv' := [(4, .int 2), (0, .ref (q 0)), (1, .int x1), (2, .int x2), (3, .int x3)]) hx hb dK_kindByRegions_56 hl rfl (by decide) (by decide) rfl (fun ls hl => ?_)
    refine lv_goto (tgt := 7) hx hb dK_kindByRegions_59 rfl ?_
    have hl := lv_sub hl [1, 2, 3, 4, 0] rfl
    exact b7_2 _ _ _ _ x1 x2 x3 hE hl hP hB hS
  have b7_1 : ∀ (H : Heap) (locs : List Loc) (ls : Array Slot) (σ : St) (x1 : Int32) (x2 : Int32) (x3 : Int32), k_kindByRegions σ0 a1 = k_kindByRegions_7_1 σ x1 x2 x3 → lv_has ls 5 [(0, .ref (q 0)), (1, .int x1), (2, .int x2), (3, .int x3), (4, .int 1)] → va_P D vwCl (wsK q cA σ) H → KB σ → va_S (KA q) s.heap H locs → W p l e (headSpec wsK_kindByRegions { frames := 0, cells := 0, slots := 0, locals := 0 }).room s m ([.ref (q 0), .int a1] : List Value).toArray below meth c H locs 0 0 (MQ below (va_Qi (fun r u => (u, r) = k_kindByRegions σ0 a1) (KPost D q cA) (KA q)) ([.ref (q 0), .int a1] : List Value).toArray s 0 0 (KA q)) (F0 m 7 ls []) := by
    intro H locs ls σ x1 x2 x3 hE hl hP hB hS
    refine lv_iload hx hb dK_kindByRegions_7 (lv_at hl 4 rfl) ?_
    refine lv_iconst (v := 4) hx hb dK_kindByRegions_9 (by decide) ?_
    refine lv_icmp_ge (tgt := 62) hx hb dK_kindByRegions_10 rfl (fun h3 => absurd h3 (by decide)) (fun _ => ?_)
    refine lv_aload_n hx hb dK_kindByRegions_13 rfl (lv_at hl 0 rfl) ?_
    refine kget_0_4 hx hb hts inK hown hC hP (hts _ wK_f22) dK_kindByRegions_14 ?_
    refine lv_iload hx hb dK_kindByRegions_17 (lv_at hl 4 rfl) ?_
    refine kald_5 hx hb hC hP (vin_c (by decide)) dK_kindByRegions_19 ?_
    refine lv_if_eq (tgt := 56) hx hb dK_kindByRegions_20 rfl (fun h4 => ?_) (fun h4 => ?_)
    · have hE := hE.trans (if_pos h4)
      exact b56_1 _ _ _ _ x1 x2 x3 hE hl hP hB hS
    · have hE := hE.trans (if_neg h4)
      refine lv_aload_n hx hb dK_kindByRegions_23 rfl (lv_at hl 0 rfl) ?_
      refine kget_0_2 hx hb hts inK hown hC hP (hts _ wK_f16) dK_kindByRegions_24 ?_
      refine lv_iload hx hb dK_kindByRegions_27 (lv_at hl 4 rfl) ?_
      refine kald_3 hx hb hC hP (vin_c (by decide)) dK_kindByRegions_29 ?_
      refine lv_iload_n hx hb dK_kindByRegions_30 rfl (lv_at hl 1 rfl) ?_
      refine lv_icmp_gt (tgt := 56) hx hb dK_kindByRegions_31 rfl (fun h15 => ?_) (fun h15 => ?_)
      · have hE := hE.trans (if_pos h15)
        exact b56_1 _ _ _ _ x1 x2 x3 hE hl hP hB hS
      · have hE := hE.trans (if_neg h15)
        refine lv_iload_n hx hb dK_kindByRegions_34 rfl (lv_at hl 1 rfl) ?_
        refine lv_aload_n hx hb dK_kindByRegions_35 rfl (lv_at hl 0 rfl) ?_
        refine kget_0_3 hx hb hts inK hown hC hP (hts _ wK_f19) dK_kindByRegions_36 ?_
        refine lv_iload hx hb dK_kindByRegions_39 (lv_at hl 4 rfl) ?_
        refine kald_4 hx hb hC hP (vin_c (by decide)) dK_kindByRegions_41 ?_
        refine lv_icmp_gt (tgt := 56) hx hb dK_kindByRegions_42 rfl (fun h16 => ?_) (fun h16 => ?_)
        · have hE := hE.trans (if_pos h16)
          exact b56_1 _ _ _ _ x1 x2 x3 hE hl hP hB hS
        · have hE := hE.trans (if_neg h16)
          refine lv_aload_n hx hb dK_kindByRegions_45 rfl (lv_at hl 0 rfl) ?_
          refine kget_0_4 hx hb hts inK hown hC hP (hts _ wK_f22) dK_kindByRegions_46 ?_
          refine lv_iload hx hb dK_kindByRegions_49 (lv_at hl 4 rfl) ?_
          refine kald_5 hx hb hC hP (vin_c (by decide)) dK_kindByRegions_51 ?_
          refine lv_istore_n (lv' := [(2, .int (σ 5 (ix 1))), (0, .ref (q 0)), (1, .int x1), (3, .int x3), (4, .int 1)]) hx hb dK_kindByRegions_52 rfl hl (by decide) rfl (fun ls hl => ?_)
          refine lv_iinc (k := 3) (v := (x3 + 1)) (lv' := [(3, .int (x3 + 1)), (2, .int (σ 5 (ix 1))), (0, .ref (q 0)), (1, .int x1), (4, .int 1)]) hx hb dK_kindByRegions_53 hl rfl rfl (by decide) rfl (fun ls hl => ?_)
          have hl := lv_sub hl [2, 3, 1, 0, 4] rfl
          exact b56_1 _ _ _ _ x1 (σ 5 (ix 1)) (x3 + 1) hE hl hP hB hS
  have b56_0 : ∀ (H : Heap) (locs : List Loc) (ls : Array Slot) (σ : St) (x1 : Int32) (x2 : Int32) (x3 : Int32), k_kindByRegions σ0 a1 = k_kindByRegions_56_0 σ x1 x2 x3 → lv_has ls 5 [(0, .ref (q 0)), (1, .int x1), (2, .int x2), (3, .int x3), (4, .int 0)] → va_P D vwCl (wsK q cA σ) H → KB σ → va_S (KA q) s.heap H locs → W p l e (headSpec wsK_kindByRegions { frames := 0, cells := 0, slots := 0, locals := 0 }).room s m ([.ref (q 0), .int a1] : List Value).toArray below meth c H locs 0 0 (MQ below (va_Qi (fun r u => (u, r) = k_kindByRegions σ0 a1) (KPost D q cA) (KA q)) ([.ref (q 0), .int a1] : List Value).toArray s 0 0 (KA q)) (F0 m 56 ls []) := by
    intro H locs ls σ x1 x2 x3 hE hl hP hB hS
    refine lv_iinc (k := 4) (v := 1) (lv' := [(4, .int 1), (0, .ref (q 0)), (1, .int x1), (2, .int x2), (3, .int x3)]) hx hb dK_kindByRegions_56 hl rfl (by decide) (by decide) rfl (fun ls hl => ?_)
    refine lv_goto (tgt := 7) hx hb dK_kindByRegions_59 rfl ?_
    have hl := lv_sub hl [1, 2, 3, 4, 0] rfl
    exact b7_1 _ _ _ _ x1 x2 x3 hE hl hP hB hS
  have b7_0 : ∀ (H : Heap) (locs : List Loc) (ls : Array Slot) (σ : St) (x1 : Int32) (x2 : Int32) (x3 : Int32), k_kindByRegions σ0 a1 = k_kindByRegions_7_0 σ x1 x2 x3 → lv_has ls 5 [(0, .ref (q 0)), (1, .int x1), (2, .int x2), (3, .int x3), (4, .int 0)] → va_P D vwCl (wsK q cA σ) H → KB σ → va_S (KA q) s.heap H locs → W p l e (headSpec wsK_kindByRegions { frames := 0, cells := 0, slots := 0, locals := 0 }).room s m ([.ref (q 0), .int a1] : List Value).toArray below meth c H locs 0 0 (MQ below (va_Qi (fun r u => (u, r) = k_kindByRegions σ0 a1) (KPost D q cA) (KA q)) ([.ref (q 0), .int a1] : List Value).toArray s 0 0 (KA q)) (F0 m 7 ls []) := by
    intro H locs ls σ x1 x2 x3 hE hl hP hB hS
    refine lv_iload hx hb dK_kindByRegions_7 (lv_at hl 4 rfl) ?_
    refine lv_iconst (v := 4) hx hb dK_kindByRegions_9 (by decide) ?_
    refine lv_icmp_ge (tgt := 62) hx hb dK_kindByRegions_10 rfl (fun h1 => absurd h1 (by decide)) (fun _ => ?_)
    refine lv_aload_n hx hb dK_kindByRegions_13 rfl (lv_at hl 0 rfl) ?_
    refine kget_0_4 hx hb hts inK hown hC hP (hts _ wK_f22) dK_kindByRegions_14 ?_
    refine lv_iload hx hb dK_kindByRegions_17 (lv_at hl 4 rfl) ?_
    refine kald_5 hx hb hC hP (vin_c (by decide)) dK_kindByRegions_19 ?_
    refine lv_if_eq (tgt := 56) hx hb dK_kindByRegions_20 rfl (fun h2 => ?_) (fun h2 => ?_)
    · have hE := hE.trans (if_pos h2)
      exact b56_0 _ _ _ _ x1 x2 x3 hE hl hP hB hS
    · have hE := hE.trans (if_neg h2)
      refine lv_aload_n hx hb dK_kindByRegions_23 rfl (lv_at hl 0 rfl) ?_
      refine kget_0_2 hx hb hts inK hown hC hP (hts _ wK_f16) dK_kindByRegions_24 ?_
      refine lv_iload hx hb dK_kindByRegions_27 (lv_at hl 4 rfl) ?_
      refine kald_3 hx hb hC hP (vin_c (by decide)) dK_kindByRegions_29 ?_
      refine lv_iload_n hx hb dK_kindByRegions_30 rfl (lv_at hl 1 rfl) ?_
      refine lv_icmp_gt (tgt := 56) hx hb dK_kindByRegions_31 rfl (fun h17 => ?_) (fun h17 => ?_)
      · have hE := hE.trans (if_pos h17)
        exact b56_0 _ _ _ _ x1 x2 x3 hE hl hP hB hS
      · have hE := hE.trans (if_neg h17)
        refine lv_iload_n hx hb dK_kindByRegions_34 rfl (lv_at hl 1 rfl) ?_
        refine lv_aload_n hx hb dK_kindByRegions_35 rfl (lv_at hl 0 rfl) ?_
        refine kget_0_3 hx hb hts inK hown hC hP (hts _ wK_f19) dK_kindByRegions_36 ?_
        refine lv_iload hx hb dK_kindByRegions_39 (lv_at hl 4 rfl) ?_
        refine kald_4 hx hb hC hP (vin_c (by decide)) dK_kindByRegions_41 ?_
        refine lv_icmp_gt (tgt := 56) hx hb dK_kindByRegions_42 rfl (fun h18 => ?_) (fun h18 => ?_)
        · have hE := hE.trans (if_pos h18)
          exact b56_0 _ _ _ _ x1 x2 x3 hE hl hP hB hS
        · have hE := hE.trans (if_neg h18)
          refine lv_aload_n hx hb dK_kindByRegions_45 rfl (lv_at hl 0 rfl) ?_
          refine kget_0_4 hx hb hts inK hown hC hP (hts _ wK_f22) dK_kindByRegions_46 ?_
          refine lv_iload hx hb dK_kindByRegions_49 (lv_at hl 4 rfl) ?_
          refine kald_5 hx hb hC hP (vin_c (by decide)) dK_kindByRegions_51 ?_
          refine lv_istore_n (lv' := [(2, .int (σ 5 (ix 0))), (0, .ref (q 0)), (1, .int x1), (3, .int x3), (4, .int 0)]) hx hb dK_kindByRegions_52 rfl hl (by decide) rfl (fun ls hl => ?_)
          refine lv_iinc (k := 3) (v := (x3 + 1)) (lv' := [(3, .int (x3 + 1)), (2, .int (σ 5 (ix 0))), (0, .ref (q 0)), (1, .int x1), (4, .int 0)]) hx hb dK_kindByRegions_53 hl rfl rfl (by decide) rfl (fun ls hl => ?_)
          have hl := lv_sub hl [2, 3, 1, 0, 4] rfl
          exact b56_0 _ _ _ _ x1 (σ 5 (ix 0)) (x3 + 1) hE hl hP hB hS
  refine lv_iconst (v := 0) hx hb dK_kindByRegions_0 (by decide) ?_
  refine lv_istore_n (lv' := [(2, .int 0), (0, .ref (q 0)), (1, .int a1)]) hx hb dK_kindByRegions_1 rfl hl (by decide) rfl (fun ls hl => ?_)
  refine lv_iconst (v := 0) hx hb dK_kindByRegions_2 (by decide) ?_
  refine lv_istore_n (lv' := [(3, .int 0), (2, .int 0), (0, .ref (q 0)), (1, .int a1)]) hx hb dK_kindByRegions_3 rfl hl (by decide) rfl (fun ls hl => ?_)
  refine lv_iconst (v := 0) hx hb dK_kindByRegions_4 (by decide) ?_
  refine lv_istore (lv' := [(4, .int 0), (3, .int 0), (2, .int 0), (0, .ref (q 0)), (1, .int a1)]) hx hb dK_kindByRegions_5 hl (by decide) rfl (fun ls hl => ?_)
  have hl := lv_sub hl [3, 4, 2, 1, 0] rfl
  exact b7_0 _ _ _ _ a1 0 0 hE hl hP hB hS
set_option maxRecDepth 100000 in
set_option maxHeartbeats 4000000 in
theorem c_k_copy_76 (l : Launch) (D : va_G) (q : Nat → Nat) (cA : ClassId) (tN : Nat) (σ0 : St) : Met l yQ_copy wsQ_copy { frames := 1, cells := 0, slots := 0, locals := 40 } (va_Pc [.ref (q 7), .ref (q 6)] (KPre D q cA tN σ0)) (va_Qv (fun u => u = k_copy_76 σ0) (KPost D q cA) (KA q)) 0 0 (KA q) := by
  refine Met.ofW (cc := cQ_copy) (maxL := 2) (ret := none) (by decide) rfl ?_
  intro p e s m args below meth c s₁ B hml hv
  obtain ⟨rfl, hP, hB, hC⟩ := hv
  have hx := B.exec
  have hb := B.bytes
  have hr := B.returns
  have hts : ∀ w ∈ gw, w.before ([.ref (q 7), .ref (q 6)] : List Value).toArray s = true := fun w h => atoms_spec (ws := wsQ_copy) B.pre w (List.mem_cons_of_mem _ h)
  have hown : s.vm.findClass RQ = some m.cls := findClass_of_methodNamed B.named
  have hlocks := B.notSynchronized
  have hS : va_S (KA q) s.heap s.heap [] := va_S.rf
  have hl := lv_entry ([.ref (q 7), .ref (q 6)]) (n := 2) (Nat.le_of_ble_eq_true rfl)
  rw [lg_entry_eq]
  generalize (lg_sl ([.ref (q 7), .ref (q 6)]) ++ List.replicate (2 - (lg_sl ([.ref (q 7), .ref (q 6)])).length) Slot.unset).toArray = ls at hl ⊢
  have hl : lv_has ls 2 [(0, .ref (q 7)), (1, .ref (q 6))] := hl
  have hE : k_copy_76 σ0 = k_copy_76 σ0 := rfl
  refine lv_aload_n hx hb dQ_copy_0 rfl (lv_at hl 1 rfl) ?_
  refine kget_6_0 hx hb hts inQ hown hC hP (hts _ wQ_f9) dQ_copy_1 ?_
  refine lv_iconst (v := 0) hx hb dQ_copy_4 (by decide) ?_
  refine lv_aload_n hx hb dQ_copy_5 rfl (lv_at hl 0 rfl) ?_
  refine kget_7_0 hx hb hts inQ hown hC hP (hts _ wQ_f9) dQ_copy_6 ?_
  refine lv_iconst (v := 0) hx hb dQ_copy_9 (by decide) ?_
  refine lv_bipush (v := 8) hx hb dQ_copy_10 (by decide) ?_
  refine kcopy_8_9 hx hb (hml.trans hl.1.symm) hC hP hS hown (hts _ wQ_m22) (hts _ w_cpn) (hts _ w_cps) (hts _ w_cpi) (Nat.le_of_ble_eq_true rfl) (Nat.le_of_ble_eq_true rfl) dQ_copy_12 (fun σ1 H locs e1 hP hS => ?_)
  have hE := hE.trans (bd_e e1)
  have hB : KB σ1 := by rw [e1]; exact hB
  refine lv_aload_n hx hb dQ_copy_15 rfl (lv_at hl 0 rfl) ?_
  refine lv_aload_n hx hb dQ_copy_16 rfl (lv_at hl 1 rfl) ?_
  refine kget_6_1 hx hb hts inQ hown hC hP (hts _ wQ_f15) dQ_copy_17 ?_
  refine kput_7_1 hx hb hts inQ hown hC hP (hts _ wQ_f15) hS dQ_copy_20 (fun σ2 H locs e2 hP hS => ?_)
  have hE := hE.trans (bd_e e2)
  have hB : KB σ2 := by rw [e2]; exact hB
  refine lv_aload_n hx hb dQ_copy_23 rfl (lv_at hl 0 rfl) ?_
  refine lv_aload_n hx hb dQ_copy_24 rfl (lv_at hl 1 rfl) ?_
  refine kget_6_2 hx hb hts inQ hown hC hP (hts _ wQ_f19) dQ_copy_25 ?_
  refine kput_7_2 hx hb hts inQ hown hC hP (hts _ wQ_f19) hS dQ_copy_28 (fun σ3 H locs e3 hP hS => ?_)
  have hE := hE.trans (bd_e e3)
  have hB : KB σ3 := by rw [e3]; exact hB
  refine lv_aload_n hx hb dQ_copy_31 rfl (lv_at hl 0 rfl) ?_
  refine lv_aload_n hx hb dQ_copy_32 rfl (lv_at hl 1 rfl) ?_
  refine kget_6_3 hx hb hts inQ hown hC hP (hts _ wQ_f28) dQ_copy_33 ?_
  refine kput_7_3 hx hb hts inQ hown hC hP (hts _ wQ_f28) hS dQ_copy_36 (fun σ4 H locs e4 hP hS => ?_)
  have hE := hE.trans (bd_e e4)
  have hB : KB σ4 := by rw [e4]; exact hB
  refine lv_aload_n hx hb dQ_copy_39 rfl (lv_at hl 0 rfl) ?_
  refine lv_aload_n hx hb dQ_copy_40 rfl (lv_at hl 1 rfl) ?_
  refine kget_6_4 hx hb hts inQ hown hC hP (hts _ wQ_f31) dQ_copy_41 ?_
  have z5 : zb (σ4 6 4) := KB_6_4 hB
  refine kput_7_4 hx hb hts inQ hown hC hP (hts _ wQ_f31) hS z5 dQ_copy_44 (fun σ6 H locs e6 hP hS => ?_)
  have hE := hE.trans (bd_e e6)
  have hB : KB σ6 := by rw [e6]; exact KB_7_4s hB z5
  refine lv_aload_n hx hb dQ_copy_47 rfl (lv_at hl 0 rfl) ?_
  refine lv_aload_n hx hb dQ_copy_48 rfl (lv_at hl 1 rfl) ?_
  refine kget_6_5 hx hb hts inQ hown hC hP (hts _ wQ_f35) dQ_copy_49 ?_
  have z7 : zb (σ6 6 5) := KB_6_5 hB
  refine kput_7_5 hx hb hts inQ hown hC hP (hts _ wQ_f35) hS z7 dQ_copy_52 (fun σ8 H locs e8 hP hS => ?_)
  have hE := hE.trans (bd_e e8)
  have hB : KB σ8 := by rw [e8]; exact KB_7_5s hB z7
  refine lv_aload_n hx hb dQ_copy_55 rfl (lv_at hl 0 rfl) ?_
  refine lv_aload_n hx hb dQ_copy_56 rfl (lv_at hl 1 rfl) ?_
  refine kget_6_6 hx hb hts inQ hown hC hP (hts _ wQ_f38) dQ_copy_57 ?_
  refine kput_7_6 hx hb hts inQ hown hC hP (hts _ wQ_f38) hS dQ_copy_60 (fun σ9 H locs e9 hP hS => ?_)
  have hE := hE.trans (bd_e e9)
  have hB : KB σ9 := by rw [e9]; exact hB
  exact W.vret hx hb hr (fun t ht hW => ⟨⟨σ9, rfl, hE.symm, ⟨by rw [ht]; exact hP, hB⟩⟩, hS.F ht⟩) hS.2.2 dQ_copy_63
set_option maxRecDepth 100000 in
set_option maxHeartbeats 4000000 in
theorem c_k_stack (l : Launch) (D : va_G) (q : Nat → Nat) (cA : ClassId) (tN : Nat) (σ0 : St) : Met l yQ_stack wsQ_stack { frames := 0, cells := 0, slots := 0, locals := 0 } (va_Pc [.ref (q 6)] (KPre D q cA tN σ0)) (va_Qi (fun r u => (u, r) = k_stack σ0) (KPost D q cA) (KA q)) 0 0 (KA q) := by
  refine Met.ofW (cc := cQ_stack) (maxL := 1) (ret := (some .int)) (by decide) rfl ?_
  intro p e s m args below meth c s₁ B hml hv
  obtain ⟨rfl, hP, hB, hC⟩ := hv
  have hx := B.exec
  have hb := B.bytes
  have hr := B.returns
  have hts : ∀ w ∈ gw, w.before ([.ref (q 6)] : List Value).toArray s = true := fun w h => atoms_spec (ws := wsQ_stack) B.pre w (List.mem_cons_of_mem _ h)
  have hown : s.vm.findClass RQ = some m.cls := findClass_of_methodNamed B.named
  have hlocks := B.notSynchronized
  have hS : va_S (KA q) s.heap s.heap [] := va_S.rf
  have hl := lv_entry ([.ref (q 6)]) (n := 1) (Nat.le_of_ble_eq_true rfl)
  rw [lg_entry_eq]
  generalize (lg_sl ([.ref (q 6)]) ++ List.replicate (1 - (lg_sl ([.ref (q 6)])).length) Slot.unset).toArray = ls at hl ⊢
  have hl : lv_has ls 1 [(0, .ref (q 6))] := hl
  have hE : k_stack σ0 = k_stack σ0 := rfl
  have b18 : ∀ (H : Heap) (locs : List Loc) (ls : Array Slot) (σ : St) (y0 : Int32), k_stack σ0 = k_stack_18 σ y0 → lv_has ls 1 [] → va_P D vwCl (wsK q cA σ) H → KB σ → va_S (KA q) s.heap H locs → W p l e (headSpec wsQ_stack { frames := 0, cells := 0, slots := 0, locals := 0 }).room s m ([.ref (q 6)] : List Value).toArray below meth c H locs 0 0 (MQ below (va_Qi (fun r u => (u, r) = k_stack σ0) (KPost D q cA) (KA q)) ([.ref (q 6)] : List Value).toArray s 0 0 (KA q)) (F0 m 18 ls [.int y0]) := by
    intro H locs ls σ y0 hE hl hP hB hS
    exact W.iret (v := y0) hx hb hr (fun t ht hW => ⟨⟨y0, σ, rfl, hE.symm, ⟨by rw [ht]; exact hP, hB⟩⟩, hS.F ht⟩) hS.2.2 dQ_stack_18
  refine lv_aload_n hx hb dQ_stack_0 rfl (lv_at hl 0 rfl) ?_
  refine kget_6_5 hx hb hts inQ hown hC hP (hts _ wQ_f35) dQ_stack_1 ?_
  have z1 : zb (σ0 6 5) := KB_6_5 hB
  refine lv_if_eq (tgt := 14) hx hb dQ_stack_4 rfl (fun h2 => ?_) (fun h2 => ?_)
  · have hE := hE.trans (if_pos h2)
    refine lv_aload_n hx hb dQ_stack_14 rfl (lv_at hl 0 rfl) ?_
    refine kget_6_1 hx hb hts inQ hown hC hP (hts _ wQ_f15) dQ_stack_15 ?_
    have hl := lv_sub hl [] rfl
    exact b18 _ _ _ _ (σ0 6 1) hE hl hP hB hS
  · have hE := hE.trans (if_neg h2)
    refine lv_aload_n hx hb dQ_stack_7 rfl (lv_at hl 0 rfl) ?_
    refine kget_6_2 hx hb hts inQ hown hC hP (hts _ wQ_f19) dQ_stack_8 ?_
    refine lv_goto (tgt := 18) hx hb dQ_stack_11 rfl ?_
    have hl := lv_sub hl [] rfl
    exact b18 _ _ _ _ (σ0 6 2) hE hl hP hB hS
set_option maxRecDepth 100000 in
set_option maxHeartbeats 4000000 in
theorem c_k_setStack (l : Launch) (D : va_G) (q : Nat → Nat) (cA : ClassId) (tN : Nat) (σ0 : St) (a1 : Int32) : Met l yQ_setStack wsQ_setStack { frames := 0, cells := 0, slots := 0, locals := 0 } (va_Pc [.ref (q 6), .int a1] (KPre D q cA tN σ0)) (va_Qv (fun u => u = k_setStack σ0 a1) (KPost D q cA) (KA q)) 0 0 (KA q) := by
  refine Met.ofW (cc := cQ_setStack) (maxL := 2) (ret := none) (by decide) rfl ?_
  intro p e s m args below meth c s₁ B hml hv
  obtain ⟨rfl, hP, hB, hC⟩ := hv
  have hx := B.exec
  have hb := B.bytes
  have hr := B.returns
  have hts : ∀ w ∈ gw, w.before ([.ref (q 6), .int a1] : List Value).toArray s = true := fun w h => atoms_spec (ws := wsQ_setStack) B.pre w (List.mem_cons_of_mem _ h)
  have hown : s.vm.findClass RQ = some m.cls := findClass_of_methodNamed B.named
  have hlocks := B.notSynchronized
  have hS : va_S (KA q) s.heap s.heap [] := va_S.rf
  have hl := lv_entry ([.ref (q 6), .int a1]) (n := 2) (Nat.le_of_ble_eq_true rfl)
  rw [lg_entry_eq]
  generalize (lg_sl ([.ref (q 6), .int a1]) ++ List.replicate (2 - (lg_sl ([.ref (q 6), .int a1])).length) Slot.unset).toArray = ls at hl ⊢
  have hl : lv_has ls 2 [(0, .ref (q 6)), (1, .int a1)] := hl
  have hE : k_setStack σ0 a1 = k_setStack σ0 a1 := rfl
  have b20 : ∀ (H : Heap) (locs : List Loc) (ls : Array Slot) (σ : St), k_setStack σ0 a1 = k_setStack_20 σ → lv_has ls 2 [] → va_P D vwCl (wsK q cA σ) H → KB σ → va_S (KA q) s.heap H locs → W p l e (headSpec wsQ_setStack { frames := 0, cells := 0, slots := 0, locals := 0 }).room s m ([.ref (q 6), .int a1] : List Value).toArray below meth c H locs 0 0 (MQ below (va_Qv (fun u => u = k_setStack σ0 a1) (KPost D q cA) (KA q)) ([.ref (q 6), .int a1] : List Value).toArray s 0 0 (KA q)) (F0 m 20 ls []) := by
    intro H locs ls σ hE hl hP hB hS
    exact W.vret hx hb hr (fun t ht hW => ⟨⟨σ, rfl, hE.symm, ⟨by rw [ht]; exact hP, hB⟩⟩, hS.F ht⟩) hS.2.2 dQ_setStack_20
  refine lv_aload_n hx hb dQ_setStack_0 rfl (lv_at hl 0 rfl) ?_
  refine kget_6_5 hx hb hts inQ hown hC hP (hts _ wQ_f35) dQ_setStack_1 ?_
  have z1 : zb (σ0 6 5) := KB_6_5 hB
  refine lv_if_eq (tgt := 15) hx hb dQ_setStack_4 rfl (fun h2 => ?_) (fun h2 => ?_)
  · have hE := hE.trans (if_pos h2)
    refine lv_aload_n hx hb dQ_setStack_15 rfl (lv_at hl 0 rfl) ?_
    refine lv_iload_n hx hb dQ_setStack_16 rfl (lv_at hl 1 rfl) ?_
    refine kput_6_1 hx hb hts inQ hown hC hP (hts _ wQ_f15) hS dQ_setStack_17 (fun σ3 H locs e3 hP hS => ?_)
    have hE := hE.trans (bd_e e3)
    have hB : KB σ3 := by rw [e3]; exact hB
    have hl := lv_sub hl [] rfl
    exact b20 _ _ _ _ hE hl hP hB hS
  · have hE := hE.trans (if_neg h2)
    refine lv_aload_n hx hb dQ_setStack_7 rfl (lv_at hl 0 rfl) ?_
    refine lv_iload_n hx hb dQ_setStack_8 rfl (lv_at hl 1 rfl) ?_
    refine kput_6_2 hx hb hts inQ hown hC hP (hts _ wQ_f19) hS dQ_setStack_9 (fun σ4 H locs e4 hP hS => ?_)
    have hE := hE.trans (bd_e e4)
    have hB : KB σ4 := by rw [e4]; exact hB
    refine lv_goto (tgt := 20) hx hb dQ_setStack_12 rfl ?_
    have hl := lv_sub hl [] rfl
    exact b20 _ _ _ _ hE hl hP hB hS
end
section
set_option maxRecDepth 100000 in
set_option maxHeartbeats 4000000 in
theorem c_k_write (l : Launch) (D : va_G) (q : Nat → Nat) (cA : ClassId) (tN : Nat) (σ0 : St) (a1 : Int32) (a2 : Int32) : Met l yK_write wsK_write { frames := 0, cells := 0, slots := 0, locals := 0 } (va_Pc [.ref (q 0), .int a1, .int a2] (KPre D q cA tN σ0)) (va_Qv (fun u => u = k_write σ0 a1 a2) (KPost D q cA) (KA q)) 0 0 (KA q) := by
  refine Met.ofW (cc := cK_write) (maxL := 4) (ret := none) (by decide) rfl ?_
  intro p e s m args below meth c s₁ B hml hv
  obtain ⟨rfl, hP, hB, hC⟩ := hv
  have hx := B.exec
  have hb := B.bytes
  have hr := B.returns
  have hts : ∀ w ∈ gw, w.before ([.ref (q 0), .int a1, .int a2] : List Value).toArray s = true := fun w h => atoms_spec (ws := wsK_write) B.pre w (List.mem_cons_of_mem _ h)
  have hown : s.vm.findClass RK = some m.cls := findClass_of_methodNamed B.named
  have hlocks := B.notSynchronized
  have hS : va_S (KA q) s.heap s.heap [] := va_S.rf
  have hl := lv_entry ([.ref (q 0), .int a1, .int a2]) (n := 4) (Nat.le_of_ble_eq_true rfl)
  rw [lg_entry_eq]
  generalize (lg_sl ([.ref (q 0), .int a1, .int a2]) ++ List.replicate (4 - (lg_sl ([.ref (q 0), .int a1, .int a2])).length) Slot.unset).toArray = ls at hl ⊢
  have hl : lv_has ls 4 [(0, .ref (q 0)), (1, .int a1), (2, .int a2)] := hl
  have hE : k_write σ0 a1 a2 = k_write σ0 a1 a2 := rfl
  have b45 : ∀ (H : Heap) (locs : List Loc) (ls : Array Slot) (σ : St), k_write σ0 a1 a2 = k_write_45 σ → lv_has ls 4 [] → va_P D vwCl (wsK q cA σ) H → KB σ → va_S (KA q) s.heap H locs → W p l e (headSpec wsK_write { frames := 0, cells := 0, slots := 0, locals := 0 }).room s m ([.ref (q 0), .int a1, .int a2] : List Value).toArray below meth c H locs 0 0 (MQ below (va_Qv (fun u => u = k_write σ0 a1 a2) (KPost D q cA) (KA q)) ([.ref (q 0), .int a1, .int a2] : List Value).toArray s 0 0 (KA q)) (F0 m 45 ls []) := by
    intro H locs ls σ hE hl hP hB hS
    exact W.vret hx hb hr (fun t ht hW => ⟨⟨σ, rfl, hE.symm, ⟨by rw [ht]; exact hP, hB⟩⟩, hS.F ht⟩) hS.2.2 dK_write_45
  have b31 : ∀ (H : Heap) (locs : List Loc) (ls : Array Slot) (σ : St) (x2 : Int32) (x3 : Int32), vp_in x3 256 → k_write σ0 a1 a2 = k_write_31 σ x2 x3 → lv_has ls 4 [(0, .ref (q 0)), (2, .int x2), (3, .int x3)] → va_P D vwCl (wsK q cA σ) H → KB σ → va_S (KA q) s.heap H locs → W p l e (headSpec wsK_write { frames := 0, cells := 0, slots := 0, locals := 0 }).room s m ([.ref (q 0), .int a1, .int a2] : List Value).toArray below meth c H locs 0 0 (MQ below (va_Qv (fun u => u = k_write σ0 a1 a2) (KPost D q cA) (KA q)) ([.ref (q 0), .int a1, .int a2] : List Value).toArray s 0 0 (KA q)) (F0 m 31 ls []) := by
    intro H locs ls σ x2 x3 hin256_x3 hE hl hP hB hS
    refine lv_aload_n hx hb dK_write_31 rfl (lv_at hl 0 rfl) ?_
    refine kget_0_14 hx hb hts inK hown hC hP (hts _ wK_f101) dK_write_32 ?_
    refine lv_if_ne (tgt := 45) hx hb dK_write_35 rfl (fun h3 => ?_) (fun h3 => ?_)
    · have hE := hE.trans (if_neg h3)
      have hl := lv_sub hl [] rfl
      exact b45 _ _ _ _ hE hl hP hB hS
    · have hE := hE.trans (if_pos h3)
      refine lv_aload_n hx hb dK_write_38 rfl (lv_at hl 0 rfl) ?_
      refine kget_0_0 hx hb hts inK hown hC hP (hts _ wK_f9) dK_write_39 ?_
      refine lv_iload_n hx hb dK_write_42 rfl (lv_at hl 2 rfl) ?_
      refine lv_iload_n hx hb dK_write_43 rfl (lv_at hl 1 rfl) ?_
      refine kast_1 hx hb hC hP hS hin256_x3 dK_write_44 (fun σ4 H locs e4 hP hS => ?_)
      have hE := hE.trans (bd_e e4)
      have hB : KB σ4 := by rw [e4]; exact hB
      have hl := lv_sub hl [] rfl
      exact b45 _ _ _ _ hE hl hP hB hS
  refine lv_iload_n hx hb dK_write_0 rfl (lv_at hl 1 rfl) ?_
  refine lv_sipush (v := 255) hx hb dK_write_1 (by decide) ?_
  refine lv_iand hx hb dK_write_4 ?_
  refine lv_istore_n (lv' := [(3, .int (a1 &&& 255)), (0, .ref (q 0)), (1, .int a1), (2, .int a2)]) hx hb dK_write_5 rfl hl (by decide) rfl (fun ls hl => ?_)
  refine lv_aload_n hx hb dK_write_6 rfl (lv_at hl 1 rfl) ?_
  refine kget_0_5 hx hb hts inK hown hC hP (hts _ wK_f28) dK_write_7 ?_
  refine kget_6_5 hx hb hts inQ hown hC hP (hts _ wK_f64) dK_write_10 ?_
  have z1 : zb (σ0 6 5) := KB_6_5 hB
  refine lv_if_eq (tgt := 31) hx hb dK_write_13 rfl (fun h2 => ?_) (fun h2 => ?_)
  · have hE := hE.trans (if_pos h2)
    have hl := lv_sub hl [1, 3, 0] rfl
    exact b31 _ _ _ _ a2 (a1 &&& 255) (vin_m 8 (by decide) (by decide) (by decide)) hE hl hP hB hS
  · have hE := hE.trans (if_neg h2)
    refine lv_aload_n hx hb dK_write_16 rfl (lv_at hl 1 rfl) ?_
    refine kget_0_1 hx hb hts inK hown hC hP (hts _ wK_f13) dK_write_17 ?_
    refine lv_iload_n hx hb dK_write_20 rfl (lv_at hl 0 rfl) ?_
    refine kald_2 hx hb hC hP (vin_m 8 (by decide) (by decide) (by decide)) dK_write_21 ?_
    refine lv_iconst (v := 1) hx hb dK_write_22 (by decide) ?_
    refine lv_icmp_eq (tgt := 31) hx hb dK_write_23 rfl (fun h5 => ?_) (fun h5 => ?_)
    · have hE := hE.trans (if_pos h5)
      have hl := lv_sub hl [1, 3, 0] rfl
      exact b31 _ _ _ _ a2 (a1 &&& 255) (vin_m 8 (by decide) (by decide) (by decide)) hE hl hP hB hS
    · have hE := hE.trans (if_neg h5)
      refine lv_aload_n hx hb dK_write_26 rfl (lv_at hl 1 rfl) ?_
      refine lv_iconst (v := 2) hx hb dK_write_27 (by decide) ?_
      refine kput_0_14 hx hb hts inK hown hC hP (hts _ wK_f101) hS dK_write_28 (fun σ6 H locs e6 hP hS => ?_)
      have hE := hE.trans (bd_e e6)
      have hB : KB σ6 := by rw [e6]; exact hB
      have hl := lv_sub hl [1, 3, 0] rfl
      exact b31 _ _ _ _ a2 (a1 &&& 255) (vin_m 8 (by decide) (by decide) (by decide)) hE hl hP hB hS
set_option maxRecDepth 100000 in
set_option maxHeartbeats 4000000 in
theorem c_k_push (l : Launch) (D : va_G) (q : Nat → Nat) (cA : ClassId) (tN : Nat) (σ0 : St) (a1 : Int32) : Met l yK_push wsK_push { frames := 1, cells := 0, slots := 0, locals := 23 } (va_Pc [.ref (q 0), .int a1] (KPre D q cA tN σ0)) (va_Qv (fun u => u = k_push σ0 a1) (KPost D q cA) (KA q)) 0 0 (KA q) := by
  refine Met.ofW (cc := cK_push) (maxL := 3) (ret := none) (by decide) rfl ?_
  intro p e s m args below meth c s₁ B hml hv
  obtain ⟨rfl, hP, hB, hC⟩ := hv
  have hx := B.exec
  have hb := B.bytes
  have hr := B.returns
  have hts : ∀ w ∈ gw, w.before ([.ref (q 0), .int a1] : List Value).toArray s = true := fun w h => atoms_spec (ws := wsK_push) B.pre w (List.mem_cons_of_mem _ h)
  have hown : s.vm.findClass RK = some m.cls := findClass_of_methodNamed B.named
  have hlocks := B.notSynchronized
  have hS : va_S (KA q) s.heap s.heap [] := va_S.rf
  have hl := lv_entry ([.ref (q 0), .int a1]) (n := 3) (Nat.le_of_ble_eq_true rfl)
  rw [lg_entry_eq]
  generalize (lg_sl ([.ref (q 0), .int a1]) ++ List.replicate (3 - (lg_sl ([.ref (q 0), .int a1])).length) Slot.unset).toArray = ls at hl ⊢
  have hl : lv_has ls 3 [(0, .ref (q 0)), (1, .int a1)] := hl
  have hE : k_push σ0 a1 = k_push σ0 a1 := rfl
  refine lv_aload_n hx hb dK_push_0 rfl (lv_at hl 0 rfl) ?_
  refine kget_0_5 hx hb hts inK hown hC hP (hts _ wK_f28) dK_push_1 ?_
  refine kcalli (rest := []) ⟨hx, hb, hml, hown, hts⟩ hC hP hB hS (c_k_stack l D q cA tN σ0) (cwV 0 hts gK_176 rfl rfl rfl hdQ_stack ⟨Nat.le_of_ble_eq_true rfl, Nat.le_of_ble_eq_true rfl⟩) (krv_6 hC hP) rfl hl.1 rfl (Nat.le_of_ble_eq_true rfl) dK_push_4 (fun σ1 v2 H locs e1 hP hB hS => ?_)
  have hE := hE.trans (bd2_e e1)
  refine lv_iconst (v := 1) hx hb dK_push_7 (by decide) ?_
  refine lv_isub hx hb dK_push_8 ?_
  refine lv_ldc (v := 65535) hx hb hown (hts _ wK_c39) dK_push_9 ?_
  refine lv_iand hx hb dK_push_11 ?_
  refine lv_istore_n (lv' := [(2, .int ((v2 - 1) &&& 65535)), (0, .ref (q 0)), (1, .int a1)]) hx hb dK_push_12 rfl hl (by decide) rfl (fun ls hl => ?_)
  refine lv_aload_n hx hb dK_push_13 rfl (lv_at hl 1 rfl) ?_
  refine kget_0_5 hx hb hts inK hown hC hP (hts _ wK_f28) dK_push_14 ?_
  refine lv_iload_n hx hb dK_push_17 rfl (lv_at hl 0 rfl) ?_
  refine kcallv (rest := []) ⟨hx, hb, hml, hown, hts⟩ hC hP hB hS (c_k_setStack l D q cA tN σ1 ((v2 - 1) &&& 65535)) (cwV 1 hts gK_179 rfl rfl rfl hdQ_setStack ⟨Nat.le_of_ble_eq_true rfl, Nat.le_of_ble_eq_true rfl⟩) (krv_6 hC hP) rfl hl.1 rfl (Nat.le_of_ble_eq_true rfl) dK_push_18 (fun σ3 H locs e3 hP hB hS => ?_)
  have hE := hE.trans (bd_e e3)
  refine lv_aload_n hx hb dK_push_21 rfl (lv_at hl 1 rfl) ?_
  refine lv_iload_n hx hb dK_push_22 rfl (lv_at hl 0 rfl) ?_
  refine lv_iload_n hx hb dK_push_23 rfl (lv_at hl 2 rfl) ?_
  refine kcallv (rest := []) ⟨hx, hb, hml, hown, hts⟩ hC hP hB hS (c_k_write l D q cA tN σ3 ((v2 - 1) &&& 65535) a1) (cwV 2 hts gK_134 rfl rfl rfl hdK_write ⟨Nat.le_of_ble_eq_true rfl, Nat.le_of_ble_eq_true rfl⟩) (krv_0 hC hP) rfl hl.1 rfl (Nat.le_of_ble_eq_true rfl) dK_push_24 (fun σ4 H locs e4 hP hB hS => ?_)
  have hE := hE.trans (bd_e e4)
  exact W.vret hx hb hr (fun t ht hW => ⟨⟨σ4, rfl, hE.symm, ⟨by rw [ht]; exact hP, hB⟩⟩, hS.F ht⟩) hS.2.2 dK_push_27
set_option maxRecDepth 100000 in
set_option maxHeartbeats 4000000 in
theorem c_k_pushFrame (l : Launch) (D : va_G) (q : Nat → Nat) (cA : ClassId) (tN : Nat) (σ0 : St) : Met l yK_pushFrame wsK_pushFrame { frames := 2, cells := 0, slots := 0, locals := 45 } (va_Pc [.ref (q 0)] (KPre D q cA tN σ0)) (va_Qv (fun u => u = k_pushFrame σ0) (KPost D q cA) (KA q)) 0 0 (KA q) := by
  refine Met.ofW (cc := cK_pushFrame) (maxL := 2) (ret := none) (by decide) rfl ?_
  intro p e s m args below meth c s₁ B hml hv
  obtain ⟨rfl, hP, hB, hC⟩ := hv
  have hx := B.exec
  have hb := B.bytes
  have hr := B.returns
  have hts : ∀ w ∈ gw, w.before ([.ref (q 0)] : List Value).toArray s = true := fun w h => atoms_spec (ws := wsK_pushFrame) B.pre w (List.mem_cons_of_mem _ h)
  have hown : s.vm.findClass RK = some m.cls := findClass_of_methodNamed B.named
  have hlocks := B.notSynchronized
  have hS : va_S (KA q) s.heap s.heap [] := va_S.rf
  have hl := lv_entry ([.ref (q 0)]) (n := 2) (Nat.le_of_ble_eq_true rfl)
  rw [lg_entry_eq]
  generalize (lg_sl ([.ref (q 0)]) ++ List.replicate (2 - (lg_sl ([.ref (q 0)])).length) Slot.unset).toArray = ls at hl ⊢
  have hl : lv_has ls 2 [(0, .ref (q 0))] := hl
  have hE : k_pushFrame σ0 = k_pushFrame σ0 := rfl
  have b46_6 : ∀ (H : Heap) (locs : List Loc) (ls : Array Slot) (σ : St), k_pushFrame σ0 = k_pushFrame_46_6 σ → lv_has ls 2 [(0, .ref (q 0)), (1, .int 6)] → va_P D vwCl (wsK q cA σ) H → KB σ → va_S (KA q) s.heap H locs → W p l e (headSpec wsK_pushFrame { frames := 2, cells := 0, slots := 0, locals := 45 }).room s m ([.ref (q 0)] : List Value).toArray below meth c H locs 0 0 (MQ below (va_Qv (fun u => u = k_pushFrame σ0) (KPost D q cA) (KA q)) ([.ref (q 0)] : List Value).toArray s 0 0 (KA q)) (F0 m 46 ls []) := by
    intro H locs ls σ hE hl hP hB hS
    refine lv_iload_n hx hb dK_pushFrame_46 rfl (lv_at hl 1 rfl) ?_
    refine lv_bipush (v := 6) hx hb dK_pushFrame_47 (by decide) ?_
    refine lv_icmp_ge (tgt := 71) hx hb dK_pushFrame_49 rfl (fun _ => ?_) (fun h18 => absurd (by decide) h18)
    refine lv_aload_n hx hb dK_pushFrame_71 rfl (lv_at hl 0 rfl) ?_
    refine lv_sipush (v := 1000) hx hb dK_pushFrame_72 (by decide) ?_
    refine lv_aload_n hx hb dK_pushFrame_75 rfl (lv_at hl 0 rfl) ?_
    refine kget_0_5 hx hb hts inK hown hC hP (hts _ wK_f28) dK_pushFrame_76 ?_
    refine kget_6_6 hx hb hts inQ hown hC hP (hts _ wK_f73) dK_pushFrame_79 ?_
    refine lv_iadd hx hb dK_pushFrame_82 ?_
    refine kcallv (rest := []) ⟨hx, hb, hml, hown, hts⟩ hC hP hB hS (c_k_push l D q cA tN σ (1000 + (σ 6 6))) (cwV 1 hts gK_138 rfl rfl rfl hdK_push ⟨Nat.le_of_ble_eq_true rfl, Nat.le_of_ble_eq_true rfl⟩) (krv_0 hC hP) rfl hl.1 rfl (Nat.le_of_ble_eq_true rfl) dK_pushFrame_83 (fun σ19 H locs e19 hP hB hS => ?_)
    have hE := hE.trans (bd_e e19)
    exact W.vret hx hb hr (fun t ht hW => ⟨⟨σ19, rfl, hE.symm, ⟨by rw [ht]; exact hP, hB⟩⟩, hS.F ht⟩) hS.2.2 dK_pushFrame_86
  have b46_5 : ∀ (H : Heap) (locs : List Loc) (ls : Array Slot) (σ : St), k_pushFrame σ0 = k_pushFrame_46_5 σ → lv_has ls 2 [(0, .ref (q 0)), (1, .int 5)] → va_P D vwCl (wsK q cA σ) H → KB σ → va_S (KA q) s.heap H locs → W p l e (headSpec wsK_pushFrame { frames := 2, cells := 0, slots := 0, locals := 45 }).room s m ([.ref (q 0)] : List Value).toArray below meth c H locs 0 0 (MQ below (va_Qv (fun u => u = k_pushFrame σ0) (KPost D q cA) (KA q)) ([.ref (q 0)] : List Value).toArray s 0 0 (KA q)) (F0 m 46 ls []) := by
    intro H locs ls σ hE hl hP hB hS
    refine lv_iload_n hx hb dK_pushFrame_46 rfl (lv_at hl 1 rfl) ?_
    refine lv_bipush (v := 6) hx hb dK_pushFrame_47 (by decide) ?_
    refine lv_icmp_ge (tgt := 71) hx hb dK_pushFrame_49 rfl (fun h16 => absurd h16 (by decide)) (fun _ => ?_)
    refine lv_aload_n hx hb dK_pushFrame_52 rfl (lv_at hl 0 rfl) ?_
    refine lv_aload_n hx hb dK_pushFrame_53 rfl (lv_at hl 0 rfl) ?_
    refine kget_0_5 hx hb hts inK hown hC hP (hts _ wK_f28) dK_pushFrame_54 ?_
    refine kget_6_0 hx hb hts inQ hown hC hP (hts _ wK_f82) dK_pushFrame_57 ?_
    refine lv_iload_n hx hb dK_pushFrame_60 rfl (lv_at hl 1 rfl) ?_
    refine kald_8 hx hb hC hP (vin_c (by decide)) dK_pushFrame_61 ?_
    refine kcallv (rest := []) ⟨hx, hb, hml, hown, hts⟩ hC hP hB hS (c_k_push l D q cA tN σ (σ 8 (ix 5))) (cwV 1 hts gK_138 rfl rfl rfl hdK_push ⟨Nat.le_of_ble_eq_true rfl, Nat.le_of_ble_eq_true rfl⟩) (krv_0 hC hP) rfl hl.1 rfl (Nat.le_of_ble_eq_true rfl) dK_pushFrame_62 (fun σ17 H locs e17 hP hB hS => ?_)
    have hE := hE.trans (bd_e e17)
    refine lv_iinc (k := 1) (v := 6) (lv' := [(1, .int 6), (0, .ref (q 0))]) hx hb dK_pushFrame_65 hl rfl (by decide) (by decide) rfl (fun ls hl => ?_)
    refine lv_goto (tgt := 46) hx hb dK_pushFrame_68 rfl ?_
    have hl := lv_sub hl [1, 0] rfl
    exact b46_6 _ _ _ _ hE hl hP hB hS
  have b46_4 : ∀ (H : Heap) (locs : List Loc) (ls : Array Slot) (σ : St), k_pushFrame σ0 = k_pushFrame_46_4 σ → lv_has ls 2 [(0, .ref (q 0)), (1, .int 4)] → va_P D vwCl (wsK q cA σ) H → KB σ → va_S (KA q) s.heap H locs → W p l e (headSpec wsK_pushFrame { frames := 2, cells := 0, slots := 0, locals := 45 }).room s m ([.ref (q 0)] : List Value).toArray below meth c H locs 0 0 (MQ below (va_Qv (fun u => u = k_pushFrame σ0) (KPost D q cA) (KA q)) ([.ref (q 0)] : List Value).toArray s 0 0 (KA q)) (F0 m 46 ls []) := by
    intro H locs ls σ hE hl hP hB hS
    refine lv_iload_n hx hb dK_pushFrame_46 rfl (lv_at hl 1 rfl) ?_
    refine lv_bipush (v := 6) hx hb dK_pushFrame_47 (by decide) ?_
    refine lv_icmp_ge (tgt := 71) hx hb dK_pushFrame_49 rfl (fun h14 => absurd h14 (by decide)) (fun _ => ?_)
    refine lv_aload_n hx hb dK_pushFrame_52 rfl (lv_at hl 0 rfl) ?_
    refine lv_aload_n hx hb dK_pushFrame_53 rfl (lv_at hl 0 rfl) ?_
    refine kget_0_5 hx hb hts inK hown hC hP (hts _ wK_f28) dK_pushFrame_54 ?_
    refine kget_6_0 hx hb hts inQ hown hC hP (hts _ wK_f82) dK_pushFrame_57 ?_
    refine lv_iload_n hx hb dK_pushFrame_60 rfl (lv_at hl 1 rfl) ?_
    refine kald_8 hx hb hC hP (vin_c (by decide)) dK_pushFrame_61 ?_
    refine kcallv (rest := []) ⟨hx, hb, hml, hown, hts⟩ hC hP hB hS (c_k_push l D q cA tN σ (σ 8 (ix 4))) (cwV 1 hts gK_138 rfl rfl rfl hdK_push ⟨Nat.le_of_ble_eq_true rfl, Nat.le_of_ble_eq_true rfl⟩) (krv_0 hC hP) rfl hl.1 rfl (Nat.le_of_ble_eq_true rfl) dK_pushFrame_62 (fun σ15 H locs e15 hP hB hS => ?_)
    have hE := hE.trans (bd_e e15)
    refine lv_iinc (k := 1) (v := 5) (lv' := [(1, .int 5), (0, .ref (q 0))]) hx hb dK_pushFrame_65 hl rfl (by decide) (by decide) rfl (fun ls hl => ?_)
    refine lv_goto (tgt := 46) hx hb dK_pushFrame_68 rfl ?_
    have hl := lv_sub hl [1, 0] rfl
    exact b46_5 _ _ _ _ hE hl hP hB hS
  have b46_3 : ∀ (H : Heap) (locs : List Loc) (ls : Array Slot) (σ : St), k_pushFrame σ0 = k_pushFrame_46_3 σ → lv_has ls 2 [(0, .ref (q 0)), (1, .int 3)] → va_P D vwCl (wsK q cA σ) H → KB σ → va_S (KA q) s.heap H locs → W p l e (headSpec wsK_pushFrame { frames := 2, cells := 0, slots := 0, locals := 45 }).room s m ([.ref (q 0)] : List Value).toArray below meth c H locs 0 0 (MQ below (va_Qv (fun u => u = k_pushFrame σ0) (KPost D q cA) (KA q)) ([.ref (q 0)] : List Value).toArray s 0 0 (KA q)) (F0 m 46 ls []) := by
    intro H locs ls σ hE hl hP hB hS
    refine lv_iload_n hx hb dK_pushFrame_46 rfl (lv_at hl 1 rfl) ?_
    refine lv_bipush (v := 6) hx hb dK_pushFrame_47 (by decide) ?_
    refine lv_icmp_ge (tgt := 71) hx hb dK_pushFrame_49 rfl (fun h12 => absurd h12 (by decide)) (fun _ => ?_)
    refine lv_aload_n hx hb dK_pushFrame_52 rfl (lv_at hl 0 rfl) ?_
    refine lv_aload_n hx hb dK_pushFrame_53 rfl (lv_at hl 0 rfl) ?_
    refine kget_0_5 hx hb hts inK hown hC hP (hts _ wK_f28) dK_pushFrame_54 ?_
    refine kget_6_0 hx hb hts inQ hown hC hP (hts _ wK_f82) dK_pushFrame_57 ?_
    refine lv_iload_n hx hb dK_pushFrame_60 rfl (lv_at hl 1 rfl) ?_
    refine kald_8 hx hb hC hP (vin_c (by decide)) dK_pushFrame_61 ?_
    refine kcallv (rest := []) ⟨hx, hb, hml, hown, hts⟩ hC hP hB hS (c_k_push l D q cA tN σ (σ 8 (ix 3))) (cwV 1 hts gK_138 rfl rfl rfl hdK_push ⟨Nat.le_of_ble_eq_true rfl, Nat.le_of_ble_eq_true rfl⟩) (krv_0 hC hP) rfl hl.1 rfl (Nat.le_of_ble_eq_true rfl) dK_pushFrame_62 (fun σ13 H locs e13 hP hB hS => ?_)
    have hE := hE.trans (bd_e e13)
    refine lv_iinc (k := 1) (v := 4) (lv' := [(1, .int 4), (0, .ref (q 0))]) hx hb dK_pushFrame_65 hl rfl (by decide) (by decide) rfl (fun ls hl => ?_)
    refine lv_goto (tgt := 46) hx hb dK_pushFrame_68 rfl ?_
    have hl := lv_sub hl [1, 0] rfl
    exact b46_4 _ _ _ _ hE hl hP hB hS
  have b46_2 : ∀ (H : Heap) (locs : List Loc) (ls : Array Slot) (σ : St), k_pushFrame σ0 = k_pushFrame_46_2 σ → lv_has ls 2 [(0, .ref (q 0)), (1, .int 2)] → va_P D vwCl (wsK q cA σ) H → KB σ → va_S (KA q) s.heap H locs → W p l e (headSpec wsK_pushFrame { frames := 2, cells := 0, slots := 0, locals := 45 }).room s m ([.ref (q 0)] : List Value).toArray below meth c H locs 0 0 (MQ below (va_Qv (fun u => u = k_pushFrame σ0) (KPost D q cA) (KA q)) ([.ref (q 0)] : List Value).toArray s 0 0 (KA q)) (F0 m 46 ls []) := by
    intro H locs ls σ hE hl hP hB hS
    refine lv_iload_n hx hb dK_pushFrame_46 rfl (lv_at hl 1 rfl) ?_
    refine lv_bipush (v := 6) hx hb dK_pushFrame_47 (by decide) ?_
    refine lv_icmp_ge (tgt := 71) hx hb dK_pushFrame_49 rfl (fun h10 => absurd h10 (by decide)) (fun _ => ?_)
    refine lv_aload_n hx hb dK_pushFrame_52 rfl (lv_at hl 0 rfl) ?_
    refine lv_aload_n hx hb dK_pushFrame_53 rfl (lv_at hl 0 rfl) ?_
    refine kget_0_5 hx hb hts inK hown hC hP (hts _ wK_f28) dK_pushFrame_54 ?_
    refine kget_6_0 hx hb hts inQ hown hC hP (hts _ wK_f82) dK_pushFrame_57 ?_
    refine lv_iload_n hx hb dK_pushFrame_60 rfl (lv_at hl 1 rfl) ?_
    refine kald_8 hx hb hC hP (vin_c (by decide)) dK_pushFrame_61 ?_
    refine kcallv (rest := []) ⟨hx, hb, hml, hown, hts⟩ hC hP hB hS (c_k_push l D q cA tN σ (σ 8 (ix 2))) (cwV 1 hts gK_138 rfl rfl rfl hdK_push ⟨Nat.le_of_ble_eq_true rfl, Nat.le_of_ble_eq_true rfl⟩) (krv_0 hC hP) rfl hl.1 rfl (Nat.le_of_ble_eq_true rfl) dK_pushFrame_62 (fun σ11 H locs e11 hP hB hS => ?_)
    have hE := hE.trans (bd_e e11)
    refine lv_iinc (k := 1) (v := 3) (lv' := [(1, .int 3), (0, .ref (q 0))]) hx hb dK_pushFrame_65 hl rfl (by decide) (by decide) rfl (fun ls hl => ?_)
    refine lv_goto (tgt := 46) hx hb dK_pushFrame_68 rfl ?_
    have hl := lv_sub hl [1, 0] rfl
    exact b46_3 _ _ _ _ hE hl hP hB hS
  have b46_1 : ∀ (H : Heap) (locs : List Loc) (ls : Array Slot) (σ : St), k_pushFrame σ0 = k_pushFrame_46_1 σ → lv_has ls 2 [(0, .ref (q 0)), (1, .int 1)] → va_P D vwCl (wsK q cA σ) H → KB σ → va_S (KA q) s.heap H locs → W p l e (headSpec wsK_pushFrame { frames := 2, cells := 0, slots := 0, locals := 45 }).room s m ([.ref (q 0)] : List Value).toArray below meth c H locs 0 0 (MQ below (va_Qv (fun u => u = k_pushFrame σ0) (KPost D q cA) (KA q)) ([.ref (q 0)] : List Value).toArray s 0 0 (KA q)) (F0 m 46 ls []) := by
    intro H locs ls σ hE hl hP hB hS
    refine lv_iload_n hx hb dK_pushFrame_46 rfl (lv_at hl 1 rfl) ?_
    refine lv_bipush (v := 6) hx hb dK_pushFrame_47 (by decide) ?_
    refine lv_icmp_ge (tgt := 71) hx hb dK_pushFrame_49 rfl (fun h8 => absurd h8 (by decide)) (fun _ => ?_)
    refine lv_aload_n hx hb dK_pushFrame_52 rfl (lv_at hl 0 rfl) ?_
    refine lv_aload_n hx hb dK_pushFrame_53 rfl (lv_at hl 0 rfl) ?_
    refine kget_0_5 hx hb hts inK hown hC hP (hts _ wK_f28) dK_pushFrame_54 ?_
    refine kget_6_0 hx hb hts inQ hown hC hP (hts _ wK_f82) dK_pushFrame_57 ?_
    refine lv_iload_n hx hb dK_pushFrame_60 rfl (lv_at hl 1 rfl) ?_
    refine kald_8 hx hb hC hP (vin_c (by decide)) dK_pushFrame_61 ?_
    refine kcallv (rest := []) ⟨hx, hb, hml, hown, hts⟩ hC hP hB hS (c_k_push l D q cA tN σ (σ 8 (ix 1))) (cwV 1 hts gK_138 rfl rfl rfl hdK_push ⟨Nat.le_of_ble_eq_true rfl, Nat.le_of_ble_eq_true rfl⟩) (krv_0 hC hP) rfl hl.1 rfl (Nat.le_of_ble_eq_true rfl) dK_pushFrame_62 (fun σ9 H locs e9 hP hB hS => ?_)
    have hE := hE.trans (bd_e e9)
    refine lv_iinc (k := 1) (v := 2) (lv' := [(1, .int 2), (0, .ref (q 0))]) hx hb dK_pushFrame_65 hl rfl (by decide) (by decide) rfl (fun ls hl => ?_)
    refine lv_goto (tgt := 46) hx hb dK_pushFrame_68 rfl ?_
    have hl := lv_sub hl [1, 0] rfl
    exact b46_2 _ _ _ _ hE hl hP hB hS
  have b46_0 : ∀ (H : Heap) (locs : List Loc) (ls : Array Slot) (σ : St), k_pushFrame σ0 = k_pushFrame_46_0 σ → lv_has ls 2 [(0, .ref (q 0)), (1, .int 0)] → va_P D vwCl (wsK q cA σ) H → KB σ → va_S (KA q) s.heap H locs → W p l e (headSpec wsK_pushFrame { frames := 2, cells := 0, slots := 0, locals := 45 }).room s m ([.ref (q 0)] : List Value).toArray below meth c H locs 0 0 (MQ below (va_Qv (fun u => u = k_pushFrame σ0) (KPost D q cA) (KA q)) ([.ref (q 0)] : List Value).toArray s 0 0 (KA q)) (F0 m 46 ls []) := by
    intro H locs ls σ hE hl hP hB hS
    refine lv_iload_n hx hb dK_pushFrame_46 rfl (lv_at hl 1 rfl) ?_
    refine lv_bipush (v := 6) hx hb dK_pushFrame_47 (by decide) ?_
    refine lv_icmp_ge (tgt := 71) hx hb dK_pushFrame_49 rfl (fun h6 => absurd h6 (by decide)) (fun _ => ?_)
    refine lv_aload_n hx hb dK_pushFrame_52 rfl (lv_at hl 0 rfl) ?_
    refine lv_aload_n hx hb dK_pushFrame_53 rfl (lv_at hl 0 rfl) ?_
    refine kget_0_5 hx hb hts inK hown hC hP (hts _ wK_f28) dK_pushFrame_54 ?_
    refine kget_6_0 hx hb hts inQ hown hC hP (hts _ wK_f82) dK_pushFrame_57 ?_
    refine lv_iload_n hx hb dK_pushFrame_60 rfl (lv_at hl 1 rfl) ?_
    refine kald_8 hx hb hC hP (vin_c (by decide)) dK_pushFrame_61 ?_
    refine kcallv (rest := []) ⟨hx, hb, hml, hown, hts⟩ hC hP hB hS (c_k_push l D q cA tN σ (σ 8 (ix 0))) (cwV 1 hts gK_138 rfl rfl rfl hdK_push ⟨Nat.le_of_ble_eq_true rfl, Nat.le_of_ble_eq_true rfl⟩) (krv_0 hC hP) rfl hl.1 rfl (Nat.le_of_ble_eq_true rfl) dK_pushFrame_62 (fun σ7 H locs e7 hP hB hS => ?_)
    have hE := hE.trans (bd_e e7)
    refine lv_iinc (k := 1) (v := 1) (lv' := [(1, .int 1), (0, .ref (q 0))]) hx hb dK_pushFrame_65 hl rfl (by decide) (by decide) rfl (fun ls hl => ?_)
    refine lv_goto (tgt := 46) hx hb dK_pushFrame_68 rfl ?_
    have hl := lv_sub hl [1, 0] rfl
    exact b46_1 _ _ _ _ hE hl hP hB hS
  have b27 : ∀ (H : Heap) (locs : List Loc) (ls : Array Slot) (σ : St) (y0 : Int32), k_pushFrame σ0 = k_pushFrame_27 σ y0 → lv_has ls 2 [(0, .ref (q 0))] → va_P D vwCl (wsK q cA σ) H → KB σ → va_S (KA q) s.heap H locs → W p l e (headSpec wsK_pushFrame { frames := 2, cells := 0, slots := 0, locals := 45 }).room s m ([.ref (q 0)] : List Value).toArray below meth c H locs 0 0 (MQ below (va_Qv (fun u => u = k_pushFrame σ0) (KPost D q cA) (KA q)) ([.ref (q 0)] : List Value).toArray s 0 0 (KA q)) (F0 m 27 ls [.int y0, .ref (q 0)]) := by
    intro H locs ls σ y0 hE hl hP hB hS
    refine kcallv (rest := []) ⟨hx, hb, hml, hown, hts⟩ hC hP hB hS (c_k_push l D q cA tN σ y0) (cwV 1 hts gK_138 rfl rfl rfl hdK_push ⟨Nat.le_of_ble_eq_true rfl, Nat.le_of_ble_eq_true rfl⟩) (krv_0 hC hP) rfl hl.1 rfl (Nat.le_of_ble_eq_true rfl) dK_pushFrame_27 (fun σ4 H locs e4 hP hB hS => ?_)
    have hE := hE.trans (bd_e e4)
    refine lv_aload_n hx hb dK_pushFrame_30 rfl (lv_at hl 0 rfl) ?_
    refine lv_aload_n hx hb dK_pushFrame_31 rfl (lv_at hl 0 rfl) ?_
    refine kget_0_5 hx hb hts inK hown hC hP (hts _ wK_f28) dK_pushFrame_32 ?_
    refine kget_6_0 hx hb hts inQ hown hC hP (hts _ wK_f82) dK_pushFrame_35 ?_
    refine lv_bipush (v := 6) hx hb dK_pushFrame_38 (by decide) ?_
    refine kald_8 hx hb hC hP (vin_c (by decide)) dK_pushFrame_40 ?_
    refine kcallv (rest := []) ⟨hx, hb, hml, hown, hts⟩ hC hP hB hS (c_k_push l D q cA tN σ4 (σ4 8 (ix 6))) (cwV 1 hts gK_138 rfl rfl rfl hdK_push ⟨Nat.le_of_ble_eq_true rfl, Nat.le_of_ble_eq_true rfl⟩) (krv_0 hC hP) rfl hl.1 rfl (Nat.le_of_ble_eq_true rfl) dK_pushFrame_41 (fun σ5 H locs e5 hP hB hS => ?_)
    have hE := hE.trans (bd_e e5)
    refine lv_iconst (v := 0) hx hb dK_pushFrame_44 (by decide) ?_
    refine lv_istore_n (lv' := [(1, .int 0), (0, .ref (q 0))]) hx hb dK_pushFrame_45 rfl hl (by decide) rfl (fun ls hl => ?_)
    have hl := lv_sub hl [1, 0] rfl
    exact b46_0 _ _ _ _ hE hl hP hB hS
  refine lv_aload_n hx hb dK_pushFrame_0 rfl (lv_at hl 0 rfl) ?_
  refine lv_aload_n hx hb dK_pushFrame_1 rfl (lv_at hl 0 rfl) ?_
  refine kget_0_5 hx hb hts inK hown hC hP (hts _ wK_f28) dK_pushFrame_2 ?_
  refine kget_6_3 hx hb hts inQ hown hC hP (hts _ wK_f61) dK_pushFrame_5 ?_
  refine kcallv (rest := []) ⟨hx, hb, hml, hown, hts⟩ hC hP hB hS (c_k_push l D q cA tN σ0 (σ0 6 3)) (cwV 1 hts gK_138 rfl rfl rfl hdK_push ⟨Nat.le_of_ble_eq_true rfl, Nat.le_of_ble_eq_true rfl⟩) (krv_0 hC hP) rfl hl.1 rfl (Nat.le_of_ble_eq_true rfl) dK_pushFrame_8 (fun σ1 H locs e1 hP hB hS => ?_)
  have hE := hE.trans (bd_e e1)
  refine lv_aload_n hx hb dK_pushFrame_11 rfl (lv_at hl 0 rfl) ?_
  refine lv_aload_n hx hb dK_pushFrame_12 rfl (lv_at hl 0 rfl) ?_
  refine kget_0_5 hx hb hts inK hown hC hP (hts _ wK_f28) dK_pushFrame_13 ?_
  refine kget_6_4 hx hb hts inQ hown hC hP (hts _ wK_f88) dK_pushFrame_16 ?_
  have z2 : zb (σ1 6 4) := KB_6_4 hB
  refine lv_if_eq (tgt := 26) hx hb dK_pushFrame_19 rfl (fun h3 => ?_) (fun h3 => ?_)
  · have hE := hE.trans (if_pos h3)
    refine lv_iconst (v := 0) hx hb dK_pushFrame_26 (by decide) ?_
    exact b27 _ _ _ _ 0 hE hl hP hB hS
  · have hE := hE.trans (if_neg h3)
    refine lv_iconst (v := 1) hx hb dK_pushFrame_22 (by decide) ?_
    refine lv_goto (tgt := 27) hx hb dK_pushFrame_23 rfl ?_
    exact b27 _ _ _ _ 1 hE hl hP hB hS
set_option maxRecDepth 100000 in
set_option maxHeartbeats 4000000 in
theorem c_k_isHandledOpen (l : Launch) (D : va_G) (q : Nat → Nat) (cA : ClassId) (tN : Nat) (σ0 : St) (a1 : Int32) : Met l yK_isHandledOpen wsK_isHandledOpen { frames := 0, cells := 0, slots := 0, locals := 0 } (va_Pc [.ref (q 0), .int a1] (KPre D q cA tN σ0)) (va_Qi (fun r u => (u, r) = k_isHandledOpen σ0 a1 ∧ zb r) (KPost D q cA) (KA q)) 0 0 (KA q) := by
  refine Met.ofW (cc := cK_isHandledOpen) (maxL := 2) (ret := (some .boolean)) (by decide) rfl ?_
  intro p e s m args below meth c s₁ B hml hv
  obtain ⟨rfl, hP, hB, hC⟩ := hv
  have hx := B.exec
  have hb := B.bytes
  have hr := B.returns
  have hts : ∀ w ∈ gw, w.before ([.ref (q 0), .int a1] : List Value).toArray s = true := fun w h => atoms_spec (ws := wsK_isHandledOpen) B.pre w (List.mem_cons_of_mem _ h)
  have hown : s.vm.findClass RK = some m.cls := findClass_of_methodNamed B.named
  have hlocks := B.notSynchronized
  have hS : va_S (KA q) s.heap s.heap [] := va_S.rf
  have hl := lv_entry ([.ref (q 0), .int a1]) (n := 2) (Nat.le_of_ble_eq_true rfl)
  rw [lg_entry_eq]
  generalize (lg_sl ([.ref (q 0), .int a1]) ++ List.replicate (2 - (lg_sl ([.ref (q 0), .int a1])).length) Slot.unset).toArray = ls at hl ⊢
  have hl : lv_has ls 2 [(0, .ref (q 0)), (1, .int a1)] := hl
  have hE : k_isHandledOpen σ0 a1 = k_isHandledOpen σ0 a1 := rfl
  have b23 : ∀ (H : Heap) (locs : List Loc) (ls : Array Slot) (σ : St) (y0 : Int32), zb y0 → k_isHandledOpen σ0 a1 = k_isHandledOpen_23 σ y0 → lv_has ls 2 [] → va_P D vwCl (wsK q cA σ) H → KB σ → va_S (KA q) s.heap H locs → W p l e (headSpec wsK_isHandledOpen { frames := 0, cells := 0, slots := 0, locals := 0 }).room s m ([.ref (q 0), .int a1] : List Value).toArray below meth c H locs 0 0 (MQ below (va_Qi (fun r u => (u, r) = k_isHandledOpen σ0 a1 ∧ zb r) (KPost D q cA) (KA q)) ([.ref (q 0), .int a1] : List Value).toArray s 0 0 (KA q)) (F0 m 23 ls [.int y0]) := by
    intro H locs ls σ y0 hz_y0 hE hl hP hB hS
    exact W.zret (v := y0) hx hb hr (zb_n hz_y0).1 (fun t ht hW => ⟨⟨y0, σ, rfl, ⟨hE.symm, hz_y0⟩, ⟨by rw [ht]; exact hP, hB⟩⟩, hS.F ht⟩) hS.2.2 dK_isHandledOpen_23
  have b22 : ∀ (H : Heap) (locs : List Loc) (ls : Array Slot) (σ : St), k_isHandledOpen σ0 a1 = k_isHandledOpen_22 σ → lv_has ls 2 [] → va_P D vwCl (wsK q cA σ) H → KB σ → va_S (KA q) s.heap H locs → W p l e (headSpec wsK_isHandledOpen { frames := 0, cells := 0, slots := 0, locals := 0 }).room s m ([.ref (q 0), .int a1] : List Value).toArray below meth c H locs 0 0 (MQ below (va_Qi (fun r u => (u, r) = k_isHandledOpen σ0 a1 ∧ zb r) (KPost D q cA) (KA q)) ([.ref (q 0), .int a1] : List Value).toArray s 0 0 (KA q)) (F0 m 22 ls []) := by
    intro H locs ls σ hE hl hP hB hS
    refine lv_iconst (v := 0) hx hb dK_isHandledOpen_22 (by decide) ?_
    exact b23 _ _ _ _ 0 (by decide) hE hl hP hB hS
  refine lv_iload_n hx hb dK_isHandledOpen_0 rfl (lv_at hl 1 rfl) ?_
  refine lv_iconst (v := 3) hx hb dK_isHandledOpen_1 (by decide) ?_
  refine lv_icmp_lt (tgt := 22) hx hb dK_isHandledOpen_2 rfl (fun h1 => ?_) (fun h1 => ?_)
  · have hE := hE.trans (if_pos h1)
    have hl := lv_sub hl [] rfl
    exact b22 _ _ _ _ hE hl hP hB hS
  · have hE := hE.trans (if_neg h1)
    refine lv_aload_n hx hb dK_isHandledOpen_5 rfl (lv_at hl 0 rfl) ?_
    refine kget_0_8 hx hb hts inK hown hC hP (hts _ wK_f51) dK_isHandledOpen_6 ?_
    refine lv_iload_n hx hb dK_isHandledOpen_9 rfl (lv_at hl 1 rfl) ?_
    refine lv_iconst (v := 3) hx hb dK_isHandledOpen_10 (by decide) ?_
    refine lv_isub hx hb dK_isHandledOpen_11 ?_
    refine lv_ishr hx hb dK_isHandledOpen_12 ?_
    refine lv_iconst (v := 1) hx hb dK_isHandledOpen_13 (by decide) ?_
    refine lv_iand hx hb dK_isHandledOpen_14 ?_
    refine lv_if_ne (tgt := 22) hx hb dK_isHandledOpen_15 rfl (fun h2 => ?_) (fun h2 => ?_)
    · have hE := hE.trans (if_neg h2)
      have hl := lv_sub hl [] rfl
      exact b22 _ _ _ _ hE hl hP hB hS
    · have hE := hE.trans (if_pos h2)
      refine lv_iconst (v := 1) hx hb dK_isHandledOpen_18 (by decide) ?_
      refine lv_goto (tgt := 23) hx hb dK_isHandledOpen_19 rfl ?_
      have hl := lv_sub hl [] rfl
      exact b23 _ _ _ _ 1 (by decide) hE hl hP hB hS
set_option maxRecDepth 100000 in
set_option maxHeartbeats 4000000 in
theorem c_k_goTo (l : Launch) (D : va_G) (q : Nat → Nat) (cA : ClassId) (tN : Nat) (σ0 : St) (a1 : Int32) : Met l yK_goTo wsK_goTo { frames := 0, cells := 0, slots := 0, locals := 0 } (va_Pc [.ref (q 0), .int a1] (KPre D q cA tN σ0)) (va_Qv (fun u => u = k_goTo σ0 a1) (KPost D q cA) (KA q)) 0 0 (KA q) := by
  refine Met.ofW (cc := cK_goTo) (maxL := 2) (ret := none) (by decide) rfl ?_
  intro p e s m args below meth c s₁ B hml hv
  obtain ⟨rfl, hP, hB, hC⟩ := hv
  have hx := B.exec
  have hb := B.bytes
  have hr := B.returns
  have hts : ∀ w ∈ gw, w.before ([.ref (q 0), .int a1] : List Value).toArray s = true := fun w h => atoms_spec (ws := wsK_goTo) B.pre w (List.mem_cons_of_mem _ h)
  have hown : s.vm.findClass RK = some m.cls := findClass_of_methodNamed B.named
  have hlocks := B.notSynchronized
  have hS : va_S (KA q) s.heap s.heap [] := va_S.rf
  have hl := lv_entry ([.ref (q 0), .int a1]) (n := 2) (Nat.le_of_ble_eq_true rfl)
  rw [lg_entry_eq]
  generalize (lg_sl ([.ref (q 0), .int a1]) ++ List.replicate (2 - (lg_sl ([.ref (q 0), .int a1])).length) Slot.unset).toArray = ls at hl ⊢
  have hl : lv_has ls 2 [(0, .ref (q 0)), (1, .int a1)] := hl
  have hE : k_goTo σ0 a1 = k_goTo σ0 a1 := rfl
  refine lv_aload_n hx hb dK_goTo_0 rfl (lv_at hl 0 rfl) ?_
  refine kget_0_5 hx hb hts inK hown hC hP (hts _ wK_f28) dK_goTo_1 ?_
  refine lv_iload_n hx hb dK_goTo_4 rfl (lv_at hl 1 rfl) ?_
  refine lv_sipush (v := 255) hx hb dK_goTo_5 (by decide) ?_
  refine lv_iand hx hb dK_goTo_8 ?_
  refine kput_6_3 hx hb hts inQ hown hC hP (hts _ wK_f61) hS dK_goTo_9 (fun σ1 H locs e1 hP hS => ?_)
  have hE := hE.trans (bd_e e1)
  have hB : KB σ1 := by rw [e1]; exact hB
  exact W.vret hx hb hr (fun t ht hW => ⟨⟨σ1, rfl, hE.symm, ⟨by rw [ht]; exact hP, hB⟩⟩, hS.F ht⟩) hS.2.2 dK_goTo_12
set_option maxRecDepth 100000 in
set_option maxHeartbeats 4000000 in
theorem c_k_clearForOpen (l : Launch) (D : va_G) (q : Nat → Nat) (cA : ClassId) (tN : Nat) (σ0 : St) : Met l yQ_clearForOpen wsQ_clearForOpen { frames := 0, cells := 0, slots := 0, locals := 0 } (va_Pc [.ref (q 6)] (KPre D q cA tN σ0)) (va_Qv (fun u => u = k_clearForOpen σ0) (KPost D q cA) (KA q)) 0 0 (KA q) := by
  refine Met.ofW (cc := cQ_clearForOpen) (maxL := 2) (ret := none) (by decide) rfl ?_
  intro p e s m args below meth c s₁ B hml hv
  obtain ⟨rfl, hP, hB, hC⟩ := hv
  have hx := B.exec
  have hb := B.bytes
  have hr := B.returns
  have hts : ∀ w ∈ gw, w.before ([.ref (q 6)] : List Value).toArray s = true := fun w h => atoms_spec (ws := wsQ_clearForOpen) B.pre w (List.mem_cons_of_mem _ h)
  have hown : s.vm.findClass RQ = some m.cls := findClass_of_methodNamed B.named
  have hlocks := B.notSynchronized
  have hS : va_S (KA q) s.heap s.heap [] := va_S.rf
  have hl := lv_entry ([.ref (q 6)]) (n := 2) (Nat.le_of_ble_eq_true rfl)
  rw [lg_entry_eq]
  generalize (lg_sl ([.ref (q 6)]) ++ List.replicate (2 - (lg_sl ([.ref (q 6)])).length) Slot.unset).toArray = ls at hl ⊢
  have hl : lv_has ls 2 [(0, .ref (q 6))] := hl
  have hE : k_clearForOpen σ0 = k_clearForOpen σ0 := rfl
  have b2_6 : ∀ (H : Heap) (locs : List Loc) (ls : Array Slot) (σ : St), k_clearForOpen σ0 = k_clearForOpen_2_6 σ → lv_has ls 2 [(0, .ref (q 6)), (1, .int 6)] → va_P D vwCl (wsK q cA σ) H → KB σ → va_S (KA q) s.heap H locs → W p l e (headSpec wsQ_clearForOpen { frames := 0, cells := 0, slots := 0, locals := 0 }).room s m ([.ref (q 6)] : List Value).toArray below meth c H locs 0 0 (MQ below (va_Qv (fun u => u = k_clearForOpen σ0) (KPost D q cA) (KA q)) ([.ref (q 6)] : List Value).toArray s 0 0 (KA q)) (F0 m 2 ls []) := by
    intro H locs ls σ hE hl hP hB hS
    refine lv_iload_n hx hb dQ_clearForOpen_2 rfl (lv_at hl 1 rfl) ?_
    refine lv_bipush (v := 6) hx hb dQ_clearForOpen_3 (by decide) ?_
    refine lv_icmp_ge (tgt := 21) hx hb dQ_clearForOpen_5 rfl (fun _ => ?_) (fun h13 => absurd (by decide) h13)
    refine lv_aload_n hx hb dQ_clearForOpen_21 rfl (lv_at hl 0 rfl) ?_
    refine lv_iconst (v := 0) hx hb dQ_clearForOpen_22 (by decide) ?_
    refine kput_6_4 hx hb hts inQ hown hC hP (hts _ wQ_f31) hS (by decide) dQ_clearForOpen_23 (fun σ14 H locs e14 hP hS => ?_)
    have hE := hE.trans (bd_e e14)
    have hB : KB σ14 := by rw [e14]; exact KB_6_4s hB (by decide)
    exact W.vret hx hb hr (fun t ht hW => ⟨⟨σ14, rfl, hE.symm, ⟨by rw [ht]; exact hP, hB⟩⟩, hS.F ht⟩) hS.2.2 dQ_clearForOpen_26
  have b2_5 : ∀ (H : Heap) (locs : List Loc) (ls : Array Slot) (σ : St), k_clearForOpen σ0 = k_clearForOpen_2_5 σ → lv_has ls 2 [(0, .ref (q 6)), (1, .int 5)] → va_P D vwCl (wsK q cA σ) H → KB σ → va_S (KA q) s.heap H locs → W p l e (headSpec wsQ_clearForOpen { frames := 0, cells := 0, slots := 0, locals := 0 }).room s m ([.ref (q 6)] : List Value).toArray below meth c H locs 0 0 (MQ below (va_Qv (fun u => u = k_clearForOpen σ0) (KPost D q cA) (KA q)) ([.ref (q 6)] : List Value).toArray s 0 0 (KA q)) (F0 m 2 ls []) := by
    intro H locs ls σ hE hl hP hB hS
    refine lv_iload_n hx hb dQ_clearForOpen_2 rfl (lv_at hl 1 rfl) ?_
    refine lv_bipush (v := 6) hx hb dQ_clearForOpen_3 (by decide) ?_
    refine lv_icmp_ge (tgt := 21) hx hb dQ_clearForOpen_5 rfl (fun h11 => absurd h11 (by decide)) (fun _ => ?_)
    refine lv_aload_n hx hb dQ_clearForOpen_8 rfl (lv_at hl 0 rfl) ?_
    refine kget_6_0 hx hb hts inQ hown hC hP (hts _ wQ_f9) dQ_clearForOpen_9 ?_
    refine lv_iload_n hx hb dQ_clearForOpen_12 rfl (lv_at hl 1 rfl) ?_
    refine lv_iconst (v := 0) hx hb dQ_clearForOpen_13 (by decide) ?_
    refine kast_8 hx hb hC hP hS (vin_c (by decide)) dQ_clearForOpen_14 (fun σ12 H locs e12 hP hS => ?_)
    have hE := hE.trans (bd_e e12)
    have hB : KB σ12 := by rw [e12]; exact hB
    refine lv_iinc (k := 1) (v := 6) (lv' := [(1, .int 6), (0, .ref (q 6))]) hx hb dQ_clearForOpen_15 hl rfl (by decide) (by decide) rfl (fun ls hl => ?_)
    refine lv_goto (tgt := 2) hx hb dQ_clearForOpen_18 rfl ?_
    have hl := lv_sub hl [1, 0] rfl
    exact b2_6 _ _ _ _ hE hl hP hB hS
  have b2_4 : ∀ (H : Heap) (locs : List Loc) (ls : Array Slot) (σ : St), k_clearForOpen σ0 = k_clearForOpen_2_4 σ → lv_has ls 2 [(0, .ref (q 6)), (1, .int 4)] → va_P D vwCl (wsK q cA σ) H → KB σ → va_S (KA q) s.heap H locs → W p l e (headSpec wsQ_clearForOpen { frames := 0, cells := 0, slots := 0, locals := 0 }).room s m ([.ref (q 6)] : List Value).toArray below meth c H locs 0 0 (MQ below (va_Qv (fun u => u = k_clearForOpen σ0) (KPost D q cA) (KA q)) ([.ref (q 6)] : List Value).toArray s 0 0 (KA q)) (F0 m 2 ls []) := by
    intro H locs ls σ hE hl hP hB hS
    refine lv_iload_n hx hb dQ_clearForOpen_2 rfl (lv_at hl 1 rfl) ?_
    refine lv_bipush (v := 6) hx hb dQ_clearForOpen_3 (by decide) ?_
    refine lv_icmp_ge (tgt := 21) hx hb dQ_clearForOpen_5 rfl (fun h9 => absurd h9 (by decide)) (fun _ => ?_)
    refine lv_aload_n hx hb dQ_clearForOpen_8 rfl (lv_at hl 0 rfl) ?_
    refine kget_6_0 hx hb hts inQ hown hC hP (hts _ wQ_f9) dQ_clearForOpen_9 ?_
    refine lv_iload_n hx hb dQ_clearForOpen_12 rfl (lv_at hl 1 rfl) ?_
    refine lv_iconst (v := 0) hx hb dQ_clearForOpen_13 (by decide) ?_
    refine kast_8 hx hb hC hP hS (vin_c (by decide)) dQ_clearForOpen_14 (fun σ10 H locs e10 hP hS => ?_)
    have hE := hE.trans (bd_e e10)
    have hB : KB σ10 := by rw [e10]; exact hB
    refine lv_iinc (k := 1) (v := 5) (lv' := [(1, .int 5), (0, .ref (q 6))]) hx hb dQ_clearForOpen_15 hl rfl (by decide) (by decide) rfl (fun ls hl => ?_)
    refine lv_goto (tgt := 2) hx hb dQ_clearForOpen_18 rfl ?_
    have hl := lv_sub hl [1, 0] rfl
    exact b2_5 _ _ _ _ hE hl hP hB hS
  have b2_3 : ∀ (H : Heap) (locs : List Loc) (ls : Array Slot) (σ : St), k_clearForOpen σ0 = k_clearForOpen_2_3 σ → lv_has ls 2 [(0, .ref (q 6)), (1, .int 3)] → va_P D vwCl (wsK q cA σ) H → KB σ → va_S (KA q) s.heap H locs → W p l e (headSpec wsQ_clearForOpen { frames := 0, cells := 0, slots := 0, locals := 0 }).room s m ([.ref (q 6)] : List Value).toArray below meth c H locs 0 0 (MQ below (va_Qv (fun u => u = k_clearForOpen σ0) (KPost D q cA) (KA q)) ([.ref (q 6)] : List Value).toArray s 0 0 (KA q)) (F0 m 2 ls []) := by
    intro H locs ls σ hE hl hP hB hS
    refine lv_iload_n hx hb dQ_clearForOpen_2 rfl (lv_at hl 1 rfl) ?_
    refine lv_bipush (v := 6) hx hb dQ_clearForOpen_3 (by decide) ?_
    refine lv_icmp_ge (tgt := 21) hx hb dQ_clearForOpen_5 rfl (fun h7 => absurd h7 (by decide)) (fun _ => ?_)
    refine lv_aload_n hx hb dQ_clearForOpen_8 rfl (lv_at hl 0 rfl) ?_
    refine kget_6_0 hx hb hts inQ hown hC hP (hts _ wQ_f9) dQ_clearForOpen_9 ?_
    refine lv_iload_n hx hb dQ_clearForOpen_12 rfl (lv_at hl 1 rfl) ?_
    refine lv_iconst (v := 0) hx hb dQ_clearForOpen_13 (by decide) ?_
    refine kast_8 hx hb hC hP hS (vin_c (by decide)) dQ_clearForOpen_14 (fun σ8 H locs e8 hP hS => ?_)
    have hE := hE.trans (bd_e e8)
    have hB : KB σ8 := by rw [e8]; exact hB
    refine lv_iinc (k := 1) (v := 4) (lv' := [(1, .int 4), (0, .ref (q 6))]) hx hb dQ_clearForOpen_15 hl rfl (by decide) (by decide) rfl (fun ls hl => ?_)
    refine lv_goto (tgt := 2) hx hb dQ_clearForOpen_18 rfl ?_
    have hl := lv_sub hl [1, 0] rfl
    exact b2_4 _ _ _ _ hE hl hP hB hS
  have b2_2 : ∀ (H : Heap) (locs : List Loc) (ls : Array Slot) (σ : St), k_clearForOpen σ0 = k_clearForOpen_2_2 σ → lv_has ls 2 [(0, .ref (q 6)), (1, .int 2)] → va_P D vwCl (wsK q cA σ) H → KB σ → va_S (KA q) s.heap H locs → W p l e (headSpec wsQ_clearForOpen { frames := 0, cells := 0, slots := 0, locals := 0 }).room s m ([.ref (q 6)] : List Value).toArray below meth c H locs 0 0 (MQ below (va_Qv (fun u => u = k_clearForOpen σ0) (KPost D q cA) (KA q)) ([.ref (q 6)] : List Value).toArray s 0 0 (KA q)) (F0 m 2 ls []) := by
    intro H locs ls σ hE hl hP hB hS
    refine lv_iload_n hx hb dQ_clearForOpen_2 rfl (lv_at hl 1 rfl) ?_
    refine lv_bipush (v := 6) hx hb dQ_clearForOpen_3 (by decide) ?_
    refine lv_icmp_ge (tgt := 21) hx hb dQ_clearForOpen_5 rfl (fun h5 => absurd h5 (by decide)) (fun _ => ?_)
    refine lv_aload_n hx hb dQ_clearForOpen_8 rfl (lv_at hl 0 rfl) ?_
    refine kget_6_0 hx hb hts inQ hown hC hP (hts _ wQ_f9) dQ_clearForOpen_9 ?_
    refine lv_iload_n hx hb dQ_clearForOpen_12 rfl (lv_at hl 1 rfl) ?_
    refine lv_iconst (v := 0) hx hb dQ_clearForOpen_13 (by decide) ?_
    refine kast_8 hx hb hC hP hS (vin_c (by decide)) dQ_clearForOpen_14 (fun σ6 H locs e6 hP hS => ?_)
    have hE := hE.trans (bd_e e6)
    have hB : KB σ6 := by rw [e6]; exact hB
    refine lv_iinc (k := 1) (v := 3) (lv' := [(1, .int 3), (0, .ref (q 6))]) hx hb dQ_clearForOpen_15 hl rfl (by decide) (by decide) rfl (fun ls hl => ?_)
    refine lv_goto (tgt := 2) hx hb dQ_clearForOpen_18 rfl ?_
    have hl := lv_sub hl [1, 0] rfl
    exact b2_3 _ _ _ _ hE hl hP hB hS
  have b2_1 : ∀ (H : Heap) (locs : List Loc) (ls : Array Slot) (σ : St), k_clearForOpen σ0 = k_clearForOpen_2_1 σ → lv_has ls 2 [(0, .ref (q 6)), (1, .int 1)] → va_P D vwCl (wsK q cA σ) H → KB σ → va_S (KA q) s.heap H locs → W p l e (headSpec wsQ_clearForOpen { frames := 0, cells := 0, slots := 0, locals := 0 }).room s m ([.ref (q 6)] : List Value).toArray below meth c H locs 0 0 (MQ below (va_Qv (fun u => u = k_clearForOpen σ0) (KPost D q cA) (KA q)) ([.ref (q 6)] : List Value).toArray s 0 0 (KA q)) (F0 m 2 ls []) := by
    intro H locs ls σ hE hl hP hB hS
    refine lv_iload_n hx hb dQ_clearForOpen_2 rfl (lv_at hl 1 rfl) ?_
    refine lv_bipush (v := 6) hx hb dQ_clearForOpen_3 (by decide) ?_
    refine lv_icmp_ge (tgt := 21) hx hb dQ_clearForOpen_5 rfl (fun h3 => absurd h3 (by decide)) (fun _ => ?_)
    refine lv_aload_n hx hb dQ_clearForOpen_8 rfl (lv_at hl 0 rfl) ?_
    refine kget_6_0 hx hb hts inQ hown hC hP (hts _ wQ_f9) dQ_clearForOpen_9 ?_
    refine lv_iload_n hx hb dQ_clearForOpen_12 rfl (lv_at hl 1 rfl) ?_
    refine lv_iconst (v := 0) hx hb dQ_clearForOpen_13 (by decide) ?_
    refine kast_8 hx hb hC hP hS (vin_c (by decide)) dQ_clearForOpen_14 (fun σ4 H locs e4 hP hS => ?_)
    have hE := hE.trans (bd_e e4)
    have hB : KB σ4 := by rw [e4]; exact hB
    refine lv_iinc (k := 1) (v := 2) (lv' := [(1, .int 2), (0, .ref (q 6))]) hx hb dQ_clearForOpen_15 hl rfl (by decide) (by decide) rfl (fun ls hl => ?_)
    refine lv_goto (tgt := 2) hx hb dQ_clearForOpen_18 rfl ?_
    have hl := lv_sub hl [1, 0] rfl
    exact b2_2 _ _ _ _ hE hl hP hB hS
  have b2_0 : ∀ (H : Heap) (locs : List Loc) (ls : Array Slot) (σ : St), k_clearForOpen σ0 = k_clearForOpen_2_0 σ → lv_has ls 2 [(0, .ref (q 6)), (1, .int 0)] → va_P D vwCl (wsK q cA σ) H → KB σ → va_S (KA q) s.heap H locs → W p l e (headSpec wsQ_clearForOpen { frames := 0, cells := 0, slots := 0, locals := 0 }).room s m ([.ref (q 6)] : List Value).toArray below meth c H locs 0 0 (MQ below (va_Qv (fun u => u = k_clearForOpen σ0) (KPost D q cA) (KA q)) ([.ref (q 6)] : List Value).toArray s 0 0 (KA q)) (F0 m 2 ls []) := by
    intro H locs ls σ hE hl hP hB hS
    refine lv_iload_n hx hb dQ_clearForOpen_2 rfl (lv_at hl 1 rfl) ?_
    refine lv_bipush (v := 6) hx hb dQ_clearForOpen_3 (by decide) ?_
    refine lv_icmp_ge (tgt := 21) hx hb dQ_clearForOpen_5 rfl (fun h1 => absurd h1 (by decide)) (fun _ => ?_)
    refine lv_aload_n hx hb dQ_clearForOpen_8 rfl (lv_at hl 0 rfl) ?_
    refine kget_6_0 hx hb hts inQ hown hC hP (hts _ wQ_f9) dQ_clearForOpen_9 ?_
    refine lv_iload_n hx hb dQ_clearForOpen_12 rfl (lv_at hl 1 rfl) ?_
    refine lv_iconst (v := 0) hx hb dQ_clearForOpen_13 (by decide) ?_
    refine kast_8 hx hb hC hP hS (vin_c (by decide)) dQ_clearForOpen_14 (fun σ2 H locs e2 hP hS => ?_)
    have hE := hE.trans (bd_e e2)
    have hB : KB σ2 := by rw [e2]; exact hB
    refine lv_iinc (k := 1) (v := 1) (lv' := [(1, .int 1), (0, .ref (q 6))]) hx hb dQ_clearForOpen_15 hl rfl (by decide) (by decide) rfl (fun ls hl => ?_)
    refine lv_goto (tgt := 2) hx hb dQ_clearForOpen_18 rfl ?_
    have hl := lv_sub hl [1, 0] rfl
    exact b2_1 _ _ _ _ hE hl hP hB hS
  refine lv_iconst (v := 0) hx hb dQ_clearForOpen_0 (by decide) ?_
  refine lv_istore_n (lv' := [(1, .int 0), (0, .ref (q 6))]) hx hb dQ_clearForOpen_1 rfl hl (by decide) rfl (fun ls hl => ?_)
  have hl := lv_sub hl [1, 0] rfl
  exact b2_0 _ _ _ _ hE hl hP hB hS
set_option maxRecDepth 100000 in
set_option maxHeartbeats 4000000 in
theorem c_k_enter (l : Launch) (D : va_G) (q : Nat → Nat) (cA : ClassId) (tN : Nat) (σ0 : St) (a1 : Int32) : Met l yK_enter wsK_enter { frames := 1, cells := 0, slots := 0, locals := 21 } (va_Pc [.ref (q 0), .int a1] (KPre D q cA tN σ0)) (va_Qv (fun u => u = k_enter σ0 a1) (KPost D q cA) (KA q)) 0 0 (KA q) := by
  refine Met.ofW (cc := cK_enter) (maxL := 3) (ret := none) (by decide) rfl ?_
  intro p e s m args below meth c s₁ B hml hv
  obtain ⟨rfl, hP, hB, hC⟩ := hv
  have hx := B.exec
  have hb := B.bytes
  have hr := B.returns
  have hts : ∀ w ∈ gw, w.before ([.ref (q 0), .int a1] : List Value).toArray s = true := fun w h => atoms_spec (ws := wsK_enter) B.pre w (List.mem_cons_of_mem _ h)
  have hown : s.vm.findClass RK = some m.cls := findClass_of_methodNamed B.named
  have hlocks := B.notSynchronized
  have hS : va_S (KA q) s.heap s.heap [] := va_S.rf
  have hl := lv_entry ([.ref (q 0), .int a1]) (n := 3) (Nat.le_of_ble_eq_true rfl)
  rw [lg_entry_eq]
  generalize (lg_sl ([.ref (q 0), .int a1]) ++ List.replicate (3 - (lg_sl ([.ref (q 0), .int a1])).length) Slot.unset).toArray = ls at hl ⊢
  have hl : lv_has ls 3 [(0, .ref (q 0)), (1, .int a1)] := hl
  have hE : k_enter σ0 a1 = k_enter σ0 a1 := rfl
  have b104_8 : ∀ (H : Heap) (locs : List Loc) (ls : Array Slot) (σ : St) (x1 : Int32) (y0 : Int32), k_enter σ0 a1 = k_enter_104_8 σ x1 y0 → lv_has ls 3 [(0, .ref (q 0)), (1, .int x1)] → va_P D vwCl (wsK q cA σ) H → KB σ → va_S (KA q) s.heap H locs → W p l e (headSpec wsK_enter { frames := 1, cells := 0, slots := 0, locals := 21 }).room s m ([.ref (q 0), .int a1] : List Value).toArray below meth c H locs 0 0 (MQ below (va_Qv (fun u => u = k_enter σ0 a1) (KPost D q cA) (KA q)) ([.ref (q 0), .int a1] : List Value).toArray s 0 0 (KA q)) (F0 m 104 ls [.int y0, .int 8, .ref (q 1), .ref (q 0)]) := by
    intro H locs ls σ x1 y0 hE hl hP hB hS
    refine lv_imul hx hb dK_enter_104 ?_
    refine lv_iload_n hx hb dK_enter_105 rfl (lv_at hl 1 rfl) ?_
    refine lv_iadd hx hb dK_enter_106 ?_
    refine lv_sipush (v := 255) hx hb dK_enter_107 (by decide) ?_
    refine lv_iand hx hb dK_enter_110 ?_
    refine kald_1 hx hb hC hP (vin_m 8 (by decide) (by decide) (by decide)) dK_enter_111 ?_
    refine kcallv (rest := []) ⟨hx, hb, hml, hown, hts⟩ hC hP hB hS (c_k_goTo l D q cA tN σ (σ 1 (ix (((8 * y0) + x1) &&& 255)))) (cwV 1 hts gK_111 rfl rfl rfl hdK_goTo ⟨Nat.le_of_ble_eq_true rfl, Nat.le_of_ble_eq_true rfl⟩) (krv_0 hC hP) rfl hl.1 rfl (Nat.le_of_ble_eq_true rfl) dK_enter_112 (fun σ11 H locs e11 hP hB hS => ?_)
    have hE := hE.trans (bd_e e11)
    refine lv_aload_n hx hb dK_enter_115 rfl (lv_at hl 0 rfl) ?_
    refine lv_iload_n hx hb dK_enter_116 rfl (lv_at hl 1 rfl) ?_
    refine kput_0_13 hx hb hts inK hown hC hP (hts _ wK_f91) hS dK_enter_117 (fun σ12 H locs e12 hP hS => ?_)
    have hE := hE.trans (bd_e e12)
    have hB : KB σ12 := by rw [e12]; exact hB
    exact W.vret hx hb hr (fun t ht hW => ⟨⟨σ12, rfl, hE.symm, ⟨by rw [ht]; exact hP, hB⟩⟩, hS.F ht⟩) hS.2.2 dK_enter_120
  have b66 : ∀ (H : Heap) (locs : List Loc) (ls : Array Slot) (σ : St) (x1 : Int32) (x2 : Int32), zb x2 → k_enter σ0 a1 = k_enter_66 σ x1 x2 → lv_has ls 3 [(0, .ref (q 0)), (1, .int x1), (2, .int x2)] → va_P D vwCl (wsK q cA σ) H → KB σ → va_S (KA q) s.heap H locs → W p l e (headSpec wsK_enter { frames := 1, cells := 0, slots := 0, locals := 21 }).room s m ([.ref (q 0), .int a1] : List Value).toArray below meth c H locs 0 0 (MQ below (va_Qv (fun u => u = k_enter σ0 a1) (KPost D q cA) (KA q)) ([.ref (q 0), .int a1] : List Value).toArray s 0 0 (KA q)) (F0 m 66 ls []) := by
    intro H locs ls σ x1 x2 hz_x2 hE hl hP hB hS
    refine lv_aload_n hx hb dK_enter_66 rfl (lv_at hl 0 rfl) ?_
    refine kget_0_5 hx hb hts inK hown hC hP (hts _ wK_f28) dK_enter_67 ?_
    refine lv_iload_n hx hb dK_enter_70 rfl (lv_at hl 2 rfl) ?_
    refine kput_6_5 hx hb hts inQ hown hC hP (hts _ wK_f64) hS hz_x2 dK_enter_71 (fun σ8 H locs e8 hP hS => ?_)
    have hE := hE.trans (bd_e e8)
    have hB : KB σ8 := by rw [e8]; exact KB_6_5s hB hz_x2
    refine lv_aload_n hx hb dK_enter_74 rfl (lv_at hl 0 rfl) ?_
    refine kget_0_5 hx hb hts inK hown hC hP (hts _ wK_f28) dK_enter_75 ?_
    refine lv_iload_n hx hb dK_enter_78 rfl (lv_at hl 1 rfl) ?_
    refine kput_6_6 hx hb hts inQ hown hC hP (hts _ wK_f73) hS dK_enter_79 (fun σ9 H locs e9 hP hS => ?_)
    have hE := hE.trans (bd_e e9)
    have hB : KB σ9 := by rw [e9]; exact hB
    refine lv_aload_n hx hb dK_enter_82 rfl (lv_at hl 0 rfl) ?_
    refine lv_aload_n hx hb dK_enter_83 rfl (lv_at hl 0 rfl) ?_
    refine kget_0_0 hx hb hts inK hown hC hP (hts _ wK_f9) dK_enter_84 ?_
    refine lv_bipush (v := 8) hx hb dK_enter_87 (by decide) ?_
    refine lv_iload_n hx hb dK_enter_89 rfl (lv_at hl 2 rfl) ?_
    refine lv_if_eq (tgt := 100) hx hb dK_enter_90 rfl (fun h10 => ?_) (fun h10 => ?_)
    · have hE := hE.trans (if_pos h10)
      refine lv_aload_n hx hb dK_enter_100 rfl (lv_at hl 0 rfl) ?_
      refine kget_0_9 hx hb hts inK hown hC hP (hts _ wK_f55) dK_enter_101 ?_
      have hl := lv_sub hl [0, 1] rfl
      exact b104_8 _ _ _ _ x1 (σ9 0 9) hE hl hP hB hS
    · have hE := hE.trans (if_neg h10)
      refine lv_aload_n hx hb dK_enter_93 rfl (lv_at hl 0 rfl) ?_
      refine kget_0_10 hx hb hts inK hown hC hP (hts _ wK_f58) dK_enter_94 ?_
      refine lv_goto (tgt := 104) hx hb dK_enter_97 rfl ?_
      have hl := lv_sub hl [0, 1] rfl
      exact b104_8 _ _ _ _ x1 (σ9 0 10) hE hl hP hB hS
  have b43_6 : ∀ (H : Heap) (locs : List Loc) (ls : Array Slot) (σ : St) (x1 : Int32) (x2 : Int32) (y0 : Int32) (y1 : Int32), zb x2 → k_enter σ0 a1 = k_enter_43_6 σ x1 x2 y0 y1 → lv_has ls 3 [(0, .ref (q 0)), (1, .int x1), (2, .int x2)] → va_P D vwCl (wsK q cA σ) H → KB σ → va_S (KA q) s.heap H locs → W p l e (headSpec wsK_enter { frames := 1, cells := 0, slots := 0, locals := 21 }).room s m ([.ref (q 0), .int a1] : List Value).toArray below meth c H locs 0 0 (MQ below (va_Qv (fun u => u = k_enter σ0 a1) (KPost D q cA) (KA q)) ([.ref (q 0), .int a1] : List Value).toArray s 0 0 (KA q)) (F0 m 43 ls [.int y0, .int y1, .int 6, .ref (q 8)]) := by
    intro H locs ls σ x1 x2 y0 y1 hz_x2 hE hl hP hB hS
    refine lv_iadd hx hb dK_enter_43 ?_
    refine kast_8 hx hb hC hP hS (vin_c (by decide)) dK_enter_44 (fun σ5 H locs e5 hP hS => ?_)
    have hE := hE.trans (bd_e e5)
    have hB : KB σ5 := by rw [e5]; exact hB
    refine lv_aload_n hx hb dK_enter_45 rfl (lv_at hl 0 rfl) ?_
    refine kget_0_5 hx hb hts inK hown hC hP (hts _ wK_f28) dK_enter_46 ?_
    refine kget_6_5 hx hb hts inQ hown hC hP (hts _ wK_f64) dK_enter_49 ?_
    have z6 : zb (σ5 6 5) := KB_6_5 hB
    refine lv_if_ne (tgt := 66) hx hb dK_enter_52 rfl (fun h7 => ?_) (fun h7 => ?_)
    · have hE := hE.trans (if_neg h7)
      exact b66 _ _ _ _ x1 x2 hz_x2 hE hl hP hB hS
    · have hE := hE.trans (if_pos h7)
      refine lv_iload_n hx hb dK_enter_55 rfl (lv_at hl 2 rfl) ?_
      refine lv_if_eq (tgt := 66) hx hb dK_enter_56 rfl (fun h13 => ?_) (fun h13 => ?_)
      · have hE := hE.trans (if_pos h13)
        exact b66 _ _ _ _ x1 x2 hz_x2 hE hl hP hB hS
      · have hE := hE.trans (if_neg h13)
        refine lv_aload_n hx hb dK_enter_59 rfl (lv_at hl 0 rfl) ?_
        refine kget_0_5 hx hb hts inK hown hC hP (hts _ wK_f28) dK_enter_60 ?_
        refine kcallv (rest := []) ⟨hx, hb, hml, hown, hts⟩ hC hP hB hS (c_k_clearForOpen l D q cA tN σ5) (cwV 0 hts gK_173 rfl rfl rfl hdQ_clearForOpen ⟨Nat.le_of_ble_eq_true rfl, Nat.le_of_ble_eq_true rfl⟩) (krv_6 hC hP) rfl hl.1 rfl (Nat.le_of_ble_eq_true rfl) dK_enter_63 (fun σ14 H locs e14 hP hB hS => ?_)
        have hE := hE.trans (bd_e e14)
        exact b66 _ _ _ _ x1 x2 hz_x2 hE hl hP hB hS
  refine lv_aload_n hx hb dK_enter_0 rfl (lv_at hl 0 rfl) ?_
  refine lv_iload_n hx hb dK_enter_1 rfl (lv_at hl 1 rfl) ?_
  refine kcalli (rest := []) ⟨hx, hb, hml, hown, hts⟩ hC hP hB hS (c_k_isHandledOpen l D q cA tN σ0 a1) (cwV 1 hts gK_170 rfl rfl rfl hdK_isHandledOpen ⟨Nat.le_of_ble_eq_true rfl, Nat.le_of_ble_eq_true rfl⟩) (krv_0 hC hP) rfl hl.1 rfl (Nat.le_of_ble_eq_true rfl) dK_enter_2 (fun σ1 v2 H locs e1 hP hB hS => ?_)
  have z1 : zb v2 := e1.2
  have hE := hE.trans (bd2_e e1.1)
  refine lv_istore_n (lv' := [(2, .int v2), (0, .ref (q 0)), (1, .int a1)]) hx hb dK_enter_5 rfl hl (by decide) rfl (fun ls hl => ?_)
  refine lv_aload_n hx hb dK_enter_6 rfl (lv_at hl 1 rfl) ?_
  refine kget_0_5 hx hb hts inK hown hC hP (hts _ wK_f28) dK_enter_7 ?_
  refine kget_6_0 hx hb hts inQ hown hC hP (hts _ wK_f82) dK_enter_10 ?_
  refine lv_bipush (v := 6) hx hb dK_enter_13 (by decide) ?_
  refine lv_ldc (v := 65408) hx hb hown (hts _ wK_c157) dK_enter_15 ?_
  refine lv_bipush (v := 16) hx hb dK_enter_17 (by decide) ?_
  refine lv_aload_n hx hb dK_enter_19 rfl (lv_at hl 1 rfl) ?_
  refine kget_0_5 hx hb hts inK hown hC hP (hts _ wK_f28) dK_enter_20 ?_
  refine kget_6_6 hx hb hts inQ hown hC hP (hts _ wK_f73) dK_enter_23 ?_
  refine lv_imul hx hb dK_enter_26 ?_
  refine lv_iadd hx hb dK_enter_27 ?_
  refine lv_aload_n hx hb dK_enter_28 rfl (lv_at hl 1 rfl) ?_
  refine kget_0_5 hx hb hts inK hown hC hP (hts _ wK_f28) dK_enter_29 ?_
  refine kget_6_5 hx hb hts inQ hown hC hP (hts _ wK_f64) dK_enter_32 ?_
  have z3 : zb (σ1 6 5) := KB_6_5 hB
  refine lv_if_eq (tgt := 42) hx hb dK_enter_35 rfl (fun h4 => ?_) (fun h4 => ?_)
  · have hE := hE.trans (if_pos h4)
    refine lv_iconst (v := 1) hx hb dK_enter_42 (by decide) ?_
    have hl := lv_sub hl [1, 2, 0] rfl
    exact b43_6 _ _ _ _ a1 v2 1 (65408 + (16 * (σ1 6 6))) z1 hE hl hP hB hS
  · have hE := hE.trans (if_neg h4)
    refine lv_iconst (v := 0) hx hb dK_enter_38 (by decide) ?_
    refine lv_goto (tgt := 43) hx hb dK_enter_39 rfl ?_
    have hl := lv_sub hl [1, 2, 0] rfl
    exact b43_6 _ _ _ _ a1 v2 0 (65408 + (16 * (σ1 6 6))) z1 hE hl hP hB hS
set_option maxRecDepth 100000 in
set_option maxHeartbeats 4000000 in
theorem c_k_copy_67 (l : Launch) (D : va_G) (q : Nat → Nat) (cA : ClassId) (tN : Nat) (σ0 : St) : Met l yQ_copy wsQ_copy { frames := 1, cells := 0, slots := 0, locals := 40 } (va_Pc [.ref (q 6), .ref (q 7)] (KPre D q cA tN σ0)) (va_Qv (fun u => u = k_copy_67 σ0) (KPost D q cA) (KA q)) 0 0 (KA q) := by
  refine Met.ofW (cc := cQ_copy) (maxL := 2) (ret := none) (by decide) rfl ?_
  intro p e s m args below meth c s₁ B hml hv
  obtain ⟨rfl, hP, hB, hC⟩ := hv
  have hx := B.exec
  have hb := B.bytes
  have hr := B.returns
  have hts : ∀ w ∈ gw, w.before ([.ref (q 6), .ref (q 7)] : List Value).toArray s = true := fun w h => atoms_spec (ws := wsQ_copy) B.pre w (List.mem_cons_of_mem _ h)
  have hown : s.vm.findClass RQ = some m.cls := findClass_of_methodNamed B.named
  have hlocks := B.notSynchronized
  have hS : va_S (KA q) s.heap s.heap [] := va_S.rf
  have hl := lv_entry ([.ref (q 6), .ref (q 7)]) (n := 2) (Nat.le_of_ble_eq_true rfl)
  rw [lg_entry_eq]
  generalize (lg_sl ([.ref (q 6), .ref (q 7)]) ++ List.replicate (2 - (lg_sl ([.ref (q 6), .ref (q 7)])).length) Slot.unset).toArray = ls at hl ⊢
  have hl : lv_has ls 2 [(0, .ref (q 6)), (1, .ref (q 7))] := hl
  have hE : k_copy_67 σ0 = k_copy_67 σ0 := rfl
  refine lv_aload_n hx hb dQ_copy_0 rfl (lv_at hl 1 rfl) ?_
  refine kget_7_0 hx hb hts inQ hown hC hP (hts _ wQ_f9) dQ_copy_1 ?_
  refine lv_iconst (v := 0) hx hb dQ_copy_4 (by decide) ?_
  refine lv_aload_n hx hb dQ_copy_5 rfl (lv_at hl 0 rfl) ?_
  refine kget_6_0 hx hb hts inQ hown hC hP (hts _ wQ_f9) dQ_copy_6 ?_
  refine lv_iconst (v := 0) hx hb dQ_copy_9 (by decide) ?_
  refine lv_bipush (v := 8) hx hb dQ_copy_10 (by decide) ?_
  refine kcopy_9_8 hx hb (hml.trans hl.1.symm) hC hP hS hown (hts _ wQ_m22) (hts _ w_cpn) (hts _ w_cps) (hts _ w_cpi) (Nat.le_of_ble_eq_true rfl) (Nat.le_of_ble_eq_true rfl) dQ_copy_12 (fun σ1 H locs e1 hP hS => ?_)
  have hE := hE.trans (bd_e e1)
  have hB : KB σ1 := by rw [e1]; exact hB
  refine lv_aload_n hx hb dQ_copy_15 rfl (lv_at hl 0 rfl) ?_
  refine lv_aload_n hx hb dQ_copy_16 rfl (lv_at hl 1 rfl) ?_
  refine kget_7_1 hx hb hts inQ hown hC hP (hts _ wQ_f15) dQ_copy_17 ?_
  refine kput_6_1 hx hb hts inQ hown hC hP (hts _ wQ_f15) hS dQ_copy_20 (fun σ2 H locs e2 hP hS => ?_)
  have hE := hE.trans (bd_e e2)
  have hB : KB σ2 := by rw [e2]; exact hB
  refine lv_aload_n hx hb dQ_copy_23 rfl (lv_at hl 0 rfl) ?_
  refine lv_aload_n hx hb dQ_copy_24 rfl (lv_at hl 1 rfl) ?_
  refine kget_7_2 hx hb hts inQ hown hC hP (hts _ wQ_f19) dQ_copy_25 ?_
  refine kput_6_2 hx hb hts inQ hown hC hP (hts _ wQ_f19) hS dQ_copy_28 (fun σ3 H locs e3 hP hS => ?_)
  have hE := hE.trans (bd_e e3)
  have hB : KB σ3 := by rw [e3]; exact hB
  refine lv_aload_n hx hb dQ_copy_31 rfl (lv_at hl 0 rfl) ?_
  refine lv_aload_n hx hb dQ_copy_32 rfl (lv_at hl 1 rfl) ?_
  refine kget_7_3 hx hb hts inQ hown hC hP (hts _ wQ_f28) dQ_copy_33 ?_
  refine kput_6_3 hx hb hts inQ hown hC hP (hts _ wQ_f28) hS dQ_copy_36 (fun σ4 H locs e4 hP hS => ?_)
  have hE := hE.trans (bd_e e4)
  have hB : KB σ4 := by rw [e4]; exact hB
  refine lv_aload_n hx hb dQ_copy_39 rfl (lv_at hl 0 rfl) ?_
  refine lv_aload_n hx hb dQ_copy_40 rfl (lv_at hl 1 rfl) ?_
  refine kget_7_4 hx hb hts inQ hown hC hP (hts _ wQ_f31) dQ_copy_41 ?_
  have z5 : zb (σ4 7 4) := KB_7_4 hB
  refine kput_6_4 hx hb hts inQ hown hC hP (hts _ wQ_f31) hS z5 dQ_copy_44 (fun σ6 H locs e6 hP hS => ?_)
  have hE := hE.trans (bd_e e6)
  have hB : KB σ6 := by rw [e6]; exact KB_6_4s hB z5
  refine lv_aload_n hx hb dQ_copy_47 rfl (lv_at hl 0 rfl) ?_
  refine lv_aload_n hx hb dQ_copy_48 rfl (lv_at hl 1 rfl) ?_
  refine kget_7_5 hx hb hts inQ hown hC hP (hts _ wQ_f35) dQ_copy_49 ?_
  have z7 : zb (σ6 7 5) := KB_7_5 hB
  refine kput_6_5 hx hb hts inQ hown hC hP (hts _ wQ_f35) hS z7 dQ_copy_52 (fun σ8 H locs e8 hP hS => ?_)
  have hE := hE.trans (bd_e e8)
  have hB : KB σ8 := by rw [e8]; exact KB_6_5s hB z7
  refine lv_aload_n hx hb dQ_copy_55 rfl (lv_at hl 0 rfl) ?_
  refine lv_aload_n hx hb dQ_copy_56 rfl (lv_at hl 1 rfl) ?_
  refine kget_7_6 hx hb hts inQ hown hC hP (hts _ wQ_f38) dQ_copy_57 ?_
  refine kput_6_6 hx hb hts inQ hown hC hP (hts _ wQ_f38) hS dQ_copy_60 (fun σ9 H locs e9 hP hS => ?_)
  have hE := hE.trans (bd_e e9)
  have hB : KB σ9 := by rw [e9]; exact hB
  exact W.vret hx hb hr (fun t ht hW => ⟨⟨σ9, rfl, hE.symm, ⟨by rw [ht]; exact hP, hB⟩⟩, hS.F ht⟩) hS.2.2 dQ_copy_63
set_option maxRecDepth 100000 in
set_option maxHeartbeats 4000000 in
theorem c_k_take (l : Launch) (D : va_G) (q : Nat → Nat) (cA : ClassId) (tN : Nat) (σ0 : St) (a1 : Int32) : Met l yK_take wsK_take { frames := 3, cells := 0, slots := 0, locals := 66 } (va_Pc [.ref (q 0), .int a1] (KPre D q cA tN σ0)) (va_Qv (fun u => u = k_take σ0 a1) (KPost D q cA) (KA q)) 0 0 (KA q) := by
  refine Met.ofW (cc := cK_take) (maxL := 2) (ret := none) (by decide) rfl ?_
  intro p e s m args below meth c s₁ B hml hv
  obtain ⟨rfl, hP, hB, hC⟩ := hv
  have hx := B.exec
  have hb := B.bytes
  have hr := B.returns
  have hts : ∀ w ∈ gw, w.before ([.ref (q 0), .int a1] : List Value).toArray s = true := fun w h => atoms_spec (ws := wsK_take) B.pre w (List.mem_cons_of_mem _ h)
  have hown : s.vm.findClass RK = some m.cls := findClass_of_methodNamed B.named
  have hlocks := B.notSynchronized
  have hS : va_S (KA q) s.heap s.heap [] := va_S.rf
  have hl := lv_entry ([.ref (q 0), .int a1]) (n := 2) (Nat.le_of_ble_eq_true rfl)
  rw [lg_entry_eq]
  generalize (lg_sl ([.ref (q 0), .int a1]) ++ List.replicate (2 - (lg_sl ([.ref (q 0), .int a1])).length) Slot.unset).toArray = ls at hl ⊢
  have hl : lv_has ls 2 [(0, .ref (q 0)), (1, .int a1)] := hl
  have hE : k_take σ0 a1 = k_take σ0 a1 := rfl
  have b51 : ∀ (H : Heap) (locs : List Loc) (ls : Array Slot) (σ : St), k_take σ0 a1 = k_take_51 σ → lv_has ls 2 [] → va_P D vwCl (wsK q cA σ) H → KB σ → va_S (KA q) s.heap H locs → W p l e (headSpec wsK_take { frames := 3, cells := 0, slots := 0, locals := 66 }).room s m ([.ref (q 0), .int a1] : List Value).toArray below meth c H locs 0 0 (MQ below (va_Qv (fun u => u = k_take σ0 a1) (KPost D q cA) (KA q)) ([.ref (q 0), .int a1] : List Value).toArray s 0 0 (KA q)) (F0 m 51 ls []) := by
    intro H locs ls σ hE hl hP hB hS
    exact W.vret hx hb hr (fun t ht hW => ⟨⟨σ, rfl, hE.symm, ⟨by rw [ht]; exact hP, hB⟩⟩, hS.F ht⟩) hS.2.2 dK_take_51
  refine lv_aload_n hx hb dK_take_0 rfl (lv_at hl 0 rfl) ?_
  refine kget_0_6 hx hb hts inK hown hC hP (hts _ wK_f32) dK_take_1 ?_
  refine lv_aload_n hx hb dK_take_4 rfl (lv_at hl 0 rfl) ?_
  refine kget_0_5 hx hb hts inK hown hC hP (hts _ wK_f28) dK_take_5 ?_
  refine kcallv (rest := []) ⟨hx, hb, hml, hown, hts⟩ hC hP hB hS (c_k_copy_76 l D q cA tN σ0) (cwV 1 hts gK_97 rfl rfl rfl hdQ_copy ⟨Nat.le_of_ble_eq_true rfl, Nat.le_of_ble_eq_true rfl⟩) (krv_7 hC hP) rfl hl.1 rfl (Nat.le_of_ble_eq_true rfl) dK_take_8 (fun σ1 H locs e1 hP hB hS => ?_)
  have hE := hE.trans (bd_e e1)
  refine lv_aload_n hx hb dK_take_11 rfl (lv_at hl 0 rfl) ?_
  refine lv_iconst (v := 0) hx hb dK_take_12 (by decide) ?_
  refine kput_0_14 hx hb hts inK hown hC hP (hts _ wK_f101) hS dK_take_13 (fun σ2 H locs e2 hP hS => ?_)
  have hE := hE.trans (bd_e e2)
  have hB : KB σ2 := by rw [e2]; exact hB
  refine lv_aload_n hx hb dK_take_16 rfl (lv_at hl 0 rfl) ?_
  refine kcallv (rest := []) ⟨hx, hb, hml, hown, hts⟩ hC hP hB hS (c_k_pushFrame l D q cA tN σ2) (cwV 0 hts gK_164 rfl rfl rfl hdK_pushFrame ⟨Nat.le_of_ble_eq_true rfl, Nat.le_of_ble_eq_true rfl⟩) (krv_0 hC hP) rfl hl.1 rfl (Nat.le_of_ble_eq_true rfl) dK_take_17 (fun σ3 H locs e3 hP hB hS => ?_)
  have hE := hE.trans (bd_e e3)
  refine lv_aload_n hx hb dK_take_20 rfl (lv_at hl 0 rfl) ?_
  refine kget_0_14 hx hb hts inK hown hC hP (hts _ wK_f101) dK_take_21 ?_
  refine lv_if_eq (tgt := 46) hx hb dK_take_24 rfl (fun h4 => ?_) (fun h4 => ?_)
  · have hE := hE.trans (if_pos h4)
    refine lv_aload_n hx hb dK_take_46 rfl (lv_at hl 0 rfl) ?_
    refine lv_iload_n hx hb dK_take_47 rfl (lv_at hl 1 rfl) ?_
    refine kcallv (rest := []) ⟨hx, hb, hml, hown, hts⟩ hC hP hB hS (c_k_enter l D q cA tN σ3 a1) (cwV 1 hts gK_167 rfl rfl rfl hdK_enter ⟨Nat.le_of_ble_eq_true rfl, Nat.le_of_ble_eq_true rfl⟩) (krv_0 hC hP) rfl hl.1 rfl (Nat.le_of_ble_eq_true rfl) dK_take_48 (fun σ5 H locs e5 hP hB hS => ?_)
    have hE := hE.trans (bd_e e5)
    have hl := lv_sub hl [] rfl
    exact b51 _ _ _ _ hE hl hP hB hS
  · have hE := hE.trans (if_neg h4)
    refine lv_aload_n hx hb dK_take_27 rfl (lv_at hl 0 rfl) ?_
    refine kget_0_5 hx hb hts inK hown hC hP (hts _ wK_f28) dK_take_28 ?_
    refine lv_aload_n hx hb dK_take_31 rfl (lv_at hl 0 rfl) ?_
    refine kget_0_6 hx hb hts inK hown hC hP (hts _ wK_f32) dK_take_32 ?_
    refine kcallv (rest := []) ⟨hx, hb, hml, hown, hts⟩ hC hP hB hS (c_k_copy_67 l D q cA tN σ3) (cwV 1 hts gK_97 rfl rfl rfl hdQ_copy ⟨Nat.le_of_ble_eq_true rfl, Nat.le_of_ble_eq_true rfl⟩) (krv_6 hC hP) rfl hl.1 rfl (Nat.le_of_ble_eq_true rfl) dK_take_35 (fun σ6 H locs e6 hP hB hS => ?_)
    have hE := hE.trans (bd_e e6)
    refine lv_aload_n hx hb dK_take_38 rfl (lv_at hl 0 rfl) ?_
    refine lv_iconst (v := 2) hx hb dK_take_39 (by decide) ?_
    refine kput_0_11 hx hb hts inK hown hC hP (hts _ wK_f76) hS dK_take_40 (fun σ7 H locs e7 hP hS => ?_)
    have hE := hE.trans (bd_e e7)
    have hB : KB σ7 := by rw [e7]; exact hB
    refine lv_goto (tgt := 51) hx hb dK_take_43 rfl ?_
    have hl := lv_sub hl [] rfl
    exact b51 _ _ _ _ hE hl hP hB hS
set_option maxRecDepth 100000 in
set_option maxHeartbeats 4000000 in
theorem c_k_takePending (l : Launch) (D : va_G) (q : Nat → Nat) (cA : ClassId) (tN : Nat) (σ0 : St) (hact_σ0 : actOK σ0) : Met l yK_takePending wsK_takePending { frames := 4, cells := 0, slots := 0, locals := 87 } (va_Pc [.ref (q 0)] (KPre D q cA tN σ0)) (va_Qv (fun u => u = k_takePending σ0) (KPost D q cA) (KA q)) 0 0 (KA q) := by
  refine Met.ofW (cc := cK_takePending) (maxL := 3) (ret := none) (by decide) rfl ?_
  intro p e s m args below meth c s₁ B hml hv
  obtain ⟨rfl, hP, hB, hC⟩ := hv
  have hx := B.exec
  have hb := B.bytes
  have hr := B.returns
  have hts : ∀ w ∈ gw, w.before ([.ref (q 0)] : List Value).toArray s = true := fun w h => atoms_spec (ws := wsK_takePending) B.pre w (List.mem_cons_of_mem _ h)
  have hown : s.vm.findClass RK = some m.cls := findClass_of_methodNamed B.named
  have hlocks := B.notSynchronized
  have hS : va_S (KA q) s.heap s.heap [] := va_S.rf
  have hl := lv_entry ([.ref (q 0)]) (n := 3) (Nat.le_of_ble_eq_true rfl)
  rw [lg_entry_eq]
  generalize (lg_sl ([.ref (q 0)]) ++ List.replicate (3 - (lg_sl ([.ref (q 0)])).length) Slot.unset).toArray = ls at hl ⊢
  have hl : lv_has ls 3 [(0, .ref (q 0))] := hl
  have hE : k_takePending σ0 = k_takePending σ0 := rfl
  have b25_7 : ∀ (H : Heap) (locs : List Loc) (ls : Array Slot) (σ : St) (x1 : Int32), bt0 x1 7 → k_takePending σ0 = k_takePending_25_7 σ x1 → lv_has ls 3 [(0, .ref (q 0)), (1, .int x1), (2, .int 7)] → va_P D vwCl (wsK q cA σ) H → KB σ → va_S (KA q) s.heap H locs → W p l e (headSpec wsK_takePending { frames := 4, cells := 0, slots := 0, locals := 87 }).room s m ([.ref (q 0)] : List Value).toArray below meth c H locs 0 0 (MQ below (va_Qv (fun u => u = k_takePending σ0) (KPost D q cA) (KA q)) ([.ref (q 0)] : List Value).toArray s 0 0 (KA q)) (F0 m 25 ls []) := by
    intro H locs ls σ x1 hle7_x1 hE hl hP hB hS
    refine lv_iload_n hx hb dK_takePending_25 rfl (lv_at hl 2 rfl) ?_
    refine lv_iload_n hx hb dK_takePending_26 rfl (lv_at hl 1 rfl) ?_
    refine lv_icmp_ge (tgt := 67) hx hb dK_takePending_27 rfl (fun _ => ?_) (fun h10 => absurd hle7_x1.2 h10)
    exact W.vret hx hb hr (fun t ht hW => ⟨⟨σ, rfl, hE.symm, ⟨by rw [ht]; exact hP, hB⟩⟩, hS.F ht⟩) hS.2.2 dK_takePending_67
  have b25_6 : ∀ (H : Heap) (locs : List Loc) (ls : Array Slot) (σ : St) (x1 : Int32), bt0 x1 7 → k_takePending σ0 = k_takePending_25_6 σ x1 → lv_has ls 3 [(0, .ref (q 0)), (1, .int x1), (2, .int 6)] → va_P D vwCl (wsK q cA σ) H → KB σ → va_S (KA q) s.heap H locs → W p l e (headSpec wsK_takePending { frames := 4, cells := 0, slots := 0, locals := 87 }).room s m ([.ref (q 0)] : List Value).toArray below meth c H locs 0 0 (MQ below (va_Qv (fun u => u = k_takePending σ0) (KPost D q cA) (KA q)) ([.ref (q 0)] : List Value).toArray s 0 0 (KA q)) (F0 m 25 ls []) := by
    intro H locs ls σ x1 hle7_x1 hE hl hP hB hS
    refine lv_iload_n hx hb dK_takePending_25 rfl (lv_at hl 2 rfl) ?_
    refine lv_iload_n hx hb dK_takePending_26 rfl (lv_at hl 1 rfl) ?_
    refine lv_icmp_ge (tgt := 67) hx hb dK_takePending_27 rfl (fun h8 => ?_) (fun h8 => ?_)
    · have hE := hE.trans (if_pos h8)
      exact W.vret hx hb hr (fun t ht hW => ⟨⟨σ, rfl, hE.symm, ⟨by rw [ht]; exact hP, hB⟩⟩, hS.F ht⟩) hS.2.2 dK_takePending_67
    · have hE := hE.trans (if_neg h8)
      refine lv_aload_n hx hb dK_takePending_30 rfl (lv_at hl 0 rfl) ?_
      refine kget_0_12 hx hb hts inK hown hC hP (hts _ wK_f79) dK_takePending_31 ?_
      refine lv_iload_n hx hb dK_takePending_34 rfl (lv_at hl 2 rfl) ?_
      refine lv_ishr hx hb dK_takePending_35 ?_
      refine lv_iconst (v := 1) hx hb dK_takePending_36 (by decide) ?_
      refine lv_iand hx hb dK_takePending_37 ?_
      refine lv_if_eq (tgt := 61) hx hb dK_takePending_38 rfl (fun h9 => ?_) (fun h9 => ?_)
      · have hE := hE.trans (if_pos h9)
        refine lv_iinc (k := 2) (v := 7) (lv' := [(2, .int 7), (0, .ref (q 0)), (1, .int x1)]) hx hb dK_takePending_61 hl rfl (by decide) (by decide) rfl (fun ls hl => ?_)
        refine lv_goto (tgt := 25) hx hb dK_takePending_64 rfl ?_
        have hl := lv_sub hl [1, 2, 0] rfl
        exact b25_7 _ _ _ _ x1 hle7_x1 hE hl hP hB hS
      · have hE := hE.trans (if_neg h9)
        refine lv_aload_n hx hb dK_takePending_41 rfl (lv_at hl 0 rfl) ?_
        refine lv_dup hx hb dK_takePending_42 rfl ?_
        refine kget_0_12 hx hb hts inK hown hC hP (hts _ wK_f79) dK_takePending_43 ?_
        refine lv_iconst (v := 1) hx hb dK_takePending_46 (by decide) ?_
        refine lv_iload_n hx hb dK_takePending_47 rfl (lv_at hl 2 rfl) ?_
        refine lv_ishl hx hb dK_takePending_48 ?_
        refine lv_iconst (v := (-1)) hx hb dK_takePending_49 (by decide) ?_
        refine lv_ixor hx hb dK_takePending_50 ?_
        refine lv_iand hx hb dK_takePending_51 ?_
        refine kput_0_12 hx hb hts inK hown hC hP (hts _ wK_f79) hS dK_takePending_52 (fun σ11 H locs e11 hP hS => ?_)
        have hE := hE.trans (bd_e e11)
        have hB : KB σ11 := by rw [e11]; exact hB
        refine lv_aload_n hx hb dK_takePending_55 rfl (lv_at hl 0 rfl) ?_
        refine lv_iload_n hx hb dK_takePending_56 rfl (lv_at hl 2 rfl) ?_
        refine kcallv (rest := []) ⟨hx, hb, hml, hown, hts⟩ hC hP hB hS (c_k_take l D q cA tN σ11 6) (cwV 1 hts gK_124 rfl rfl rfl hdK_take ⟨Nat.le_of_ble_eq_true rfl, Nat.le_of_ble_eq_true rfl⟩) (krv_0 hC hP) rfl hl.1 rfl (Nat.le_of_ble_eq_true rfl) dK_takePending_57 (fun σ12 H locs e12 hP hB hS => ?_)
        have hE := hE.trans (bd_e e12)
        exact W.vret hx hb hr (fun t ht hW => ⟨⟨σ12, rfl, hE.symm, ⟨by rw [ht]; exact hP, hB⟩⟩, hS.F ht⟩) hS.2.2 dK_takePending_60
  have b25_5 : ∀ (H : Heap) (locs : List Loc) (ls : Array Slot) (σ : St) (x1 : Int32), bt0 x1 7 → k_takePending σ0 = k_takePending_25_5 σ x1 → lv_has ls 3 [(0, .ref (q 0)), (1, .int x1), (2, .int 5)] → va_P D vwCl (wsK q cA σ) H → KB σ → va_S (KA q) s.heap H locs → W p l e (headSpec wsK_takePending { frames := 4, cells := 0, slots := 0, locals := 87 }).room s m ([.ref (q 0)] : List Value).toArray below meth c H locs 0 0 (MQ below (va_Qv (fun u => u = k_takePending σ0) (KPost D q cA) (KA q)) ([.ref (q 0)] : List Value).toArray s 0 0 (KA q)) (F0 m 25 ls []) := by
    intro H locs ls σ x1 hle7_x1 hE hl hP hB hS
    refine lv_iload_n hx hb dK_takePending_25 rfl (lv_at hl 2 rfl) ?_
    refine lv_iload_n hx hb dK_takePending_26 rfl (lv_at hl 1 rfl) ?_
    refine lv_icmp_ge (tgt := 67) hx hb dK_takePending_27 rfl (fun h6 => ?_) (fun h6 => ?_)
    · have hE := hE.trans (if_pos h6)
      exact W.vret hx hb hr (fun t ht hW => ⟨⟨σ, rfl, hE.symm, ⟨by rw [ht]; exact hP, hB⟩⟩, hS.F ht⟩) hS.2.2 dK_takePending_67
    · have hE := hE.trans (if_neg h6)
      refine lv_aload_n hx hb dK_takePending_30 rfl (lv_at hl 0 rfl) ?_
      refine kget_0_12 hx hb hts inK hown hC hP (hts _ wK_f79) dK_takePending_31 ?_
      refine lv_iload_n hx hb dK_takePending_34 rfl (lv_at hl 2 rfl) ?_
      refine lv_ishr hx hb dK_takePending_35 ?_
      refine lv_iconst (v := 1) hx hb dK_takePending_36 (by decide) ?_
      refine lv_iand hx hb dK_takePending_37 ?_
      refine lv_if_eq (tgt := 61) hx hb dK_takePending_38 rfl (fun h7 => ?_) (fun h7 => ?_)
      · have hE := hE.trans (if_pos h7)
        refine lv_iinc (k := 2) (v := 6) (lv' := [(2, .int 6), (0, .ref (q 0)), (1, .int x1)]) hx hb dK_takePending_61 hl rfl (by decide) (by decide) rfl (fun ls hl => ?_)
        refine lv_goto (tgt := 25) hx hb dK_takePending_64 rfl ?_
        have hl := lv_sub hl [1, 2, 0] rfl
        exact b25_6 _ _ _ _ x1 hle7_x1 hE hl hP hB hS
      · have hE := hE.trans (if_neg h7)
        refine lv_aload_n hx hb dK_takePending_41 rfl (lv_at hl 0 rfl) ?_
        refine lv_dup hx hb dK_takePending_42 rfl ?_
        refine kget_0_12 hx hb hts inK hown hC hP (hts _ wK_f79) dK_takePending_43 ?_
        refine lv_iconst (v := 1) hx hb dK_takePending_46 (by decide) ?_
        refine lv_iload_n hx hb dK_takePending_47 rfl (lv_at hl 2 rfl) ?_
        refine lv_ishl hx hb dK_takePending_48 ?_
        refine lv_iconst (v := (-1)) hx hb dK_takePending_49 (by decide) ?_
        refine lv_ixor hx hb dK_takePending_50 ?_
        refine lv_iand hx hb dK_takePending_51 ?_
        refine kput_0_12 hx hb hts inK hown hC hP (hts _ wK_f79) hS dK_takePending_52 (fun σ13 H locs e13 hP hS => ?_)
        have hE := hE.trans (bd_e e13)
        have hB : KB σ13 := by rw [e13]; exact hB
        refine lv_aload_n hx hb dK_takePending_55 rfl (lv_at hl 0 rfl) ?_
        refine lv_iload_n hx hb dK_takePending_56 rfl (lv_at hl 2 rfl) ?_
        refine kcallv (rest := []) ⟨hx, hb, hml, hown, hts⟩ hC hP hB hS (c_k_take l D q cA tN σ13 5) (cwV 1 hts gK_124 rfl rfl rfl hdK_take ⟨Nat.le_of_ble_eq_true rfl, Nat.le_of_ble_eq_true rfl⟩) (krv_0 hC hP) rfl hl.1 rfl (Nat.le_of_ble_eq_true rfl) dK_takePending_57 (fun σ14 H locs e14 hP hB hS => ?_)
        have hE := hE.trans (bd_e e14)
        exact W.vret hx hb hr (fun t ht hW => ⟨⟨σ14, rfl, hE.symm, ⟨by rw [ht]; exact hP, hB⟩⟩, hS.F ht⟩) hS.2.2 dK_takePending_60
  have b25_4 : ∀ (H : Heap) (locs : List Loc) (ls : Array Slot) (σ : St) (x1 : Int32), bt0 x1 7 → k_takePending σ0 = k_takePending_25_4 σ x1 → lv_has ls 3 [(0, .ref (q 0)), (1, .int x1), (2, .int 4)] → va_P D vwCl (wsK q cA σ) H → KB σ → va_S (KA q) s.heap H locs → W p l e (headSpec wsK_takePending { frames := 4, cells := 0, slots := 0, locals := 87 }).room s m ([.ref (q 0)] : List Value).toArray below meth c H locs 0 0 (MQ below (va_Qv (fun u => u = k_takePending σ0) (KPost D q cA) (KA q)) ([.ref (q 0)] : List Value).toArray s 0 0 (KA q)) (F0 m 25 ls []) := by
    intro H locs ls σ x1 hle7_x1 hE hl hP hB hS
    refine lv_iload_n hx hb dK_takePending_25 rfl (lv_at hl 2 rfl) ?_
    refine lv_iload_n hx hb dK_takePending_26 rfl (lv_at hl 1 rfl) ?_
    refine lv_icmp_ge (tgt := 67) hx hb dK_takePending_27 rfl (fun h4 => ?_) (fun h4 => ?_)
    · have hE := hE.trans (if_pos h4)
      exact W.vret hx hb hr (fun t ht hW => ⟨⟨σ, rfl, hE.symm, ⟨by rw [ht]; exact hP, hB⟩⟩, hS.F ht⟩) hS.2.2 dK_takePending_67
    · have hE := hE.trans (if_neg h4)
      refine lv_aload_n hx hb dK_takePending_30 rfl (lv_at hl 0 rfl) ?_
      refine kget_0_12 hx hb hts inK hown hC hP (hts _ wK_f79) dK_takePending_31 ?_
      refine lv_iload_n hx hb dK_takePending_34 rfl (lv_at hl 2 rfl) ?_
      refine lv_ishr hx hb dK_takePending_35 ?_
      refine lv_iconst (v := 1) hx hb dK_takePending_36 (by decide) ?_
      refine lv_iand hx hb dK_takePending_37 ?_
      refine lv_if_eq (tgt := 61) hx hb dK_takePending_38 rfl (fun h5 => ?_) (fun h5 => ?_)
      · have hE := hE.trans (if_pos h5)
        refine lv_iinc (k := 2) (v := 5) (lv' := [(2, .int 5), (0, .ref (q 0)), (1, .int x1)]) hx hb dK_takePending_61 hl rfl (by decide) (by decide) rfl (fun ls hl => ?_)
        refine lv_goto (tgt := 25) hx hb dK_takePending_64 rfl ?_
        have hl := lv_sub hl [1, 2, 0] rfl
        exact b25_5 _ _ _ _ x1 hle7_x1 hE hl hP hB hS
      · have hE := hE.trans (if_neg h5)
        refine lv_aload_n hx hb dK_takePending_41 rfl (lv_at hl 0 rfl) ?_
        refine lv_dup hx hb dK_takePending_42 rfl ?_
        refine kget_0_12 hx hb hts inK hown hC hP (hts _ wK_f79) dK_takePending_43 ?_
        refine lv_iconst (v := 1) hx hb dK_takePending_46 (by decide) ?_
        refine lv_iload_n hx hb dK_takePending_47 rfl (lv_at hl 2 rfl) ?_
        refine lv_ishl hx hb dK_takePending_48 ?_
        refine lv_iconst (v := (-1)) hx hb dK_takePending_49 (by decide) ?_
        refine lv_ixor hx hb dK_takePending_50 ?_
        refine lv_iand hx hb dK_takePending_51 ?_
        refine kput_0_12 hx hb hts inK hown hC hP (hts _ wK_f79) hS dK_takePending_52 (fun σ15 H locs e15 hP hS => ?_)
        have hE := hE.trans (bd_e e15)
        have hB : KB σ15 := by rw [e15]; exact hB
        refine lv_aload_n hx hb dK_takePending_55 rfl (lv_at hl 0 rfl) ?_
        refine lv_iload_n hx hb dK_takePending_56 rfl (lv_at hl 2 rfl) ?_
        refine kcallv (rest := []) ⟨hx, hb, hml, hown, hts⟩ hC hP hB hS (c_k_take l D q cA tN σ15 4) (cwV 1 hts gK_124 rfl rfl rfl hdK_take ⟨Nat.le_of_ble_eq_true rfl, Nat.le_of_ble_eq_true rfl⟩) (krv_0 hC hP) rfl hl.1 rfl (Nat.le_of_ble_eq_true rfl) dK_takePending_57 (fun σ16 H locs e16 hP hB hS => ?_)
        have hE := hE.trans (bd_e e16)
        exact W.vret hx hb hr (fun t ht hW => ⟨⟨σ16, rfl, hE.symm, ⟨by rw [ht]; exact hP, hB⟩⟩, hS.F ht⟩) hS.2.2 dK_takePending_60
  have b25_3 : ∀ (H : Heap) (locs : List Loc) (ls : Array Slot) (σ : St) (x1 : Int32), bt0 x1 7 → k_takePending σ0 = k_takePending_25_3 σ x1 → lv_has ls 3 [(0, .ref (q 0)), (1, .int x1), (2, .int 3)] → va_P D vwCl (wsK q cA σ) H → KB σ → va_S (KA q) s.heap H locs → W p l e (headSpec wsK_takePending { frames := 4, cells := 0, slots := 0, locals := 87 }).room s m ([.ref (q 0)] : List Value).toArray below meth c H locs 0 0 (MQ below (va_Qv (fun u => u = k_takePending σ0) (KPost D q cA) (KA q)) ([.ref (q 0)] : List Value).toArray s 0 0 (KA q)) (F0 m 25 ls []) := by
    intro H locs ls σ x1 hle7_x1 hE hl hP hB hS
    refine lv_iload_n hx hb dK_takePending_25 rfl (lv_at hl 2 rfl) ?_
    refine lv_iload_n hx hb dK_takePending_26 rfl (lv_at hl 1 rfl) ?_
    refine lv_icmp_ge (tgt := 67) hx hb dK_takePending_27 rfl (fun h2 => ?_) (fun h2 => ?_)
    · have hE := hE.trans (if_pos h2)
      exact W.vret hx hb hr (fun t ht hW => ⟨⟨σ, rfl, hE.symm, ⟨by rw [ht]; exact hP, hB⟩⟩, hS.F ht⟩) hS.2.2 dK_takePending_67
    · have hE := hE.trans (if_neg h2)
      refine lv_aload_n hx hb dK_takePending_30 rfl (lv_at hl 0 rfl) ?_
      refine kget_0_12 hx hb hts inK hown hC hP (hts _ wK_f79) dK_takePending_31 ?_
      refine lv_iload_n hx hb dK_takePending_34 rfl (lv_at hl 2 rfl) ?_
      refine lv_ishr hx hb dK_takePending_35 ?_
      refine lv_iconst (v := 1) hx hb dK_takePending_36 (by decide) ?_
      refine lv_iand hx hb dK_takePending_37 ?_
      refine lv_if_eq (tgt := 61) hx hb dK_takePending_38 rfl (fun h3 => ?_) (fun h3 => ?_)
      · have hE := hE.trans (if_pos h3)
        refine lv_iinc (k := 2) (v := 4) (lv' := [(2, .int 4), (0, .ref (q 0)), (1, .int x1)]) hx hb dK_takePending_61 hl rfl (by decide) (by decide) rfl (fun ls hl => ?_)
        refine lv_goto (tgt := 25) hx hb dK_takePending_64 rfl ?_
        have hl := lv_sub hl [1, 2, 0] rfl
        exact b25_4 _ _ _ _ x1 hle7_x1 hE hl hP hB hS
      · have hE := hE.trans (if_neg h3)
        refine lv_aload_n hx hb dK_takePending_41 rfl (lv_at hl 0 rfl) ?_
        refine lv_dup hx hb dK_takePending_42 rfl ?_
        refine kget_0_12 hx hb hts inK hown hC hP (hts _ wK_f79) dK_takePending_43 ?_
        refine lv_iconst (v := 1) hx hb dK_takePending_46 (by decide) ?_
        refine lv_iload_n hx hb dK_takePending_47 rfl (lv_at hl 2 rfl) ?_
        refine lv_ishl hx hb dK_takePending_48 ?_
        refine lv_iconst (v := (-1)) hx hb dK_takePending_49 (by decide) ?_
        refine lv_ixor hx hb dK_takePending_50 ?_
        refine lv_iand hx hb dK_takePending_51 ?_
        refine kput_0_12 hx hb hts inK hown hC hP (hts _ wK_f79) hS dK_takePending_52 (fun σ17 H locs e17 hP hS => ?_)
        have hE := hE.trans (bd_e e17)
        have hB : KB σ17 := by rw [e17]; exact hB
        refine lv_aload_n hx hb dK_takePending_55 rfl (lv_at hl 0 rfl) ?_
        refine lv_iload_n hx hb dK_takePending_56 rfl (lv_at hl 2 rfl) ?_
        refine kcallv (rest := []) ⟨hx, hb, hml, hown, hts⟩ hC hP hB hS (c_k_take l D q cA tN σ17 3) (cwV 1 hts gK_124 rfl rfl rfl hdK_take ⟨Nat.le_of_ble_eq_true rfl, Nat.le_of_ble_eq_true rfl⟩) (krv_0 hC hP) rfl hl.1 rfl (Nat.le_of_ble_eq_true rfl) dK_takePending_57 (fun σ18 H locs e18 hP hB hS => ?_)
        have hE := hE.trans (bd_e e18)
        exact W.vret hx hb hr (fun t ht hW => ⟨⟨σ18, rfl, hE.symm, ⟨by rw [ht]; exact hP, hB⟩⟩, hS.F ht⟩) hS.2.2 dK_takePending_60
  have b22 : ∀ (H : Heap) (locs : List Loc) (ls : Array Slot) (σ : St) (y0 : Int32), bt0 y0 7 → k_takePending σ0 = k_takePending_22 σ y0 → lv_has ls 3 [(0, .ref (q 0))] → va_P D vwCl (wsK q cA σ) H → KB σ → va_S (KA q) s.heap H locs → W p l e (headSpec wsK_takePending { frames := 4, cells := 0, slots := 0, locals := 87 }).room s m ([.ref (q 0)] : List Value).toArray below meth c H locs 0 0 (MQ below (va_Qv (fun u => u = k_takePending σ0) (KPost D q cA) (KA q)) ([.ref (q 0)] : List Value).toArray s 0 0 (KA q)) (F0 m 22 ls [.int y0]) := by
    intro H locs ls σ y0 hle7_y0 hE hl hP hB hS
    refine lv_istore_n (lv' := [(1, .int y0), (0, .ref (q 0))]) hx hb dK_takePending_22 rfl hl (by decide) rfl (fun ls hl => ?_)
    refine lv_iconst (v := 3) hx hb dK_takePending_23 (by decide) ?_
    refine lv_istore_n (lv' := [(2, .int 3), (1, .int y0), (0, .ref (q 0))]) hx hb dK_takePending_24 rfl hl (by decide) rfl (fun ls hl => ?_)
    have hl := lv_sub hl [2, 1, 0] rfl
    exact b25_3 _ _ _ _ y0 hle7_y0 hE hl hP hB hS
  refine lv_aload_n hx hb dK_takePending_0 rfl (lv_at hl 0 rfl) ?_
  refine kget_0_5 hx hb hts inK hown hC hP (hts _ wK_f28) dK_takePending_1 ?_
  refine kget_6_6 hx hb hts inQ hown hC hP (hts _ wK_f73) dK_takePending_4 ?_
  refine lv_if_ne (tgt := 15) hx hb dK_takePending_7 rfl (fun h1 => ?_) (fun h1 => ?_)
  · have hE := hE.trans (if_neg h1)
    refine lv_aload_n hx hb dK_takePending_15 rfl (lv_at hl 0 rfl) ?_
    refine kget_0_5 hx hb hts inK hown hC hP (hts _ wK_f28) dK_takePending_16 ?_
    refine kget_6_6 hx hb hts inQ hown hC hP (hts _ wK_f73) dK_takePending_19 ?_
    exact b22 _ _ _ _ (σ0 6 6) hact_σ0 hE hl hP hB hS
  · have hE := hE.trans (if_pos h1)
    refine lv_bipush (v := 7) hx hb dK_takePending_10 (by decide) ?_
    refine lv_goto (tgt := 22) hx hb dK_takePending_12 rfl ?_
    exact b22 _ _ _ _ 7 (by decide) hE hl hP hB hS
set_option maxRecDepth 100000 in
set_option maxHeartbeats 4000000 in
theorem c_k_fetch (l : Launch) (D : va_G) (q : Nat → Nat) (cA : ClassId) (tN : Nat) (σ0 : St) : Met l yK_fetch wsK_fetch { frames := 0, cells := 0, slots := 0, locals := 0 } (va_Pc [.ref (q 0)] (KPre D q cA tN σ0)) (va_Qi (fun r u => (u, r) = k_fetch σ0) (KPost D q cA) (KA q)) 0 0 (KA q) := by
  refine Met.ofW (cc := cK_fetch) (maxL := 3) (ret := (some .int)) (by decide) rfl ?_
  intro p e s m args below meth c s₁ B hml hv
  obtain ⟨rfl, hP, hB, hC⟩ := hv
  have hx := B.exec
  have hb := B.bytes
  have hr := B.returns
  have hts : ∀ w ∈ gw, w.before ([.ref (q 0)] : List Value).toArray s = true := fun w h => atoms_spec (ws := wsK_fetch) B.pre w (List.mem_cons_of_mem _ h)
  have hown : s.vm.findClass RK = some m.cls := findClass_of_methodNamed B.named
  have hlocks := B.notSynchronized
  have hS : va_S (KA q) s.heap s.heap [] := va_S.rf
  have hl := lv_entry ([.ref (q 0)]) (n := 3) (Nat.le_of_ble_eq_true rfl)
  rw [lg_entry_eq]
  generalize (lg_sl ([.ref (q 0)]) ++ List.replicate (3 - (lg_sl ([.ref (q 0)])).length) Slot.unset).toArray = ls at hl ⊢
  have hl : lv_has ls 3 [(0, .ref (q 0))] := hl
  have hE : k_fetch σ0 = k_fetch σ0 := rfl
  have b107 : ∀ (H : Heap) (locs : List Loc) (ls : Array Slot) (σ : St) (x1 : Int32), k_fetch σ0 = k_fetch_107 σ x1 → lv_has ls 3 [(1, .int x1)] → va_P D vwCl (wsK q cA σ) H → KB σ → va_S (KA q) s.heap H locs → W p l e (headSpec wsK_fetch { frames := 0, cells := 0, slots := 0, locals := 0 }).room s m ([.ref (q 0)] : List Value).toArray below meth c H locs 0 0 (MQ below (va_Qi (fun r u => (u, r) = k_fetch σ0) (KPost D q cA) (KA q)) ([.ref (q 0)] : List Value).toArray s 0 0 (KA q)) (F0 m 107 ls []) := by
    intro H locs ls σ x1 hE hl hP hB hS
    refine lv_iload_n hx hb dK_fetch_107 rfl (lv_at hl 0 rfl) ?_
    exact W.iret (v := x1) hx hb hr (fun t ht hW => ⟨⟨x1, σ, rfl, hE.symm, ⟨by rw [ht]; exact hP, hB⟩⟩, hS.F ht⟩) hS.2.2 dK_fetch_108
  have b97 : ∀ (H : Heap) (locs : List Loc) (ls : Array Slot) (σ : St) (x1 : Int32) (x2 : Int32), k_fetch σ0 = k_fetch_97 σ x1 x2 → lv_has ls 3 [(0, .ref (q 0)), (1, .int x1), (2, .int x2)] → va_P D vwCl (wsK q cA σ) H → KB σ → va_S (KA q) s.heap H locs → W p l e (headSpec wsK_fetch { frames := 0, cells := 0, slots := 0, locals := 0 }).room s m ([.ref (q 0)] : List Value).toArray below meth c H locs 0 0 (MQ below (va_Qi (fun r u => (u, r) = k_fetch σ0) (KPost D q cA) (KA q)) ([.ref (q 0)] : List Value).toArray s 0 0 (KA q)) (F0 m 97 ls []) := by
    intro H locs ls σ x1 x2 hE hl hP hB hS
    refine lv_iload_n hx hb dK_fetch_97 rfl (lv_at hl 2 rfl) ?_
    refine lv_iconst (v := 1) hx hb dK_fetch_98 (by decide) ?_
    refine lv_icmp_eq (tgt := 107) hx hb dK_fetch_99 rfl (fun h4 => ?_) (fun h4 => ?_)
    · have hE := hE.trans (if_pos h4)
      have hl := lv_sub hl [1] rfl
      exact b107 _ _ _ _ x1 hE hl hP hB hS
    · have hE := hE.trans (if_neg h4)
      refine lv_aload_n hx hb dK_fetch_102 rfl (lv_at hl 0 rfl) ?_
      refine lv_iconst (v := 2) hx hb dK_fetch_103 (by decide) ?_
      refine kput_0_14 hx hb hts inK hown hC hP (hts _ wK_f101) hS dK_fetch_104 (fun σ5 H locs e5 hP hS => ?_)
      have hE := hE.trans (bd_e e5)
      have hB : KB σ5 := by rw [e5]; exact hB
      have hl := lv_sub hl [1] rfl
      exact b107 _ _ _ _ x1 hE hl hP hB hS
  refine lv_aload_n hx hb dK_fetch_0 rfl (lv_at hl 0 rfl) ?_
  refine kget_0_0 hx hb hts inK hown hC hP (hts _ wK_f9) dK_fetch_1 ?_
  refine lv_aload_n hx hb dK_fetch_4 rfl (lv_at hl 0 rfl) ?_
  refine kget_0_5 hx hb hts inK hown hC hP (hts _ wK_f28) dK_fetch_5 ?_
  refine kget_6_3 hx hb hts inQ hown hC hP (hts _ wK_f61) dK_fetch_8 ?_
  refine lv_sipush (v := 255) hx hb dK_fetch_11 (by decide) ?_
  refine lv_iand hx hb dK_fetch_14 ?_
  refine kald_1 hx hb hC hP (vin_m 8 (by decide) (by decide) (by decide)) dK_fetch_15 ?_
  refine lv_istore_n (lv' := [(1, .int (σ0 1 (ix ((σ0 6 3) &&& 255)))), (0, .ref (q 0))]) hx hb dK_fetch_16 rfl hl (by decide) rfl (fun ls hl => ?_)
  refine lv_aload_n hx hb dK_fetch_17 rfl (lv_at hl 1 rfl) ?_
  refine kget_0_1 hx hb hts inK hown hC hP (hts _ wK_f13) dK_fetch_18 ?_
  refine lv_aload_n hx hb dK_fetch_21 rfl (lv_at hl 1 rfl) ?_
  refine kget_0_5 hx hb hts inK hown hC hP (hts _ wK_f28) dK_fetch_22 ?_
  refine kget_6_3 hx hb hts inQ hown hC hP (hts _ wK_f61) dK_fetch_25 ?_
  refine lv_sipush (v := 255) hx hb dK_fetch_28 (by decide) ?_
  refine lv_iand hx hb dK_fetch_31 ?_
  refine kald_2 hx hb hC hP (vin_m 8 (by decide) (by decide) (by decide)) dK_fetch_32 ?_
  refine lv_istore_n (lv' := [(2, .int (σ0 2 (ix ((σ0 6 3) &&& 255)))), (1, .int (σ0 1 (ix ((σ0 6 3) &&& 255)))), (0, .ref (q 0))]) hx hb dK_fetch_33 rfl hl (by decide) rfl (fun ls hl => ?_)
  refine lv_aload_n hx hb dK_fetch_34 rfl (lv_at hl 2 rfl) ?_
  refine kget_0_5 hx hb hts inK hown hC hP (hts _ wK_f28) dK_fetch_35 ?_
  refine kget_6_5 hx hb hts inQ hown hC hP (hts _ wK_f64) dK_fetch_38 ?_
  have z1 : zb (σ0 6 5) := KB_6_5 hB
  refine lv_if_ne (tgt := 57) hx hb dK_fetch_41 rfl (fun h2 => ?_) (fun h2 => ?_)
  · have hE := hE.trans (if_neg h2)
    refine lv_iload_n hx hb dK_fetch_57 rfl (lv_at hl 0 rfl) ?_
    refine lv_iconst (v := 2) hx hb dK_fetch_58 (by decide) ?_
    refine lv_icmp_ne (tgt := 97) hx hb dK_fetch_59 rfl (fun h3 => ?_) (fun h3 => ?_)
    · have hE := hE.trans (if_neg h3)
      have hl := lv_sub hl [2, 1, 0] rfl
      exact b97 _ _ _ _ (σ0 1 (ix ((σ0 6 3) &&& 255))) (σ0 2 (ix ((σ0 6 3) &&& 255))) hE hl hP hB hS
    · have hE := hE.trans (if_pos h3)
      refine lv_iload_n hx hb dK_fetch_62 rfl (lv_at hl 1 rfl) ?_
      refine lv_bipush (v := 12) hx hb dK_fetch_63 (by decide) ?_
      refine lv_ishr hx hb dK_fetch_65 ?_
      refine lv_bipush (v := 10) hx hb dK_fetch_66 (by decide) ?_
      refine lv_icmp_ne (tgt := 97) hx hb dK_fetch_68 rfl (fun h6 => ?_) (fun h6 => ?_)
      · have hE := hE.trans (if_neg h6)
        have hl := lv_sub hl [2, 1, 0] rfl
        exact b97 _ _ _ _ (σ0 1 (ix ((σ0 6 3) &&& 255))) (σ0 2 (ix ((σ0 6 3) &&& 255))) hE hl hP hB hS
      · have hE := hE.trans (if_pos h6)
        refine lv_aload_n hx hb dK_fetch_71 rfl (lv_at hl 2 rfl) ?_
        refine kget_0_5 hx hb hts inK hown hC hP (hts _ wK_f28) dK_fetch_72 ?_
        refine lv_iconst (v := 0) hx hb dK_fetch_75 (by decide) ?_
        refine kput_6_5 hx hb hts inQ hown hC hP (hts _ wK_f64) hS (by decide) dK_fetch_76 (fun σ7 H locs e7 hP hS => ?_)
        have hE := hE.trans (bd_e e7)
        have hB : KB σ7 := by rw [e7]; exact KB_6_5s hB (by decide)
        refine lv_aload_n hx hb dK_fetch_79 rfl (lv_at hl 2 rfl) ?_
        refine kget_0_5 hx hb hts inK hown hC hP (hts _ wK_f28) dK_fetch_80 ?_
        refine kget_6_0 hx hb hts inQ hown hC hP (hts _ wK_f82) dK_fetch_83 ?_
        refine lv_bipush (v := 6) hx hb dK_fetch_86 (by decide) ?_
        refine lv_dup2_11 hx hb dK_fetch_88 rfl rfl ?_
        refine kald_8 hx hb hC hP (vin_c (by decide)) dK_fetch_89 ?_
        refine lv_ldc (v := 32768) hx hb hown (hts _ wK_c127) dK_fetch_90 ?_
        refine lv_ior hx hb dK_fetch_92 ?_
        refine kast_8 hx hb hC hP hS (vin_c (by decide)) dK_fetch_93 (fun σ8 H locs e8 hP hS => ?_)
        have hE := hE.trans (bd_e e8)
        have hB : KB σ8 := by rw [e8]; exact hB
        refine lv_goto (tgt := 107) hx hb dK_fetch_94 rfl ?_
        have hl := lv_sub hl [1] rfl
        exact b107 _ _ _ _ (σ0 1 (ix ((σ0 6 3) &&& 255))) hE hl hP hB hS
  · have hE := hE.trans (if_pos h2)
    refine lv_iload_n hx hb dK_fetch_44 rfl (lv_at hl 0 rfl) ?_
    refine lv_iconst (v := 1) hx hb dK_fetch_45 (by decide) ?_
    refine lv_icmp_ne (tgt := 107) hx hb dK_fetch_46 rfl (fun h9 => ?_) (fun h9 => ?_)
    · have hE := hE.trans (if_neg h9)
      have hl := lv_sub hl [1] rfl
      exact b107 _ _ _ _ (σ0 1 (ix ((σ0 6 3) &&& 255))) hE hl hP hB hS
    · have hE := hE.trans (if_pos h9)
      refine lv_aload_n hx hb dK_fetch_49 rfl (lv_at hl 2 rfl) ?_
      refine lv_iconst (v := 2) hx hb dK_fetch_50 (by decide) ?_
      refine kput_0_14 hx hb hts inK hown hC hP (hts _ wK_f101) hS dK_fetch_51 (fun σ10 H locs e10 hP hS => ?_)
      have hE := hE.trans (bd_e e10)
      have hB : KB σ10 := by rw [e10]; exact hB
      refine lv_goto (tgt := 107) hx hb dK_fetch_54 rfl ?_
      have hl := lv_sub hl [1] rfl
      exact b107 _ _ _ _ (σ0 1 (ix ((σ0 6 3) &&& 255))) hE hl hP hB hS
set_option maxRecDepth 100000 in
set_option maxHeartbeats 4000000 in
theorem c_k_answerFault (l : Launch) (D : va_G) (q : Nat → Nat) (cA : ClassId) (tN : Nat) (σ0 : St) : Met l yK_answerFault wsK_answerFault { frames := 4, cells := 0, slots := 0, locals := 87 } (va_Pc [.ref (q 0)] (KPre D q cA tN σ0)) (va_Qv (fun u => u = k_answerFault σ0) (KPost D q cA) (KA q)) 0 0 (KA q) := by
  refine Met.ofW (cc := cK_answerFault) (maxL := 2) (ret := none) (by decide) rfl ?_
  intro p e s m args below meth c s₁ B hml hv
  obtain ⟨rfl, hP, hB, hC⟩ := hv
  have hx := B.exec
  have hb := B.bytes
  have hr := B.returns
  have hts : ∀ w ∈ gw, w.before ([.ref (q 0)] : List Value).toArray s = true := fun w h => atoms_spec (ws := wsK_answerFault) B.pre w (List.mem_cons_of_mem _ h)
  have hown : s.vm.findClass RK = some m.cls := findClass_of_methodNamed B.named
  have hlocks := B.notSynchronized
  have hS : va_S (KA q) s.heap s.heap [] := va_S.rf
  have hl := lv_entry ([.ref (q 0)]) (n := 2) (Nat.le_of_ble_eq_true rfl)
  rw [lg_entry_eq]
  generalize (lg_sl ([.ref (q 0)]) ++ List.replicate (2 - (lg_sl ([.ref (q 0)])).length) Slot.unset).toArray = ls at hl ⊢
  have hl : lv_has ls 2 [(0, .ref (q 0))] := hl
  have hE : k_answerFault σ0 = k_answerFault σ0 := rfl
  have b67 : ∀ (H : Heap) (locs : List Loc) (ls : Array Slot) (σ : St), k_answerFault σ0 = k_answerFault_67 σ → lv_has ls 2 [] → va_P D vwCl (wsK q cA σ) H → KB σ → va_S (KA q) s.heap H locs → W p l e (headSpec wsK_answerFault { frames := 4, cells := 0, slots := 0, locals := 87 }).room s m ([.ref (q 0)] : List Value).toArray below meth c H locs 0 0 (MQ below (va_Qv (fun u => u = k_answerFault σ0) (KPost D q cA) (KA q)) ([.ref (q 0)] : List Value).toArray s 0 0 (KA q)) (F0 m 67 ls []) := by
    intro H locs ls σ hE hl hP hB hS
    exact W.vret hx hb hr (fun t ht hW => ⟨⟨σ, rfl, hE.symm, ⟨by rw [ht]; exact hP, hB⟩⟩, hS.F ht⟩) hS.2.2 dK_answerFault_67
  have b54 : ∀ (H : Heap) (locs : List Loc) (ls : Array Slot) (σ : St), k_answerFault σ0 = k_answerFault_54 σ → lv_has ls 2 [(0, .ref (q 0))] → va_P D vwCl (wsK q cA σ) H → KB σ → va_S (KA q) s.heap H locs → W p l e (headSpec wsK_answerFault { frames := 4, cells := 0, slots := 0, locals := 87 }).room s m ([.ref (q 0)] : List Value).toArray below meth c H locs 0 0 (MQ below (va_Qv (fun u => u = k_answerFault σ0) (KPost D q cA) (KA q)) ([.ref (q 0)] : List Value).toArray s 0 0 (KA q)) (F0 m 54 ls []) := by
    intro H locs ls σ hE hl hP hB hS
    refine lv_aload_n hx hb dK_answerFault_54 rfl (lv_at hl 0 rfl) ?_
    refine lv_iconst (v := 2) hx hb dK_answerFault_55 (by decide) ?_
    refine kput_0_11 hx hb hts inK hown hC hP (hts _ wK_f76) hS dK_answerFault_56 (fun σ5 H locs e5 hP hS => ?_)
    have hE := hE.trans (bd_e e5)
    have hB : KB σ5 := by rw [e5]; exact hB
    refine lv_goto (tgt := 67) hx hb dK_answerFault_59 rfl ?_
    have hl := lv_sub hl [] rfl
    exact b67 _ _ _ _ hE hl hP hB hS
  have b62 : ∀ (H : Heap) (locs : List Loc) (ls : Array Slot) (σ : St) (x1 : Int32), k_answerFault σ0 = k_answerFault_62 σ x1 → lv_has ls 2 [(0, .ref (q 0)), (1, .int x1)] → va_P D vwCl (wsK q cA σ) H → KB σ → va_S (KA q) s.heap H locs → W p l e (headSpec wsK_answerFault { frames := 4, cells := 0, slots := 0, locals := 87 }).room s m ([.ref (q 0)] : List Value).toArray below meth c H locs 0 0 (MQ below (va_Qv (fun u => u = k_answerFault σ0) (KPost D q cA) (KA q)) ([.ref (q 0)] : List Value).toArray s 0 0 (KA q)) (F0 m 62 ls []) := by
    intro H locs ls σ x1 hE hl hP hB hS
    refine lv_aload_n hx hb dK_answerFault_62 rfl (lv_at hl 0 rfl) ?_
    refine lv_iload_n hx hb dK_answerFault_63 rfl (lv_at hl 1 rfl) ?_
    refine kcallv (rest := []) ⟨hx, hb, hml, hown, hts⟩ hC hP hB hS (c_k_take l D q cA tN σ x1) (cwV 1 hts gK_124 rfl rfl rfl hdK_take ⟨Nat.le_of_ble_eq_true rfl, Nat.le_of_ble_eq_true rfl⟩) (krv_0 hC hP) rfl hl.1 rfl (Nat.le_of_ble_eq_true rfl) dK_answerFault_64 (fun σ7 H locs e7 hP hB hS => ?_)
    have hE := hE.trans (bd_e e7)
    have hl := lv_sub hl [] rfl
    exact b67 _ _ _ _ hE hl hP hB hS
  have b26 : ∀ (H : Heap) (locs : List Loc) (ls : Array Slot) (σ : St) (y0 : Int32), k_answerFault σ0 = k_answerFault_26 σ y0 → lv_has ls 2 [(0, .ref (q 0))] → va_P D vwCl (wsK q cA σ) H → KB σ → va_S (KA q) s.heap H locs → W p l e (headSpec wsK_answerFault { frames := 4, cells := 0, slots := 0, locals := 87 }).room s m ([.ref (q 0)] : List Value).toArray below meth c H locs 0 0 (MQ below (va_Qv (fun u => u = k_answerFault σ0) (KPost D q cA) (KA q)) ([.ref (q 0)] : List Value).toArray s 0 0 (KA q)) (F0 m 26 ls [.int y0]) := by
    intro H locs ls σ y0 hE hl hP hB hS
    refine lv_istore_n (lv' := [(1, .int y0), (0, .ref (q 0))]) hx hb dK_answerFault_26 rfl hl (by decide) rfl (fun ls hl => ?_)
    refine lv_aload_n hx hb dK_answerFault_27 rfl (lv_at hl 1 rfl) ?_
    refine kget_0_5 hx hb hts inK hown hC hP (hts _ wK_f28) dK_answerFault_28 ?_
    refine kget_6_6 hx hb hts inQ hown hC hP (hts _ wK_f73) dK_answerFault_31 ?_
    refine lv_iconst (v := 1) hx hb dK_answerFault_34 (by decide) ?_
    refine lv_icmp_eq (tgt := 54) hx hb dK_answerFault_35 rfl (fun h4 => ?_) (fun h4 => ?_)
    · have hE := hE.trans (if_pos h4)
      have hl := lv_sub hl [1] rfl
      exact b54 _ _ _ _ hE hl hP hB hS
    · have hE := hE.trans (if_neg h4)
      refine lv_aload_n hx hb dK_answerFault_38 rfl (lv_at hl 1 rfl) ?_
      refine kget_0_5 hx hb hts inK hown hC hP (hts _ wK_f28) dK_answerFault_39 ?_
      refine kget_6_6 hx hb hts inQ hown hC hP (hts _ wK_f73) dK_answerFault_42 ?_
      refine lv_iconst (v := 2) hx hb dK_answerFault_45 (by decide) ?_
      refine lv_icmp_ne (tgt := 62) hx hb dK_answerFault_46 rfl (fun h6 => ?_) (fun h6 => ?_)
      · have hE := hE.trans (if_neg h6)
        have hl := lv_sub hl [1, 0] rfl
        exact b62 _ _ _ _ y0 hE hl hP hB hS
      · have hE := hE.trans (if_pos h6)
        refine lv_iload_n hx hb dK_answerFault_49 rfl (lv_at hl 0 rfl) ?_
        refine lv_iconst (v := 2) hx hb dK_answerFault_50 (by decide) ?_
        refine lv_icmp_ne (tgt := 62) hx hb dK_answerFault_51 rfl (fun h8 => ?_) (fun h8 => ?_)
        · have hE := hE.trans (if_neg h8)
          have hl := lv_sub hl [1, 0] rfl
          exact b62 _ _ _ _ y0 hE hl hP hB hS
        · have hE := hE.trans (if_pos h8)
          have hl := lv_sub hl [1] rfl
          exact b54 _ _ _ _ hE hl hP hB hS
  refine lv_aload_n hx hb dK_answerFault_0 rfl (lv_at hl 0 rfl) ?_
  refine kget_0_5 hx hb hts inK hown hC hP (hts _ wK_f28) dK_answerFault_1 ?_
  refine lv_aload_n hx hb dK_answerFault_4 rfl (lv_at hl 0 rfl) ?_
  refine kget_0_6 hx hb hts inK hown hC hP (hts _ wK_f32) dK_answerFault_5 ?_
  refine kcallv (rest := []) ⟨hx, hb, hml, hown, hts⟩ hC hP hB hS (c_k_copy_67 l D q cA tN σ0) (cwV 1 hts gK_97 rfl rfl rfl hdQ_copy ⟨Nat.le_of_ble_eq_true rfl, Nat.le_of_ble_eq_true rfl⟩) (krv_6 hC hP) rfl hl.1 rfl (Nat.le_of_ble_eq_true rfl) dK_answerFault_8 (fun σ1 H locs e1 hP hB hS => ?_)
  have hE := hE.trans (bd_e e1)
  refine lv_aload_n hx hb dK_answerFault_11 rfl (lv_at hl 0 rfl) ?_
  refine kget_0_7 hx hb hts inK hown hC hP (hts _ wK_f35) dK_answerFault_12 ?_
  have z2 : zb (σ1 0 7) := KB_0_7 hB
  refine lv_if_eq (tgt := 25) hx hb dK_answerFault_15 rfl (fun h3 => ?_) (fun h3 => ?_)
  · have hE := hE.trans (if_pos h3)
    refine lv_iconst (v := 1) hx hb dK_answerFault_25 (by decide) ?_
    exact b26 _ _ _ _ 1 hE hl hP hB hS
  · have hE := hE.trans (if_neg h3)
    refine lv_aload_n hx hb dK_answerFault_18 rfl (lv_at hl 0 rfl) ?_
    refine kget_0_14 hx hb hts inK hown hC hP (hts _ wK_f101) dK_answerFault_19 ?_
    refine lv_goto (tgt := 26) hx hb dK_answerFault_22 rfl ?_
    exact b26 _ _ _ _ (σ1 0 14) hE hl hP hB hS
end
section
set_option maxRecDepth 100000 in
set_option maxHeartbeats 4000000 in
theorem c_k_call (l : Launch) (D : va_G) (q : Nat → Nat) (cA : ClassId) (tN : Nat) (σ0 : St) (a1 : Int32) : Met l yK_call wsK_call { frames := 1, cells := 0, slots := 0, locals := 21 } (va_Pc [.ref (q 0), .int a1] (KPre D q cA tN σ0)) (va_Qv (fun u => u = k_call σ0 a1) (KPost D q cA) (KA q)) 0 0 (KA q) := by
  refine Met.ofW (cc := cK_call) (maxL := 2) (ret := none) (by decide) rfl ?_
  intro p e s m args below meth c s₁ B hml hv
  obtain ⟨rfl, hP, hB, hC⟩ := hv
  have hx := B.exec
  have hb := B.bytes
  have hr := B.returns
  have hts : ∀ w ∈ gw, w.before ([.ref (q 0), .int a1] : List Value).toArray s = true := fun w h => atoms_spec (ws := wsK_call) B.pre w (List.mem_cons_of_mem _ h)
  have hown : s.vm.findClass RK = some m.cls := findClass_of_methodNamed B.named
  have hlocks := B.notSynchronized
  have hS : va_S (KA q) s.heap s.heap [] := va_S.rf
  have hl := lv_entry ([.ref (q 0), .int a1]) (n := 2) (Nat.le_of_ble_eq_true rfl)
  rw [lg_entry_eq]
  generalize (lg_sl ([.ref (q 0), .int a1]) ++ List.replicate (2 - (lg_sl ([.ref (q 0), .int a1])).length) Slot.unset).toArray = ls at hl ⊢
  have hl : lv_has ls 2 [(0, .ref (q 0)), (1, .int a1)] := hl
  have hE : k_call σ0 a1 = k_call σ0 a1 := rfl
  refine lv_aload_n hx hb dK_call_0 rfl (lv_at hl 0 rfl) ?_
  refine kget_0_5 hx hb hts inK hown hC hP (hts _ wK_f28) dK_call_1 ?_
  refine kget_6_0 hx hb hts inQ hown hC hP (hts _ wK_f82) dK_call_4 ?_
  refine lv_bipush (v := 6) hx hb dK_call_7 (by decide) ?_
  refine lv_aload_n hx hb dK_call_9 rfl (lv_at hl 0 rfl) ?_
  refine kget_0_5 hx hb hts inK hown hC hP (hts _ wK_f28) dK_call_10 ?_
  refine kget_6_3 hx hb hts inQ hown hC hP (hts _ wK_f61) dK_call_13 ?_
  refine kast_8 hx hb hC hP hS (vin_c (by decide)) dK_call_16 (fun σ1 H locs e1 hP hS => ?_)
  have hE := hE.trans (bd_e e1)
  have hB : KB σ1 := by rw [e1]; exact hB
  refine lv_aload_n hx hb dK_call_17 rfl (lv_at hl 0 rfl) ?_
  refine lv_iload_n hx hb dK_call_18 rfl (lv_at hl 1 rfl) ?_
  refine kcallv (rest := []) ⟨hx, hb, hml, hown, hts⟩ hC hP hB hS (c_k_goTo l D q cA tN σ1 a1) (cwV 1 hts gK_111 rfl rfl rfl hdK_goTo ⟨Nat.le_of_ble_eq_true rfl, Nat.le_of_ble_eq_true rfl⟩) (krv_0 hC hP) rfl hl.1 rfl (Nat.le_of_ble_eq_true rfl) dK_call_19 (fun σ2 H locs e2 hP hB hS => ?_)
  have hE := hE.trans (bd_e e2)
  exact W.vret hx hb hr (fun t ht hW => ⟨⟨σ2, rfl, hE.symm, ⟨by rw [ht]; exact hP, hB⟩⟩, hS.F ht⟩) hS.2.2 dK_call_22
set_option maxRecDepth 100000 in
set_option maxHeartbeats 4000000 in
theorem c_k_goOut (l : Launch) (D : va_G) (q : Nat → Nat) (cA : ClassId) (tN : Nat) (σ0 : St) (a1 : Int32) : Met l yK_goOut wsK_goOut { frames := 1, cells := 0, slots := 0, locals := 21 } (va_Pc [.ref (q 0), .int a1] (KPre D q cA tN σ0)) (va_Qv (fun u => u = k_goOut σ0 a1) (KPost D q cA) (KA q)) 0 0 (KA q) := by
  refine Met.ofW (cc := cK_goOut) (maxL := 2) (ret := none) (by decide) rfl ?_
  intro p e s m args below meth c s₁ B hml hv
  obtain ⟨rfl, hP, hB, hC⟩ := hv
  have hx := B.exec
  have hb := B.bytes
  have hr := B.returns
  have hts : ∀ w ∈ gw, w.before ([.ref (q 0), .int a1] : List Value).toArray s = true := fun w h => atoms_spec (ws := wsK_goOut) B.pre w (List.mem_cons_of_mem _ h)
  have hown : s.vm.findClass RK = some m.cls := findClass_of_methodNamed B.named
  have hlocks := B.notSynchronized
  have hS : va_S (KA q) s.heap s.heap [] := va_S.rf
  have hl := lv_entry ([.ref (q 0), .int a1]) (n := 2) (Nat.le_of_ble_eq_true rfl)
  rw [lg_entry_eq]
  generalize (lg_sl ([.ref (q 0), .int a1]) ++ List.replicate (2 - (lg_sl ([.ref (q 0), .int a1])).length) Slot.unset).toArray = ls at hl ⊢
  have hl : lv_has ls 2 [(0, .ref (q 0)), (1, .int a1)] := hl
  have hE : k_goOut σ0 a1 = k_goOut σ0 a1 := rfl
  refine lv_aload_n hx hb dK_goOut_0 rfl (lv_at hl 0 rfl) ?_
  refine kget_0_5 hx hb hts inK hown hC hP (hts _ wK_f28) dK_goOut_1 ?_
  refine lv_iconst (v := 1) hx hb dK_goOut_4 (by decide) ?_
  refine kput_6_5 hx hb hts inQ hown hC hP (hts _ wK_f64) hS (by decide) dK_goOut_5 (fun σ1 H locs e1 hP hS => ?_)
  have hE := hE.trans (bd_e e1)
  have hB : KB σ1 := by rw [e1]; exact KB_6_5s hB (by decide)
  refine lv_aload_n hx hb dK_goOut_8 rfl (lv_at hl 0 rfl) ?_
  refine lv_iload_n hx hb dK_goOut_9 rfl (lv_at hl 1 rfl) ?_
  refine kcallv (rest := []) ⟨hx, hb, hml, hown, hts⟩ hC hP hB hS (c_k_goTo l D q cA tN σ1 a1) (cwV 1 hts gK_111 rfl rfl rfl hdK_goTo ⟨Nat.le_of_ble_eq_true rfl, Nat.le_of_ble_eq_true rfl⟩) (krv_0 hC hP) rfl hl.1 rfl (Nat.le_of_ble_eq_true rfl) dK_goOut_10 (fun σ2 H locs e2 hP hB hS => ?_)
  have hE := hE.trans (bd_e e2)
  exact W.vret hx hb hr (fun t ht hW => ⟨⟨σ2, rfl, hE.symm, ⟨by rw [ht]; exact hP, hB⟩⟩, hS.F ht⟩) hS.2.2 dK_goOut_13
set_option maxRecDepth 100000 in
set_option maxHeartbeats 4000000 in
theorem c_k_callOut (l : Launch) (D : va_G) (q : Nat → Nat) (cA : ClassId) (tN : Nat) (σ0 : St) (a1 : Int32) : Met l yK_callOut wsK_callOut { frames := 2, cells := 0, slots := 0, locals := 45 } (va_Pc [.ref (q 0), .int a1] (KPre D q cA tN σ0)) (va_Qv (fun u => u = k_callOut σ0 a1) (KPost D q cA) (KA q)) 0 0 (KA q) := by
  refine Met.ofW (cc := cK_callOut) (maxL := 2) (ret := none) (by decide) rfl ?_
  intro p e s m args below meth c s₁ B hml hv
  obtain ⟨rfl, hP, hB, hC⟩ := hv
  have hx := B.exec
  have hb := B.bytes
  have hr := B.returns
  have hts : ∀ w ∈ gw, w.before ([.ref (q 0), .int a1] : List Value).toArray s = true := fun w h => atoms_spec (ws := wsK_callOut) B.pre w (List.mem_cons_of_mem _ h)
  have hown : s.vm.findClass RK = some m.cls := findClass_of_methodNamed B.named
  have hlocks := B.notSynchronized
  have hS : va_S (KA q) s.heap s.heap [] := va_S.rf
  have hl := lv_entry ([.ref (q 0), .int a1]) (n := 2) (Nat.le_of_ble_eq_true rfl)
  rw [lg_entry_eq]
  generalize (lg_sl ([.ref (q 0), .int a1]) ++ List.replicate (2 - (lg_sl ([.ref (q 0), .int a1])).length) Slot.unset).toArray = ls at hl ⊢
  have hl : lv_has ls 2 [(0, .ref (q 0)), (1, .int a1)] := hl
  have hE : k_callOut σ0 a1 = k_callOut σ0 a1 := rfl
  refine lv_aload_n hx hb dK_callOut_0 rfl (lv_at hl 0 rfl) ?_
  refine lv_aload_n hx hb dK_callOut_1 rfl (lv_at hl 0 rfl) ?_
  refine kget_0_5 hx hb hts inK hown hC hP (hts _ wK_f28) dK_callOut_2 ?_
  refine kget_6_3 hx hb hts inQ hown hC hP (hts _ wK_f61) dK_callOut_5 ?_
  refine kcallv (rest := []) ⟨hx, hb, hml, hown, hts⟩ hC hP hB hS (c_k_push l D q cA tN σ0 (σ0 6 3)) (cwV 1 hts gK_138 rfl rfl rfl hdK_push ⟨Nat.le_of_ble_eq_true rfl, Nat.le_of_ble_eq_true rfl⟩) (krv_0 hC hP) rfl hl.1 rfl (Nat.le_of_ble_eq_true rfl) dK_callOut_8 (fun σ1 H locs e1 hP hB hS => ?_)
  have hE := hE.trans (bd_e e1)
  refine lv_aload_n hx hb dK_callOut_11 rfl (lv_at hl 0 rfl) ?_
  refine lv_sipush (v := 4096) hx hb dK_callOut_12 (by decide) ?_
  refine kcallv (rest := []) ⟨hx, hb, hml, hown, hts⟩ hC hP hB hS (c_k_push l D q cA tN σ1 4096) (cwV 1 hts gK_138 rfl rfl rfl hdK_push ⟨Nat.le_of_ble_eq_true rfl, Nat.le_of_ble_eq_true rfl⟩) (krv_0 hC hP) rfl hl.1 rfl (Nat.le_of_ble_eq_true rfl) dK_callOut_15 (fun σ2 H locs e2 hP hB hS => ?_)
  have hE := hE.trans (bd_e e2)
  refine lv_aload_n hx hb dK_callOut_18 rfl (lv_at hl 0 rfl) ?_
  refine kget_0_5 hx hb hts inK hown hC hP (hts _ wK_f28) dK_callOut_19 ?_
  refine kget_6_0 hx hb hts inQ hown hC hP (hts _ wK_f82) dK_callOut_22 ?_
  refine lv_bipush (v := 6) hx hb dK_callOut_25 (by decide) ?_
  refine lv_ldc (v := 65520) hx hb hown (hts _ wK_c156) dK_callOut_27 ?_
  refine kast_8 hx hb hC hP hS (vin_c (by decide)) dK_callOut_29 (fun σ3 H locs e3 hP hS => ?_)
  have hE := hE.trans (bd_e e3)
  have hB : KB σ3 := by rw [e3]; exact hB
  refine lv_aload_n hx hb dK_callOut_30 rfl (lv_at hl 0 rfl) ?_
  refine lv_iload_n hx hb dK_callOut_31 rfl (lv_at hl 1 rfl) ?_
  refine kcallv (rest := []) ⟨hx, hb, hml, hown, hts⟩ hC hP hB hS (c_k_goOut l D q cA tN σ3 a1) (cwV 1 hts gK_147 rfl rfl rfl hdK_goOut ⟨Nat.le_of_ble_eq_true rfl, Nat.le_of_ble_eq_true rfl⟩) (krv_0 hC hP) rfl hl.1 rfl (Nat.le_of_ble_eq_true rfl) dK_callOut_32 (fun σ4 H locs e4 hP hB hS => ?_)
  have hE := hE.trans (bd_e e4)
  exact W.vret hx hb hr (fun t ht hW => ⟨⟨σ4, rfl, hE.symm, ⟨by rw [ht]; exact hP, hB⟩⟩, hS.F ht⟩) hS.2.2 dK_callOut_35
set_option maxRecDepth 100000 in
set_option maxHeartbeats 4000000 in
theorem c_k_read (l : Launch) (D : va_G) (q : Nat → Nat) (cA : ClassId) (tN : Nat) (σ0 : St) (a1 : Int32) : Met l yK_read wsK_read { frames := 0, cells := 0, slots := 0, locals := 0 } (va_Pc [.ref (q 0), .int a1] (KPre D q cA tN σ0)) (va_Qi (fun r u => (u, r) = k_read σ0 a1) (KPost D q cA) (KA q)) 0 0 (KA q) := by
  refine Met.ofW (cc := cK_read) (maxL := 3) (ret := (some .int)) (by decide) rfl ?_
  intro p e s m args below meth c s₁ B hml hv
  obtain ⟨rfl, hP, hB, hC⟩ := hv
  have hx := B.exec
  have hb := B.bytes
  have hr := B.returns
  have hts : ∀ w ∈ gw, w.before ([.ref (q 0), .int a1] : List Value).toArray s = true := fun w h => atoms_spec (ws := wsK_read) B.pre w (List.mem_cons_of_mem _ h)
  have hown : s.vm.findClass RK = some m.cls := findClass_of_methodNamed B.named
  have hlocks := B.notSynchronized
  have hS : va_S (KA q) s.heap s.heap [] := va_S.rf
  have hl := lv_entry ([.ref (q 0), .int a1]) (n := 3) (Nat.le_of_ble_eq_true rfl)
  rw [lg_entry_eq]
  generalize (lg_sl ([.ref (q 0), .int a1]) ++ List.replicate (3 - (lg_sl ([.ref (q 0), .int a1])).length) Slot.unset).toArray = ls at hl ⊢
  have hl : lv_has ls 3 [(0, .ref (q 0)), (1, .int a1)] := hl
  have hE : k_read σ0 a1 = k_read σ0 a1 := rfl
  have b33 : ∀ (H : Heap) (locs : List Loc) (ls : Array Slot) (σ : St) (x2 : Int32), vp_in x2 256 → k_read σ0 a1 = k_read_33 σ x2 → lv_has ls 3 [(0, .ref (q 0)), (2, .int x2)] → va_P D vwCl (wsK q cA σ) H → KB σ → va_S (KA q) s.heap H locs → W p l e (headSpec wsK_read { frames := 0, cells := 0, slots := 0, locals := 0 }).room s m ([.ref (q 0), .int a1] : List Value).toArray below meth c H locs 0 0 (MQ below (va_Qi (fun r u => (u, r) = k_read σ0 a1) (KPost D q cA) (KA q)) ([.ref (q 0), .int a1] : List Value).toArray s 0 0 (KA q)) (F0 m 33 ls []) := by
    intro H locs ls σ x2 hin256_x2 hE hl hP hB hS
    refine lv_aload_n hx hb dK_read_33 rfl (lv_at hl 0 rfl) ?_
    refine kget_0_0 hx hb hts inK hown hC hP (hts _ wK_f9) dK_read_34 ?_
    refine lv_iload_n hx hb dK_read_37 rfl (lv_at hl 1 rfl) ?_
    refine kald_1 hx hb hC hP hin256_x2 dK_read_38 ?_
    exact W.iret (v := (σ 1 (ix x2))) hx hb hr (fun t ht hW => ⟨⟨(σ 1 (ix x2)), σ, rfl, hE.symm, ⟨by rw [ht]; exact hP, hB⟩⟩, hS.F ht⟩) hS.2.2 dK_read_39
  refine lv_iload_n hx hb dK_read_0 rfl (lv_at hl 1 rfl) ?_
  refine lv_sipush (v := 255) hx hb dK_read_1 (by decide) ?_
  refine lv_iand hx hb dK_read_4 ?_
  refine lv_istore_n (lv' := [(2, .int (a1 &&& 255)), (0, .ref (q 0)), (1, .int a1)]) hx hb dK_read_5 rfl hl (by decide) rfl (fun ls hl => ?_)
  refine lv_aload_n hx hb dK_read_6 rfl (lv_at hl 1 rfl) ?_
  refine kget_0_5 hx hb hts inK hown hC hP (hts _ wK_f28) dK_read_7 ?_
  refine kget_6_5 hx hb hts inQ hown hC hP (hts _ wK_f64) dK_read_10 ?_
  have z1 : zb (σ0 6 5) := KB_6_5 hB
  refine lv_if_eq (tgt := 33) hx hb dK_read_13 rfl (fun h2 => ?_) (fun h2 => ?_)
  · have hE := hE.trans (if_pos h2)
    have hl := lv_sub hl [1, 0] rfl
    exact b33 _ _ _ _ (a1 &&& 255) (vin_m 8 (by decide) (by decide) (by decide)) hE hl hP hB hS
  · have hE := hE.trans (if_neg h2)
    refine lv_aload_n hx hb dK_read_16 rfl (lv_at hl 1 rfl) ?_
    refine kget_0_1 hx hb hts inK hown hC hP (hts _ wK_f13) dK_read_17 ?_
    refine lv_iload_n hx hb dK_read_20 rfl (lv_at hl 0 rfl) ?_
    refine kald_2 hx hb hC hP (vin_m 8 (by decide) (by decide) (by decide)) dK_read_21 ?_
    refine lv_iconst (v := 1) hx hb dK_read_22 (by decide) ?_
    refine lv_icmp_eq (tgt := 33) hx hb dK_read_23 rfl (fun h3 => ?_) (fun h3 => ?_)
    · have hE := hE.trans (if_pos h3)
      have hl := lv_sub hl [1, 0] rfl
      exact b33 _ _ _ _ (a1 &&& 255) (vin_m 8 (by decide) (by decide) (by decide)) hE hl hP hB hS
    · have hE := hE.trans (if_neg h3)
      refine lv_aload_n hx hb dK_read_26 rfl (lv_at hl 1 rfl) ?_
      refine lv_iconst (v := 2) hx hb dK_read_27 (by decide) ?_
      refine kput_0_14 hx hb hts inK hown hC hP (hts _ wK_f101) hS dK_read_28 (fun σ4 H locs e4 hP hS => ?_)
      have hE := hE.trans (bd_e e4)
      have hB : KB σ4 := by rw [e4]; exact hB
      refine lv_iconst (v := 0) hx hb dK_read_31 (by decide) ?_
      exact W.iret (v := 0) hx hb hr (fun t ht hW => ⟨⟨0, σ4, rfl, hE.symm, ⟨by rw [ht]; exact hP, hB⟩⟩, hS.F ht⟩) hS.2.2 dK_read_32
set_option maxRecDepth 100000 in
set_option maxHeartbeats 4000000 in
theorem c_k_pop (l : Launch) (D : va_G) (q : Nat → Nat) (cA : ClassId) (tN : Nat) (σ0 : St) : Met l yK_pop wsK_pop { frames := 1, cells := 0, slots := 0, locals := 22 } (va_Pc [.ref (q 0)] (KPre D q cA tN σ0)) (va_Qi (fun r u => (u, r) = k_pop σ0) (KPost D q cA) (KA q)) 0 0 (KA q) := by
  refine Met.ofW (cc := cK_pop) (maxL := 2) (ret := (some .int)) (by decide) rfl ?_
  intro p e s m args below meth c s₁ B hml hv
  obtain ⟨rfl, hP, hB, hC⟩ := hv
  have hx := B.exec
  have hb := B.bytes
  have hr := B.returns
  have hts : ∀ w ∈ gw, w.before ([.ref (q 0)] : List Value).toArray s = true := fun w h => atoms_spec (ws := wsK_pop) B.pre w (List.mem_cons_of_mem _ h)
  have hown : s.vm.findClass RK = some m.cls := findClass_of_methodNamed B.named
  have hlocks := B.notSynchronized
  have hS : va_S (KA q) s.heap s.heap [] := va_S.rf
  have hl := lv_entry ([.ref (q 0)]) (n := 2) (Nat.le_of_ble_eq_true rfl)
  rw [lg_entry_eq]
  generalize (lg_sl ([.ref (q 0)]) ++ List.replicate (2 - (lg_sl ([.ref (q 0)])).length) Slot.unset).toArray = ls at hl ⊢
  have hl : lv_has ls 2 [(0, .ref (q 0))] := hl
  have hE : k_pop σ0 = k_pop σ0 := rfl
  refine lv_aload_n hx hb dK_pop_0 rfl (lv_at hl 0 rfl) ?_
  refine kget_0_5 hx hb hts inK hown hC hP (hts _ wK_f28) dK_pop_1 ?_
  refine kcalli (rest := []) ⟨hx, hb, hml, hown, hts⟩ hC hP hB hS (c_k_stack l D q cA tN σ0) (cwV 0 hts gK_176 rfl rfl rfl hdQ_stack ⟨Nat.le_of_ble_eq_true rfl, Nat.le_of_ble_eq_true rfl⟩) (krv_6 hC hP) rfl hl.1 rfl (Nat.le_of_ble_eq_true rfl) dK_pop_4 (fun σ1 v2 H locs e1 hP hB hS => ?_)
  have hE := hE.trans (bd2_e e1)
  refine lv_istore_n (lv' := [(1, .int v2), (0, .ref (q 0))]) hx hb dK_pop_7 rfl hl (by decide) rfl (fun ls hl => ?_)
  refine lv_aload_n hx hb dK_pop_8 rfl (lv_at hl 1 rfl) ?_
  refine kget_0_5 hx hb hts inK hown hC hP (hts _ wK_f28) dK_pop_9 ?_
  refine lv_iload_n hx hb dK_pop_12 rfl (lv_at hl 0 rfl) ?_
  refine lv_iconst (v := 1) hx hb dK_pop_13 (by decide) ?_
  refine lv_iadd hx hb dK_pop_14 ?_
  refine lv_ldc (v := 65535) hx hb hown (hts _ wK_c39) dK_pop_15 ?_
  refine lv_iand hx hb dK_pop_17 ?_
  refine kcallv (rest := []) ⟨hx, hb, hml, hown, hts⟩ hC hP hB hS (c_k_setStack l D q cA tN σ1 ((v2 + 1) &&& 65535)) (cwV 1 hts gK_179 rfl rfl rfl hdQ_setStack ⟨Nat.le_of_ble_eq_true rfl, Nat.le_of_ble_eq_true rfl⟩) (krv_6 hC hP) rfl hl.1 rfl (Nat.le_of_ble_eq_true rfl) dK_pop_18 (fun σ3 H locs e3 hP hB hS => ?_)
  have hE := hE.trans (bd_e e3)
  refine lv_aload_n hx hb dK_pop_21 rfl (lv_at hl 1 rfl) ?_
  refine lv_iload_n hx hb dK_pop_22 rfl (lv_at hl 0 rfl) ?_
  refine kcalli (rest := []) ⟨hx, hb, hml, hown, hts⟩ hC hP hB hS (c_k_read l D q cA tN σ3 v2) (cwV 1 hts gK_131 rfl rfl rfl hdK_read ⟨Nat.le_of_ble_eq_true rfl, Nat.le_of_ble_eq_true rfl⟩) (krv_0 hC hP) rfl hl.1 rfl (Nat.le_of_ble_eq_true rfl) dK_pop_23 (fun σ4 v5 H locs e4 hP hB hS => ?_)
  have hE := hE.trans (bd2_e e4)
  exact W.iret (v := v5) hx hb hr (fun t ht hW => ⟨⟨v5, σ4, rfl, hE.symm, ⟨by rw [ht]; exact hP, hB⟩⟩, hS.F ht⟩) hS.2.2 dK_pop_26
set_option maxRecDepth 100000 in
set_option maxHeartbeats 4000000 in
theorem c_k_endException (l : Launch) (D : va_G) (q : Nat → Nat) (cA : ClassId) (tN : Nat) (σ0 : St) (a1 : Int32) : Met l yK_endException wsK_endException { frames := 2, cells := 0, slots := 0, locals := 43 } (va_Pc [.ref (q 0), .int a1] (KPre D q cA tN σ0)) (va_Qv (fun u => u = k_endException σ0 a1) (KPost D q cA) (KA q)) 0 0 (KA q) := by
  refine Met.ofW (cc := cK_endException) (maxL := 4) (ret := none) (by decide) rfl ?_
  intro p e s m args below meth c s₁ B hml hv
  obtain ⟨rfl, hP, hB, hC⟩ := hv
  have hx := B.exec
  have hb := B.bytes
  have hr := B.returns
  have hts : ∀ w ∈ gw, w.before ([.ref (q 0), .int a1] : List Value).toArray s = true := fun w h => atoms_spec (ws := wsK_endException) B.pre w (List.mem_cons_of_mem _ h)
  have hown : s.vm.findClass RK = some m.cls := findClass_of_methodNamed B.named
  have hlocks := B.notSynchronized
  have hS : va_S (KA q) s.heap s.heap [] := va_S.rf
  have hl := lv_entry ([.ref (q 0), .int a1]) (n := 4) (Nat.le_of_ble_eq_true rfl)
  rw [lg_entry_eq]
  generalize (lg_sl ([.ref (q 0), .int a1]) ++ List.replicate (4 - (lg_sl ([.ref (q 0), .int a1])).length) Slot.unset).toArray = ls at hl ⊢
  have hl : lv_has ls 4 [(0, .ref (q 0)), (1, .int a1)] := hl
  have hE : k_endException σ0 a1 = k_endException σ0 a1 := rfl
  have b97 : ∀ (H : Heap) (locs : List Loc) (ls : Array Slot) (σ : St) (x2 : Int32) (y0 : Int32), zb y0 → k_endException σ0 a1 = k_endException_97 σ x2 y0 → lv_has ls 4 [(0, .ref (q 0)), (2, .int x2)] → va_P D vwCl (wsK q cA σ) H → KB σ → va_S (KA q) s.heap H locs → W p l e (headSpec wsK_endException { frames := 2, cells := 0, slots := 0, locals := 43 }).room s m ([.ref (q 0), .int a1] : List Value).toArray below meth c H locs 0 0 (MQ below (va_Qv (fun u => u = k_endException σ0 a1) (KPost D q cA) (KA q)) ([.ref (q 0), .int a1] : List Value).toArray s 0 0 (KA q)) (F0 m 97 ls [.int y0, .ref (q 6)]) := by
    intro H locs ls σ x2 y0 hz_y0 hE hl hP hB hS
    refine kput_6_4 hx hb hts inQ hown hC hP (hts _ wK_f88) hS hz_y0 dK_endException_97 (fun σ37 H locs e37 hP hS => ?_)
    have hE := hE.trans (bd_e e37)
    have hB : KB σ37 := by rw [e37]; exact KB_6_4s hB hz_y0
    refine lv_aload_n hx hb dK_endException_100 rfl (lv_at hl 0 rfl) ?_
    refine lv_aload_n hx hb dK_endException_101 rfl (lv_at hl 0 rfl) ?_
    refine kcalli (rest := [.ref (q 0)]) ⟨hx, hb, hml, hown, hts⟩ hC hP hB hS (c_k_pop l D q cA tN σ37) (cwV 0 hts gK_141 rfl rfl rfl hdK_pop ⟨Nat.le_of_ble_eq_true rfl, Nat.le_of_ble_eq_true rfl⟩) (krv_0 hC hP) rfl hl.1 rfl (Nat.le_of_ble_eq_true rfl) dK_endException_102 (fun σ38 v39 H locs e38 hP hB hS => ?_)
    have hE := hE.trans (bd2_e e38)
    refine kcallv (rest := []) ⟨hx, hb, hml, hown, hts⟩ hC hP hB hS (c_k_goTo l D q cA tN σ38 v39) (cwV 1 hts gK_111 rfl rfl rfl hdK_goTo ⟨Nat.le_of_ble_eq_true rfl, Nat.le_of_ble_eq_true rfl⟩) (krv_0 hC hP) rfl hl.1 rfl (Nat.le_of_ble_eq_true rfl) dK_endException_105 (fun σ40 H locs e40 hP hB hS => ?_)
    have hE := hE.trans (bd_e e40)
    refine lv_aload_n hx hb dK_endException_108 rfl (lv_at hl 0 rfl) ?_
    refine kget_0_5 hx hb hts inK hown hC hP (hts _ wK_f28) dK_endException_109 ?_
    refine lv_iload_n hx hb dK_endException_112 rfl (lv_at hl 1 rfl) ?_
    refine kput_6_6 hx hb hts inQ hown hC hP (hts _ wK_f73) hS dK_endException_113 (fun σ41 H locs e41 hP hS => ?_)
    have hE := hE.trans (bd_e e41)
    have hB : KB σ41 := by rw [e41]; exact hB
    exact W.vret hx hb hr (fun t ht hW => ⟨⟨σ41, rfl, hE.symm, ⟨by rw [ht]; exact hP, hB⟩⟩, hS.F ht⟩) hS.2.2 dK_endException_116
  have b44_n1 : ∀ (H : Heap) (locs : List Loc) (ls : Array Slot) (σ : St) (x2 : Int32), k_endException σ0 a1 = k_endException_44_n1 σ x2 → lv_has ls 4 [(0, .ref (q 0)), (2, .int x2), (3, .int (-1))] → va_P D vwCl (wsK q cA σ) H → KB σ → va_S (KA q) s.heap H locs → W p l e (headSpec wsK_endException { frames := 2, cells := 0, slots := 0, locals := 43 }).room s m ([.ref (q 0), .int a1] : List Value).toArray below meth c H locs 0 0 (MQ below (va_Qv (fun u => u = k_endException σ0 a1) (KPost D q cA) (KA q)) ([.ref (q 0), .int a1] : List Value).toArray s 0 0 (KA q)) (F0 m 44 ls []) := by
    intro H locs ls σ x2 hE hl hP hB hS
    refine lv_iload_n hx hb dK_endException_44 rfl (lv_at hl 2 rfl) ?_
    refine lv_if_lt (tgt := 67) hx hb dK_endException_45 rfl (fun _ => ?_) (fun h30 => absurd (by decide) h30)
    refine lv_aload_n hx hb dK_endException_67 rfl (lv_at hl 0 rfl) ?_
    refine kget_0_5 hx hb hts inK hown hC hP (hts _ wK_f28) dK_endException_68 ?_
    refine kget_6_0 hx hb hts inQ hown hC hP (hts _ wK_f82) dK_endException_71 ?_
    refine lv_bipush (v := 6) hx hb dK_endException_74 (by decide) ?_
    refine lv_aload_n hx hb dK_endException_76 rfl (lv_at hl 0 rfl) ?_
    refine kcalli (rest := [.int 6, .ref (q 8)]) ⟨hx, hb, hml, hown, hts⟩ hC hP hB hS (c_k_pop l D q cA tN σ) (cwV 0 hts gK_141 rfl rfl rfl hdK_pop ⟨Nat.le_of_ble_eq_true rfl, Nat.le_of_ble_eq_true rfl⟩) (krv_0 hC hP) rfl hl.1 rfl (Nat.le_of_ble_eq_true rfl) dK_endException_77 (fun σ31 v32 H locs e31 hP hB hS => ?_)
    have hE := hE.trans (bd2_e e31)
    refine kast_8 hx hb hC hP hS (vin_c (by decide)) dK_endException_80 (fun σ33 H locs e33 hP hS => ?_)
    have hE := hE.trans (bd_e e33)
    have hB : KB σ33 := by rw [e33]; exact hB
    refine lv_aload_n hx hb dK_endException_81 rfl (lv_at hl 0 rfl) ?_
    refine kget_0_5 hx hb hts inK hown hC hP (hts _ wK_f28) dK_endException_82 ?_
    refine lv_aload_n hx hb dK_endException_85 rfl (lv_at hl 0 rfl) ?_
    refine kcalli (rest := [.ref (q 6)]) ⟨hx, hb, hml, hown, hts⟩ hC hP hB hS (c_k_pop l D q cA tN σ33) (cwV 0 hts gK_141 rfl rfl rfl hdK_pop ⟨Nat.le_of_ble_eq_true rfl, Nat.le_of_ble_eq_true rfl⟩) (krv_0 hC hP) rfl hl.1 rfl (Nat.le_of_ble_eq_true rfl) dK_endException_86 (fun σ34 v35 H locs e34 hP hB hS => ?_)
    have hE := hE.trans (bd2_e e34)
    refine lv_if_eq (tgt := 96) hx hb dK_endException_89 rfl (fun h36 => ?_) (fun h36 => ?_)
    · have hE := hE.trans (if_pos h36)
      refine lv_iconst (v := 0) hx hb dK_endException_96 (by decide) ?_
      have hl := lv_sub hl [0, 1] rfl
      exact b97 _ _ _ _ x2 0 (by decide) hE hl hP hB hS
    · have hE := hE.trans (if_neg h36)
      refine lv_iconst (v := 1) hx hb dK_endException_92 (by decide) ?_
      refine lv_goto (tgt := 97) hx hb dK_endException_93 rfl ?_
      have hl := lv_sub hl [0, 1] rfl
      exact b97 _ _ _ _ x2 1 (by decide) hE hl hP hB hS
  have b44_0 : ∀ (H : Heap) (locs : List Loc) (ls : Array Slot) (σ : St) (x2 : Int32), k_endException σ0 a1 = k_endException_44_0 σ x2 → lv_has ls 4 [(0, .ref (q 0)), (2, .int x2), (3, .int 0)] → va_P D vwCl (wsK q cA σ) H → KB σ → va_S (KA q) s.heap H locs → W p l e (headSpec wsK_endException { frames := 2, cells := 0, slots := 0, locals := 43 }).room s m ([.ref (q 0), .int a1] : List Value).toArray below meth c H locs 0 0 (MQ below (va_Qv (fun u => u = k_endException σ0 a1) (KPost D q cA) (KA q)) ([.ref (q 0), .int a1] : List Value).toArray s 0 0 (KA q)) (F0 m 44 ls []) := by
    intro H locs ls σ x2 hE hl hP hB hS
    refine lv_iload_n hx hb dK_endException_44 rfl (lv_at hl 2 rfl) ?_
    refine lv_if_lt (tgt := 67) hx hb dK_endException_45 rfl (fun h26 => absurd h26 (by decide)) (fun _ => ?_)
    refine lv_aload_n hx hb dK_endException_48 rfl (lv_at hl 0 rfl) ?_
    refine kget_0_5 hx hb hts inK hown hC hP (hts _ wK_f28) dK_endException_49 ?_
    refine kget_6_0 hx hb hts inQ hown hC hP (hts _ wK_f82) dK_endException_52 ?_
    refine lv_iload_n hx hb dK_endException_55 rfl (lv_at hl 2 rfl) ?_
    refine lv_aload_n hx hb dK_endException_56 rfl (lv_at hl 0 rfl) ?_
    refine kcalli (rest := [.int 0, .ref (q 8)]) ⟨hx, hb, hml, hown, hts⟩ hC hP hB hS (c_k_pop l D q cA tN σ) (cwV 0 hts gK_141 rfl rfl rfl hdK_pop ⟨Nat.le_of_ble_eq_true rfl, Nat.le_of_ble_eq_true rfl⟩) (krv_0 hC hP) rfl hl.1 rfl (Nat.le_of_ble_eq_true rfl) dK_endException_57 (fun σ27 v28 H locs e27 hP hB hS => ?_)
    have hE := hE.trans (bd2_e e27)
    refine kast_8 hx hb hC hP hS (vin_c (by decide)) dK_endException_60 (fun σ29 H locs e29 hP hS => ?_)
    have hE := hE.trans (bd_e e29)
    have hB : KB σ29 := by rw [e29]; exact hB
    refine lv_iinc (k := 2) (v := (-1)) (lv' := [(3, .int (-1)), (0, .ref (q 0)), (2, .int x2)]) hx hb dK_endException_61 hl rfl (by decide) (by decide) rfl (fun ls hl => ?_)
    refine lv_goto (tgt := 44) hx hb dK_endException_64 rfl ?_
    have hl := lv_sub hl [1, 2, 0] rfl
    exact b44_n1 _ _ _ _ x2 hE hl hP hB hS
  have b44_1 : ∀ (H : Heap) (locs : List Loc) (ls : Array Slot) (σ : St) (x2 : Int32), k_endException σ0 a1 = k_endException_44_1 σ x2 → lv_has ls 4 [(0, .ref (q 0)), (2, .int x2), (3, .int 1)] → va_P D vwCl (wsK q cA σ) H → KB σ → va_S (KA q) s.heap H locs → W p l e (headSpec wsK_endException { frames := 2, cells := 0, slots := 0, locals := 43 }).room s m ([.ref (q 0), .int a1] : List Value).toArray below meth c H locs 0 0 (MQ below (va_Qv (fun u => u = k_endException σ0 a1) (KPost D q cA) (KA q)) ([.ref (q 0), .int a1] : List Value).toArray s 0 0 (KA q)) (F0 m 44 ls []) := by
    intro H locs ls σ x2 hE hl hP hB hS
    refine lv_iload_n hx hb dK_endException_44 rfl (lv_at hl 2 rfl) ?_
    refine lv_if_lt (tgt := 67) hx hb dK_endException_45 rfl (fun h22 => absurd h22 (by decide)) (fun _ => ?_)
    refine lv_aload_n hx hb dK_endException_48 rfl (lv_at hl 0 rfl) ?_
    refine kget_0_5 hx hb hts inK hown hC hP (hts _ wK_f28) dK_endException_49 ?_
    refine kget_6_0 hx hb hts inQ hown hC hP (hts _ wK_f82) dK_endException_52 ?_
    refine lv_iload_n hx hb dK_endException_55 rfl (lv_at hl 2 rfl) ?_
    refine lv_aload_n hx hb dK_endException_56 rfl (lv_at hl 0 rfl) ?_
    refine kcalli (rest := [.int 1, .ref (q 8)]) ⟨hx, hb, hml, hown, hts⟩ hC hP hB hS (c_k_pop l D q cA tN σ) (cwV 0 hts gK_141 rfl rfl rfl hdK_pop ⟨Nat.le_of_ble_eq_true rfl, Nat.le_of_ble_eq_true rfl⟩) (krv_0 hC hP) rfl hl.1 rfl (Nat.le_of_ble_eq_true rfl) dK_endException_57 (fun σ23 v24 H locs e23 hP hB hS => ?_)
    have hE := hE.trans (bd2_e e23)
    refine kast_8 hx hb hC hP hS (vin_c (by decide)) dK_endException_60 (fun σ25 H locs e25 hP hS => ?_)
    have hE := hE.trans (bd_e e25)
    have hB : KB σ25 := by rw [e25]; exact hB
    refine lv_iinc (k := 2) (v := 0) (lv' := [(3, .int 0), (0, .ref (q 0)), (2, .int x2)]) hx hb dK_endException_61 hl rfl (by decide) (by decide) rfl (fun ls hl => ?_)
    refine lv_goto (tgt := 44) hx hb dK_endException_64 rfl ?_
    have hl := lv_sub hl [1, 2, 0] rfl
    exact b44_0 _ _ _ _ x2 hE hl hP hB hS
  have b44_2 : ∀ (H : Heap) (locs : List Loc) (ls : Array Slot) (σ : St) (x2 : Int32), k_endException σ0 a1 = k_endException_44_2 σ x2 → lv_has ls 4 [(0, .ref (q 0)), (2, .int x2), (3, .int 2)] → va_P D vwCl (wsK q cA σ) H → KB σ → va_S (KA q) s.heap H locs → W p l e (headSpec wsK_endException { frames := 2, cells := 0, slots := 0, locals := 43 }).room s m ([.ref (q 0), .int a1] : List Value).toArray below meth c H locs 0 0 (MQ below (va_Qv (fun u => u = k_endException σ0 a1) (KPost D q cA) (KA q)) ([.ref (q 0), .int a1] : List Value).toArray s 0 0 (KA q)) (F0 m 44 ls []) := by
    intro H locs ls σ x2 hE hl hP hB hS
    refine lv_iload_n hx hb dK_endException_44 rfl (lv_at hl 2 rfl) ?_
    refine lv_if_lt (tgt := 67) hx hb dK_endException_45 rfl (fun h18 => absurd h18 (by decide)) (fun _ => ?_)
    refine lv_aload_n hx hb dK_endException_48 rfl (lv_at hl 0 rfl) ?_
    refine kget_0_5 hx hb hts inK hown hC hP (hts _ wK_f28) dK_endException_49 ?_
    refine kget_6_0 hx hb hts inQ hown hC hP (hts _ wK_f82) dK_endException_52 ?_
    refine lv_iload_n hx hb dK_endException_55 rfl (lv_at hl 2 rfl) ?_
    refine lv_aload_n hx hb dK_endException_56 rfl (lv_at hl 0 rfl) ?_
    refine kcalli (rest := [.int 2, .ref (q 8)]) ⟨hx, hb, hml, hown, hts⟩ hC hP hB hS (c_k_pop l D q cA tN σ) (cwV 0 hts gK_141 rfl rfl rfl hdK_pop ⟨Nat.le_of_ble_eq_true rfl, Nat.le_of_ble_eq_true rfl⟩) (krv_0 hC hP) rfl hl.1 rfl (Nat.le_of_ble_eq_true rfl) dK_endException_57 (fun σ19 v20 H locs e19 hP hB hS => ?_)
    have hE := hE.trans (bd2_e e19)
    refine kast_8 hx hb hC hP hS (vin_c (by decide)) dK_endException_60 (fun σ21 H locs e21 hP hS => ?_)
    have hE := hE.trans (bd_e e21)
    have hB : KB σ21 := by rw [e21]; exact hB
    refine lv_iinc (k := 2) (v := 1) (lv' := [(3, .int 1), (0, .ref (q 0)), (2, .int x2)]) hx hb dK_endException_61 hl rfl (by decide) (by decide) rfl (fun ls hl => ?_)
    refine lv_goto (tgt := 44) hx hb dK_endException_64 rfl ?_
    have hl := lv_sub hl [1, 2, 0] rfl
    exact b44_1 _ _ _ _ x2 hE hl hP hB hS
  have b44_3 : ∀ (H : Heap) (locs : List Loc) (ls : Array Slot) (σ : St) (x2 : Int32), k_endException σ0 a1 = k_endException_44_3 σ x2 → lv_has ls 4 [(0, .ref (q 0)), (2, .int x2), (3, .int 3)] → va_P D vwCl (wsK q cA σ) H → KB σ → va_S (KA q) s.heap H locs → W p l e (headSpec wsK_endException { frames := 2, cells := 0, slots := 0, locals := 43 }).room s m ([.ref (q 0), .int a1] : List Value).toArray below meth c H locs 0 0 (MQ below (va_Qv (fun u => u = k_endException σ0 a1) (KPost D q cA) (KA q)) ([.ref (q 0), .int a1] : List Value).toArray s 0 0 (KA q)) (F0 m 44 ls []) := by
    intro H locs ls σ x2 hE hl hP hB hS
    refine lv_iload_n hx hb dK_endException_44 rfl (lv_at hl 2 rfl) ?_
    refine lv_if_lt (tgt := 67) hx hb dK_endException_45 rfl (fun h14 => absurd h14 (by decide)) (fun _ => ?_)
    refine lv_aload_n hx hb dK_endException_48 rfl (lv_at hl 0 rfl) ?_
    refine kget_0_5 hx hb hts inK hown hC hP (hts _ wK_f28) dK_endException_49 ?_
    refine kget_6_0 hx hb hts inQ hown hC hP (hts _ wK_f82) dK_endException_52 ?_
    refine lv_iload_n hx hb dK_endException_55 rfl (lv_at hl 2 rfl) ?_
    refine lv_aload_n hx hb dK_endException_56 rfl (lv_at hl 0 rfl) ?_
    refine kcalli (rest := [.int 3, .ref (q 8)]) ⟨hx, hb, hml, hown, hts⟩ hC hP hB hS (c_k_pop l D q cA tN σ) (cwV 0 hts gK_141 rfl rfl rfl hdK_pop ⟨Nat.le_of_ble_eq_true rfl, Nat.le_of_ble_eq_true rfl⟩) (krv_0 hC hP) rfl hl.1 rfl (Nat.le_of_ble_eq_true rfl) dK_endException_57 (fun σ15 v16 H locs e15 hP hB hS => ?_)
    have hE := hE.trans (bd2_e e15)
    refine kast_8 hx hb hC hP hS (vin_c (by decide)) dK_endException_60 (fun σ17 H locs e17 hP hS => ?_)
    have hE := hE.trans (bd_e e17)
    have hB : KB σ17 := by rw [e17]; exact hB
    refine lv_iinc (k := 2) (v := 2) (lv' := [(3, .int 2), (0, .ref (q 0)), (2, .int x2)]) hx hb dK_endException_61 hl rfl (by decide) (by decide) rfl (fun ls hl => ?_)
    refine lv_goto (tgt := 44) hx hb dK_endException_64 rfl ?_
    have hl := lv_sub hl [1, 2, 0] rfl
    exact b44_2 _ _ _ _ x2 hE hl hP hB hS
  have b44_4 : ∀ (H : Heap) (locs : List Loc) (ls : Array Slot) (σ : St) (x2 : Int32), k_endException σ0 a1 = k_endException_44_4 σ x2 → lv_has ls 4 [(0, .ref (q 0)), (2, .int x2), (3, .int 4)] → va_P D vwCl (wsK q cA σ) H → KB σ → va_S (KA q) s.heap H locs → W p l e (headSpec wsK_endException { frames := 2, cells := 0, slots := 0, locals := 43 }).room s m ([.ref (q 0), .int a1] : List Value).toArray below meth c H locs 0 0 (MQ below (va_Qv (fun u => u = k_endException σ0 a1) (KPost D q cA) (KA q)) ([.ref (q 0), .int a1] : List Value).toArray s 0 0 (KA q)) (F0 m 44 ls []) := by
    intro H locs ls σ x2 hE hl hP hB hS
    refine lv_iload_n hx hb dK_endException_44 rfl (lv_at hl 2 rfl) ?_
    refine lv_if_lt (tgt := 67) hx hb dK_endException_45 rfl (fun h10 => absurd h10 (by decide)) (fun _ => ?_)
    refine lv_aload_n hx hb dK_endException_48 rfl (lv_at hl 0 rfl) ?_
    refine kget_0_5 hx hb hts inK hown hC hP (hts _ wK_f28) dK_endException_49 ?_
    refine kget_6_0 hx hb hts inQ hown hC hP (hts _ wK_f82) dK_endException_52 ?_
    refine lv_iload_n hx hb dK_endException_55 rfl (lv_at hl 2 rfl) ?_
    refine lv_aload_n hx hb dK_endException_56 rfl (lv_at hl 0 rfl) ?_
    refine kcalli (rest := [.int 4, .ref (q 8)]) ⟨hx, hb, hml, hown, hts⟩ hC hP hB hS (c_k_pop l D q cA tN σ) (cwV 0 hts gK_141 rfl rfl rfl hdK_pop ⟨Nat.le_of_ble_eq_true rfl, Nat.le_of_ble_eq_true rfl⟩) (krv_0 hC hP) rfl hl.1 rfl (Nat.le_of_ble_eq_true rfl) dK_endException_57 (fun σ11 v12 H locs e11 hP hB hS => ?_)
    have hE := hE.trans (bd2_e e11)
    refine kast_8 hx hb hC hP hS (vin_c (by decide)) dK_endException_60 (fun σ13 H locs e13 hP hS => ?_)
    have hE := hE.trans (bd_e e13)
    have hB : KB σ13 := by rw [e13]; exact hB
    refine lv_iinc (k := 2) (v := 3) (lv' := [(3, .int 3), (0, .ref (q 0)), (2, .int x2)]) hx hb dK_endException_61 hl rfl (by decide) (by decide) rfl (fun ls hl => ?_)
    refine lv_goto (tgt := 44) hx hb dK_endException_64 rfl ?_
    have hl := lv_sub hl [1, 2, 0] rfl
    exact b44_3 _ _ _ _ x2 hE hl hP hB hS
  have b44_5 : ∀ (H : Heap) (locs : List Loc) (ls : Array Slot) (σ : St) (x2 : Int32), k_endException σ0 a1 = k_endException_44_5 σ x2 → lv_has ls 4 [(0, .ref (q 0)), (2, .int x2), (3, .int 5)] → va_P D vwCl (wsK q cA σ) H → KB σ → va_S (KA q) s.heap H locs → W p l e (headSpec wsK_endException { frames := 2, cells := 0, slots := 0, locals := 43 }).room s m ([.ref (q 0), .int a1] : List Value).toArray below meth c H locs 0 0 (MQ below (va_Qv (fun u => u = k_endException σ0 a1) (KPost D q cA) (KA q)) ([.ref (q 0), .int a1] : List Value).toArray s 0 0 (KA q)) (F0 m 44 ls []) := by
    intro H locs ls σ x2 hE hl hP hB hS
    refine lv_iload_n hx hb dK_endException_44 rfl (lv_at hl 2 rfl) ?_
    refine lv_if_lt (tgt := 67) hx hb dK_endException_45 rfl (fun h6 => absurd h6 (by decide)) (fun _ => ?_)
    refine lv_aload_n hx hb dK_endException_48 rfl (lv_at hl 0 rfl) ?_
    refine kget_0_5 hx hb hts inK hown hC hP (hts _ wK_f28) dK_endException_49 ?_
    refine kget_6_0 hx hb hts inQ hown hC hP (hts _ wK_f82) dK_endException_52 ?_
    refine lv_iload_n hx hb dK_endException_55 rfl (lv_at hl 2 rfl) ?_
    refine lv_aload_n hx hb dK_endException_56 rfl (lv_at hl 0 rfl) ?_
    refine kcalli (rest := [.int 5, .ref (q 8)]) ⟨hx, hb, hml, hown, hts⟩ hC hP hB hS (c_k_pop l D q cA tN σ) (cwV 0 hts gK_141 rfl rfl rfl hdK_pop ⟨Nat.le_of_ble_eq_true rfl, Nat.le_of_ble_eq_true rfl⟩) (krv_0 hC hP) rfl hl.1 rfl (Nat.le_of_ble_eq_true rfl) dK_endException_57 (fun σ7 v8 H locs e7 hP hB hS => ?_)
    have hE := hE.trans (bd2_e e7)
    refine kast_8 hx hb hC hP hS (vin_c (by decide)) dK_endException_60 (fun σ9 H locs e9 hP hS => ?_)
    have hE := hE.trans (bd_e e9)
    have hB : KB σ9 := by rw [e9]; exact hB
    refine lv_iinc (k := 2) (v := 4) (lv' := [(3, .int 4), (0, .ref (q 0)), (2, .int x2)]) hx hb dK_endException_61 hl rfl (by decide) (by decide) rfl (fun ls hl => ?_)
    refine lv_goto (tgt := 44) hx hb dK_endException_64 rfl ?_
    have hl := lv_sub hl [1, 2, 0] rfl
    exact b44_4 _ _ _ _ x2 hE hl hP hB hS
  have b42 : ∀ (H : Heap) (locs : List Loc) (ls : Array Slot) (σ : St) (x2 : Int32), k_endException σ0 a1 = k_endException_42 σ x2 → lv_has ls 4 [(0, .ref (q 0)), (2, .int x2)] → va_P D vwCl (wsK q cA σ) H → KB σ → va_S (KA q) s.heap H locs → W p l e (headSpec wsK_endException { frames := 2, cells := 0, slots := 0, locals := 43 }).room s m ([.ref (q 0), .int a1] : List Value).toArray below meth c H locs 0 0 (MQ below (va_Qv (fun u => u = k_endException σ0 a1) (KPost D q cA) (KA q)) ([.ref (q 0), .int a1] : List Value).toArray s 0 0 (KA q)) (F0 m 42 ls []) := by
    intro H locs ls σ x2 hE hl hP hB hS
    refine lv_iconst (v := 5) hx hb dK_endException_42 (by decide) ?_
    refine lv_istore_n (lv' := [(3, .int 5), (0, .ref (q 0)), (2, .int x2)]) hx hb dK_endException_43 rfl hl (by decide) rfl (fun ls hl => ?_)
    have hl := lv_sub hl [1, 2, 0] rfl
    exact b44_5 _ _ _ _ x2 hE hl hP hB hS
  have b22 : ∀ (H : Heap) (locs : List Loc) (ls : Array Slot) (σ : St) (x2 : Int32) (y0 : Int32), zb y0 → k_endException σ0 a1 = k_endException_22 σ x2 y0 → lv_has ls 4 [(0, .ref (q 0)), (2, .int x2)] → va_P D vwCl (wsK q cA σ) H → KB σ → va_S (KA q) s.heap H locs → W p l e (headSpec wsK_endException { frames := 2, cells := 0, slots := 0, locals := 43 }).room s m ([.ref (q 0), .int a1] : List Value).toArray below meth c H locs 0 0 (MQ below (va_Qv (fun u => u = k_endException σ0 a1) (KPost D q cA) (KA q)) ([.ref (q 0), .int a1] : List Value).toArray s 0 0 (KA q)) (F0 m 22 ls [.int y0, .ref (q 6)]) := by
    intro H locs ls σ x2 y0 hz_y0 hE hl hP hB hS
    refine kput_6_5 hx hb hts inQ hown hC hP (hts _ wK_f64) hS hz_y0 dK_endException_22 (fun σ2 H locs e2 hP hS => ?_)
    have hE := hE.trans (bd_e e2)
    have hB : KB σ2 := by rw [e2]; exact KB_6_5s hB hz_y0
    refine lv_aload_n hx hb dK_endException_25 rfl (lv_at hl 0 rfl) ?_
    refine kcalli (rest := []) ⟨hx, hb, hml, hown, hts⟩ hC hP hB hS (c_k_pop l D q cA tN σ2) (cwV 0 hts gK_141 rfl rfl rfl hdK_pop ⟨Nat.le_of_ble_eq_true rfl, Nat.le_of_ble_eq_true rfl⟩) (krv_0 hC hP) rfl hl.1 rfl (Nat.le_of_ble_eq_true rfl) dK_endException_26 (fun σ3 v4 H locs e3 hP hB hS => ?_)
    have hE := hE.trans (bd2_e e3)
    refine lv_sipush (v := 1000) hx hb dK_endException_29 (by decide) ?_
    refine lv_iload_n hx hb dK_endException_32 rfl (lv_at hl 1 rfl) ?_
    refine lv_iadd hx hb dK_endException_33 ?_
    refine lv_icmp_eq (tgt := 42) hx hb dK_endException_34 rfl (fun h5 => ?_) (fun h5 => ?_)
    · have hE := hE.trans (if_pos h5)
      exact b42 _ _ _ _ x2 hE hl hP hB hS
    · have hE := hE.trans (if_neg h5)
      refine lv_aload_n hx hb dK_endException_37 rfl (lv_at hl 0 rfl) ?_
      refine lv_iconst (v := 2) hx hb dK_endException_38 (by decide) ?_
      refine kput_0_14 hx hb hts inK hown hC hP (hts _ wK_f101) hS dK_endException_39 (fun σ42 H locs e42 hP hS => ?_)
      have hE := hE.trans (bd_e e42)
      have hB : KB σ42 := by rw [e42]; exact hB
      exact b42 _ _ _ _ x2 hE hl hP hB hS
  refine lv_iload_n hx hb dK_endException_0 rfl (lv_at hl 1 rfl) ?_
  refine lv_iconst (v := 4) hx hb dK_endException_1 (by decide) ?_
  refine lv_ishr hx hb dK_endException_2 ?_
  refine lv_bipush (v := 7) hx hb dK_endException_3 (by decide) ?_
  refine lv_iand hx hb dK_endException_5 ?_
  refine lv_istore_n (lv' := [(2, .int ((a1 >>> ((4 : Int32) &&& 31)) &&& 7)), (0, .ref (q 0)), (1, .int a1)]) hx hb dK_endException_6 rfl hl (by decide) rfl (fun ls hl => ?_)
  refine lv_aload_n hx hb dK_endException_7 rfl (lv_at hl 1 rfl) ?_
  refine kget_0_5 hx hb hts inK hown hC hP (hts _ wK_f28) dK_endException_8 ?_
  refine lv_iload_n hx hb dK_endException_11 rfl (lv_at hl 2 rfl) ?_
  refine lv_iconst (v := 1) hx hb dK_endException_12 (by decide) ?_
  refine lv_iand hx hb dK_endException_13 ?_
  refine lv_if_ne (tgt := 21) hx hb dK_endException_14 rfl (fun h1 => ?_) (fun h1 => ?_)
  · have hE := hE.trans (if_neg h1)
    refine lv_iconst (v := 0) hx hb dK_endException_21 (by decide) ?_
    have hl := lv_sub hl [1, 0] rfl
    exact b22 _ _ _ _ ((a1 >>> ((4 : Int32) &&& 31)) &&& 7) 0 (by decide) hE hl hP hB hS
  · have hE := hE.trans (if_pos h1)
    refine lv_iconst (v := 1) hx hb dK_endException_17 (by decide) ?_
    refine lv_goto (tgt := 22) hx hb dK_endException_18 rfl ?_
    have hl := lv_sub hl [1, 0] rfl
    exact b22 _ _ _ _ ((a1 >>> ((4 : Int32) &&& 31)) &&& 7) 1 (by decide) hE hl hP hB hS
set_option maxRecDepth 100000 in
set_option maxHeartbeats 4000000 in
theorem c_k_endOutCall (l : Launch) (D : va_G) (q : Nat → Nat) (cA : ClassId) (tN : Nat) (σ0 : St) : Met l yK_endOutCall wsK_endOutCall { frames := 2, cells := 0, slots := 0, locals := 43 } (va_Pc [.ref (q 0)] (KPre D q cA tN σ0)) (va_Qv (fun u => u = k_endOutCall σ0) (KPost D q cA) (KA q)) 0 0 (KA q) := by
  refine Met.ofW (cc := cK_endOutCall) (maxL := 1) (ret := none) (by decide) rfl ?_
  intro p e s m args below meth c s₁ B hml hv
  obtain ⟨rfl, hP, hB, hC⟩ := hv
  have hx := B.exec
  have hb := B.bytes
  have hr := B.returns
  have hts : ∀ w ∈ gw, w.before ([.ref (q 0)] : List Value).toArray s = true := fun w h => atoms_spec (ws := wsK_endOutCall) B.pre w (List.mem_cons_of_mem _ h)
  have hown : s.vm.findClass RK = some m.cls := findClass_of_methodNamed B.named
  have hlocks := B.notSynchronized
  have hS : va_S (KA q) s.heap s.heap [] := va_S.rf
  have hl := lv_entry ([.ref (q 0)]) (n := 1) (Nat.le_of_ble_eq_true rfl)
  rw [lg_entry_eq]
  generalize (lg_sl ([.ref (q 0)]) ++ List.replicate (1 - (lg_sl ([.ref (q 0)])).length) Slot.unset).toArray = ls at hl ⊢
  have hl : lv_has ls 1 [(0, .ref (q 0))] := hl
  have hE : k_endOutCall σ0 = k_endOutCall σ0 := rfl
  have b23 : ∀ (H : Heap) (locs : List Loc) (ls : Array Slot) (σ : St), k_endOutCall σ0 = k_endOutCall_23 σ → lv_has ls 1 [(0, .ref (q 0))] → va_P D vwCl (wsK q cA σ) H → KB σ → va_S (KA q) s.heap H locs → W p l e (headSpec wsK_endOutCall { frames := 2, cells := 0, slots := 0, locals := 43 }).room s m ([.ref (q 0)] : List Value).toArray below meth c H locs 0 0 (MQ below (va_Qv (fun u => u = k_endOutCall σ0) (KPost D q cA) (KA q)) ([.ref (q 0)] : List Value).toArray s 0 0 (KA q)) (F0 m 23 ls []) := by
    intro H locs ls σ hE hl hP hB hS
    refine lv_aload_n hx hb dK_endOutCall_23 rfl (lv_at hl 0 rfl) ?_
    refine lv_aload_n hx hb dK_endOutCall_24 rfl (lv_at hl 0 rfl) ?_
    refine kcalli (rest := [.ref (q 0)]) ⟨hx, hb, hml, hown, hts⟩ hC hP hB hS (c_k_pop l D q cA tN σ) (cwV 0 hts gK_141 rfl rfl rfl hdK_pop ⟨Nat.le_of_ble_eq_true rfl, Nat.le_of_ble_eq_true rfl⟩) (krv_0 hC hP) rfl hl.1 rfl (Nat.le_of_ble_eq_true rfl) dK_endOutCall_25 (fun σ5 v6 H locs e5 hP hB hS => ?_)
    have hE := hE.trans (bd2_e e5)
    refine kcallv (rest := []) ⟨hx, hb, hml, hown, hts⟩ hC hP hB hS (c_k_goTo l D q cA tN σ5 v6) (cwV 1 hts gK_111 rfl rfl rfl hdK_goTo ⟨Nat.le_of_ble_eq_true rfl, Nat.le_of_ble_eq_true rfl⟩) (krv_0 hC hP) rfl hl.1 rfl (Nat.le_of_ble_eq_true rfl) dK_endOutCall_28 (fun σ7 H locs e7 hP hB hS => ?_)
    have hE := hE.trans (bd_e e7)
    exact W.vret hx hb hr (fun t ht hW => ⟨⟨σ7, rfl, hE.symm, ⟨by rw [ht]; exact hP, hB⟩⟩, hS.F ht⟩) hS.2.2 dK_endOutCall_31
  refine lv_aload_n hx hb dK_endOutCall_0 rfl (lv_at hl 0 rfl) ?_
  refine kget_0_5 hx hb hts inK hown hC hP (hts _ wK_f28) dK_endOutCall_1 ?_
  refine lv_iconst (v := 0) hx hb dK_endOutCall_4 (by decide) ?_
  refine kput_6_5 hx hb hts inQ hown hC hP (hts _ wK_f64) hS (by decide) dK_endOutCall_5 (fun σ1 H locs e1 hP hS => ?_)
  have hE := hE.trans (bd_e e1)
  have hB : KB σ1 := by rw [e1]; exact KB_6_5s hB (by decide)
  refine lv_aload_n hx hb dK_endOutCall_8 rfl (lv_at hl 0 rfl) ?_
  refine kcalli (rest := []) ⟨hx, hb, hml, hown, hts⟩ hC hP hB hS (c_k_pop l D q cA tN σ1) (cwV 0 hts gK_141 rfl rfl rfl hdK_pop ⟨Nat.le_of_ble_eq_true rfl, Nat.le_of_ble_eq_true rfl⟩) (krv_0 hC hP) rfl hl.1 rfl (Nat.le_of_ble_eq_true rfl) dK_endOutCall_9 (fun σ2 v3 H locs e2 hP hB hS => ?_)
  have hE := hE.trans (bd2_e e2)
  refine lv_sipush (v := 4096) hx hb dK_endOutCall_12 (by decide) ?_
  refine lv_icmp_eq (tgt := 23) hx hb dK_endOutCall_15 rfl (fun h4 => ?_) (fun h4 => ?_)
  · have hE := hE.trans (if_pos h4)
    exact b23 _ _ _ _ hE hl hP hB hS
  · have hE := hE.trans (if_neg h4)
    refine lv_aload_n hx hb dK_endOutCall_18 rfl (lv_at hl 0 rfl) ?_
    refine lv_iconst (v := 2) hx hb dK_endOutCall_19 (by decide) ?_
    refine kput_0_14 hx hb hts inK hown hC hP (hts _ wK_f101) hS dK_endOutCall_20 (fun σ8 H locs e8 hP hS => ?_)
    have hE := hE.trans (bd_e e8)
    have hB : KB σ8 := by rw [e8]; exact hB
    exact b23 _ _ _ _ hE hl hP hB hS
set_option maxRecDepth 100000 in
set_option maxHeartbeats 4000000 in
theorem c_k_goBack (l : Launch) (D : va_G) (q : Nat → Nat) (cA : ClassId) (tN : Nat) (σ0 : St) : Met l yK_goBack wsK_goBack { frames := 3, cells := 0, slots := 0, locals := 66 } (va_Pc [.ref (q 0)] (KPre D q cA tN σ0)) (va_Qv (fun u => u = k_goBack σ0) (KPost D q cA) (KA q)) 0 0 (KA q) := by
  refine Met.ofW (cc := cK_goBack) (maxL := 2) (ret := none) (by decide) rfl ?_
  intro p e s m args below meth c s₁ B hml hv
  obtain ⟨rfl, hP, hB, hC⟩ := hv
  have hx := B.exec
  have hb := B.bytes
  have hr := B.returns
  have hts : ∀ w ∈ gw, w.before ([.ref (q 0)] : List Value).toArray s = true := fun w h => atoms_spec (ws := wsK_goBack) B.pre w (List.mem_cons_of_mem _ h)
  have hown : s.vm.findClass RK = some m.cls := findClass_of_methodNamed B.named
  have hlocks := B.notSynchronized
  have hS : va_S (KA q) s.heap s.heap [] := va_S.rf
  have hl := lv_entry ([.ref (q 0)]) (n := 2) (Nat.le_of_ble_eq_true rfl)
  rw [lg_entry_eq]
  generalize (lg_sl ([.ref (q 0)]) ++ List.replicate (2 - (lg_sl ([.ref (q 0)])).length) Slot.unset).toArray = ls at hl ⊢
  have hl : lv_has ls 2 [(0, .ref (q 0))] := hl
  have hE : k_goBack σ0 = k_goBack σ0 := rfl
  have b110 : ∀ (H : Heap) (locs : List Loc) (ls : Array Slot) (σ : St), k_goBack σ0 = k_goBack_110 σ → lv_has ls 2 [] → va_P D vwCl (wsK q cA σ) H → KB σ → va_S (KA q) s.heap H locs → W p l e (headSpec wsK_goBack { frames := 3, cells := 0, slots := 0, locals := 66 }).room s m ([.ref (q 0)] : List Value).toArray below meth c H locs 0 0 (MQ below (va_Qv (fun u => u = k_goBack σ0) (KPost D q cA) (KA q)) ([.ref (q 0)] : List Value).toArray s 0 0 (KA q)) (F0 m 110 ls []) := by
    intro H locs ls σ hE hl hP hB hS
    exact W.vret hx hb hr (fun t ht hW => ⟨⟨σ, rfl, hE.symm, ⟨by rw [ht]; exact hP, hB⟩⟩, hS.F ht⟩) hS.2.2 dK_goBack_110
  have b105 : ∀ (H : Heap) (locs : List Loc) (ls : Array Slot) (σ : St), k_goBack σ0 = k_goBack_105 σ → lv_has ls 2 [(0, .ref (q 0))] → va_P D vwCl (wsK q cA σ) H → KB σ → va_S (KA q) s.heap H locs → W p l e (headSpec wsK_goBack { frames := 3, cells := 0, slots := 0, locals := 66 }).room s m ([.ref (q 0)] : List Value).toArray below meth c H locs 0 0 (MQ below (va_Qv (fun u => u = k_goBack σ0) (KPost D q cA) (KA q)) ([.ref (q 0)] : List Value).toArray s 0 0 (KA q)) (F0 m 105 ls []) := by
    intro H locs ls σ hE hl hP hB hS
    refine lv_aload_n hx hb dK_goBack_105 rfl (lv_at hl 0 rfl) ?_
    refine lv_iconst (v := 2) hx hb dK_goBack_106 (by decide) ?_
    refine kput_0_14 hx hb hts inK hown hC hP (hts _ wK_f101) hS dK_goBack_107 (fun σ5 H locs e5 hP hS => ?_)
    have hE := hE.trans (bd_e e5)
    have hB : KB σ5 := by rw [e5]; exact hB
    have hl := lv_sub hl [] rfl
    exact b110 _ _ _ _ hE hl hP hB hS
  have b72 : ∀ (H : Heap) (locs : List Loc) (ls : Array Slot) (σ : St) (x1 : Int32), k_goBack σ0 = k_goBack_72 σ x1 → lv_has ls 2 [(0, .ref (q 0)), (1, .int x1)] → va_P D vwCl (wsK q cA σ) H → KB σ → va_S (KA q) s.heap H locs → W p l e (headSpec wsK_goBack { frames := 3, cells := 0, slots := 0, locals := 66 }).room s m ([.ref (q 0)] : List Value).toArray below meth c H locs 0 0 (MQ below (va_Qv (fun u => u = k_goBack σ0) (KPost D q cA) (KA q)) ([.ref (q 0)] : List Value).toArray s 0 0 (KA q)) (F0 m 72 ls []) := by
    intro H locs ls σ x1 hE hl hP hB hS
    refine lv_iload_n hx hb dK_goBack_72 rfl (lv_at hl 1 rfl) ?_
    refine lv_ldc (v := 65408) hx hb hown (hts _ wK_c157) dK_goBack_73 ?_
    refine lv_icmp_lt (tgt := 105) hx hb dK_goBack_75 rfl (fun h4 => ?_) (fun h4 => ?_)
    · have hE := hE.trans (if_pos h4)
      have hl := lv_sub hl [0] rfl
      exact b105 _ _ _ _ hE hl hP hB hS
    · have hE := hE.trans (if_neg h4)
      refine lv_iload_n hx hb dK_goBack_78 rfl (lv_at hl 1 rfl) ?_
      refine lv_ldc (v := 65520) hx hb hown (hts _ wK_c156) dK_goBack_79 ?_
      refine lv_icmp_ge (tgt := 105) hx hb dK_goBack_81 rfl (fun h6 => ?_) (fun h6 => ?_)
      · have hE := hE.trans (if_pos h6)
        have hl := lv_sub hl [0] rfl
        exact b105 _ _ _ _ hE hl hP hB hS
      · have hE := hE.trans (if_neg h6)
        refine lv_aload_n hx hb dK_goBack_84 rfl (lv_at hl 0 rfl) ?_
        refine kget_0_5 hx hb hts inK hown hC hP (hts _ wK_f28) dK_goBack_85 ?_
        refine kget_6_6 hx hb hts inQ hown hC hP (hts _ wK_f73) dK_goBack_88 ?_
        refine lv_if_eq (tgt := 105) hx hb dK_goBack_91 rfl (fun h7 => ?_) (fun h7 => ?_)
        · have hE := hE.trans (if_pos h7)
          have hl := lv_sub hl [0] rfl
          exact b105 _ _ _ _ hE hl hP hB hS
        · have hE := hE.trans (if_neg h7)
          refine lv_aload_n hx hb dK_goBack_94 rfl (lv_at hl 0 rfl) ?_
          refine lv_iload_n hx hb dK_goBack_95 rfl (lv_at hl 1 rfl) ?_
          refine lv_ldc (v := 65408) hx hb hown (hts _ wK_c157) dK_goBack_96 ?_
          refine lv_isub hx hb dK_goBack_98 ?_
          refine kcallv (rest := []) ⟨hx, hb, hml, hown, hts⟩ hC hP hB hS (c_k_endException l D q cA tN σ (x1 - 65408)) (cwV 1 hts gK_161 rfl rfl rfl hdK_endException ⟨Nat.le_of_ble_eq_true rfl, Nat.le_of_ble_eq_true rfl⟩) (krv_0 hC hP) rfl hl.1 rfl (Nat.le_of_ble_eq_true rfl) dK_goBack_99 (fun σ8 H locs e8 hP hB hS => ?_)
          have hE := hE.trans (bd_e e8)
          refine lv_goto (tgt := 110) hx hb dK_goBack_102 rfl ?_
          have hl := lv_sub hl [] rfl
          exact b110 _ _ _ _ hE hl hP hB hS
  have b49 : ∀ (H : Heap) (locs : List Loc) (ls : Array Slot) (σ : St) (x1 : Int32), k_goBack σ0 = k_goBack_49 σ x1 → lv_has ls 2 [(0, .ref (q 0)), (1, .int x1)] → va_P D vwCl (wsK q cA σ) H → KB σ → va_S (KA q) s.heap H locs → W p l e (headSpec wsK_goBack { frames := 3, cells := 0, slots := 0, locals := 66 }).room s m ([.ref (q 0)] : List Value).toArray below meth c H locs 0 0 (MQ below (va_Qv (fun u => u = k_goBack σ0) (KPost D q cA) (KA q)) ([.ref (q 0)] : List Value).toArray s 0 0 (KA q)) (F0 m 49 ls []) := by
    intro H locs ls σ x1 hE hl hP hB hS
    refine lv_iload_n hx hb dK_goBack_49 rfl (lv_at hl 1 rfl) ?_
    refine lv_ldc (v := 65520) hx hb hown (hts _ wK_c156) dK_goBack_50 ?_
    refine lv_icmp_ne (tgt := 72) hx hb dK_goBack_52 rfl (fun h3 => ?_) (fun h3 => ?_)
    · have hE := hE.trans (if_neg h3)
      exact b72 _ _ _ _ x1 hE hl hP hB hS
    · have hE := hE.trans (if_pos h3)
      refine lv_aload_n hx hb dK_goBack_55 rfl (lv_at hl 0 rfl) ?_
      refine kget_0_5 hx hb hts inK hown hC hP (hts _ wK_f28) dK_goBack_56 ?_
      refine kget_6_5 hx hb hts inQ hown hC hP (hts _ wK_f64) dK_goBack_59 ?_
      have z9 : zb (σ 6 5) := KB_6_5 hB
      refine lv_if_eq (tgt := 72) hx hb dK_goBack_62 rfl (fun h10 => ?_) (fun h10 => ?_)
      · have hE := hE.trans (if_pos h10)
        exact b72 _ _ _ _ x1 hE hl hP hB hS
      · have hE := hE.trans (if_neg h10)
        refine lv_aload_n hx hb dK_goBack_65 rfl (lv_at hl 0 rfl) ?_
        refine kcallv (rest := []) ⟨hx, hb, hml, hown, hts⟩ hC hP hB hS (c_k_endOutCall l D q cA tN σ) (cwV 0 hts gK_158 rfl rfl rfl hdK_endOutCall ⟨Nat.le_of_ble_eq_true rfl, Nat.le_of_ble_eq_true rfl⟩) (krv_0 hC hP) rfl hl.1 rfl (Nat.le_of_ble_eq_true rfl) dK_goBack_66 (fun σ11 H locs e11 hP hB hS => ?_)
        have hE := hE.trans (bd_e e11)
        refine lv_goto (tgt := 110) hx hb dK_goBack_69 rfl ?_
        have hl := lv_sub hl [] rfl
        exact b110 _ _ _ _ hE hl hP hB hS
  refine lv_aload_n hx hb dK_goBack_0 rfl (lv_at hl 0 rfl) ?_
  refine kget_0_5 hx hb hts inK hown hC hP (hts _ wK_f28) dK_goBack_1 ?_
  refine kget_6_0 hx hb hts inQ hown hC hP (hts _ wK_f82) dK_goBack_4 ?_
  refine lv_bipush (v := 6) hx hb dK_goBack_7 (by decide) ?_
  refine kald_8 hx hb hC hP (vin_c (by decide)) dK_goBack_9 ?_
  refine lv_istore_n (lv' := [(1, .int (σ0 8 (ix 6))), (0, .ref (q 0))]) hx hb dK_goBack_10 rfl hl (by decide) rfl (fun ls hl => ?_)
  refine lv_iload_n hx hb dK_goBack_11 rfl (lv_at hl 0 rfl) ?_
  refine lv_ldc (v := 32768) hx hb hown (hts _ wK_c127) dK_goBack_12 ?_
  refine lv_icmp_ge (tgt := 25) hx hb dK_goBack_14 rfl (fun h1 => ?_) (fun h1 => ?_)
  · have hE := hE.trans (if_pos h1)
    refine lv_iload_n hx hb dK_goBack_25 rfl (lv_at hl 0 rfl) ?_
    refine lv_ldc (v := 65408) hx hb hown (hts _ wK_c157) dK_goBack_26 ?_
    refine lv_icmp_ge (tgt := 49) hx hb dK_goBack_28 rfl (fun h2 => ?_) (fun h2 => ?_)
    · have hE := hE.trans (if_pos h2)
      have hl := lv_sub hl [1, 0] rfl
      exact b49 _ _ _ _ (σ0 8 (ix 6)) hE hl hP hB hS
    · have hE := hE.trans (if_neg h2)
      refine lv_aload_n hx hb dK_goBack_31 rfl (lv_at hl 1 rfl) ?_
      refine kget_0_5 hx hb hts inK hown hC hP (hts _ wK_f28) dK_goBack_32 ?_
      refine kget_6_5 hx hb hts inQ hown hC hP (hts _ wK_f64) dK_goBack_35 ?_
      have z12 : zb (σ0 6 5) := KB_6_5 hB
      refine lv_if_ne (tgt := 49) hx hb dK_goBack_38 rfl (fun h13 => ?_) (fun h13 => ?_)
      · have hE := hE.trans (if_neg h13)
        have hl := lv_sub hl [1, 0] rfl
        exact b49 _ _ _ _ (σ0 8 (ix 6)) hE hl hP hB hS
      · have hE := hE.trans (if_pos h13)
        refine lv_aload_n hx hb dK_goBack_41 rfl (lv_at hl 1 rfl) ?_
        refine lv_iload_n hx hb dK_goBack_42 rfl (lv_at hl 0 rfl) ?_
        refine kcallv (rest := []) ⟨hx, hb, hml, hown, hts⟩ hC hP hB hS (c_k_goOut l D q cA tN σ0 (σ0 8 (ix 6))) (cwV 1 hts gK_147 rfl rfl rfl hdK_goOut ⟨Nat.le_of_ble_eq_true rfl, Nat.le_of_ble_eq_true rfl⟩) (krv_0 hC hP) rfl hl.1 rfl (Nat.le_of_ble_eq_true rfl) dK_goBack_43 (fun σ14 H locs e14 hP hB hS => ?_)
        have hE := hE.trans (bd_e e14)
        refine lv_goto (tgt := 110) hx hb dK_goBack_46 rfl ?_
        have hl := lv_sub hl [] rfl
        exact b110 _ _ _ _ hE hl hP hB hS
  · have hE := hE.trans (if_neg h1)
    refine lv_aload_n hx hb dK_goBack_17 rfl (lv_at hl 1 rfl) ?_
    refine lv_iload_n hx hb dK_goBack_18 rfl (lv_at hl 0 rfl) ?_
    refine kcallv (rest := []) ⟨hx, hb, hml, hown, hts⟩ hC hP hB hS (c_k_goTo l D q cA tN σ0 (σ0 8 (ix 6))) (cwV 1 hts gK_111 rfl rfl rfl hdK_goTo ⟨Nat.le_of_ble_eq_true rfl, Nat.le_of_ble_eq_true rfl⟩) (krv_0 hC hP) rfl hl.1 rfl (Nat.le_of_ble_eq_true rfl) dK_goBack_19 (fun σ15 H locs e15 hP hB hS => ?_)
    have hE := hE.trans (bd_e e15)
    refine lv_goto (tgt := 110) hx hb dK_goBack_22 rfl ?_
    have hl := lv_sub hl [] rfl
    exact b110 _ _ _ _ hE hl hP hB hS
set_option maxRecDepth 100000 in
set_option maxHeartbeats 4000000 in
theorem c_k_changeFlow (l : Launch) (D : va_G) (q : Nat → Nat) (cA : ClassId) (tN : Nat) (σ0 : St) (a1 : Int32) : Met l yK_changeFlow wsK_changeFlow { frames := 4, cells := 0, slots := 0, locals := 87 } (va_Pc [.ref (q 0), .int a1] (KPre D q cA tN σ0)) (va_Qv (fun u => u = k_changeFlow σ0 a1) (KPost D q cA) (KA q)) 0 0 (KA q) := by
  refine Met.ofW (cc := cK_changeFlow) (maxL := 3) (ret := none) (by decide) rfl ?_
  intro p e s m args below meth c s₁ B hml hv
  obtain ⟨rfl, hP, hB, hC⟩ := hv
  have hx := B.exec
  have hb := B.bytes
  have hr := B.returns
  have hts : ∀ w ∈ gw, w.before ([.ref (q 0), .int a1] : List Value).toArray s = true := fun w h => atoms_spec (ws := wsK_changeFlow) B.pre w (List.mem_cons_of_mem _ h)
  have hown : s.vm.findClass RK = some m.cls := findClass_of_methodNamed B.named
  have hlocks := B.notSynchronized
  have hS : va_S (KA q) s.heap s.heap [] := va_S.rf
  have hl := lv_entry ([.ref (q 0), .int a1]) (n := 3) (Nat.le_of_ble_eq_true rfl)
  rw [lg_entry_eq]
  generalize (lg_sl ([.ref (q 0), .int a1]) ++ List.replicate (3 - (lg_sl ([.ref (q 0), .int a1])).length) Slot.unset).toArray = ls at hl ⊢
  have hl : lv_has ls 3 [(0, .ref (q 0)), (1, .int a1)] := hl
  have hE : k_changeFlow σ0 a1 = k_changeFlow σ0 a1 := rfl
  have b158 : ∀ (H : Heap) (locs : List Loc) (ls : Array Slot) (σ : St), k_changeFlow σ0 a1 = k_changeFlow_158 σ → lv_has ls 3 [] → va_P D vwCl (wsK q cA σ) H → KB σ → va_S (KA q) s.heap H locs → W p l e (headSpec wsK_changeFlow { frames := 4, cells := 0, slots := 0, locals := 87 }).room s m ([.ref (q 0), .int a1] : List Value).toArray below meth c H locs 0 0 (MQ below (va_Qv (fun u => u = k_changeFlow σ0 a1) (KPost D q cA) (KA q)) ([.ref (q 0), .int a1] : List Value).toArray s 0 0 (KA q)) (F0 m 158 ls []) := by
    intro H locs ls σ hE hl hP hB hS
    exact W.vret hx hb hr (fun t ht hW => ⟨⟨σ, rfl, hE.symm, ⟨by rw [ht]; exact hP, hB⟩⟩, hS.F ht⟩) hS.2.2 dK_changeFlow_158
  refine lv_aload_n hx hb dK_changeFlow_0 rfl (lv_at hl 0 rfl) ?_
  refine kget_0_5 hx hb hts inK hown hC hP (hts _ wK_f28) dK_changeFlow_1 ?_
  refine kget_6_0 hx hb hts inQ hown hC hP (hts _ wK_f82) dK_changeFlow_4 ?_
  refine lv_iload_n hx hb dK_changeFlow_7 rfl (lv_at hl 1 rfl) ?_
  refine lv_bipush (v := 6) hx hb dK_changeFlow_8 (by decide) ?_
  refine lv_ishr hx hb dK_changeFlow_10 ?_
  refine lv_bipush (v := 7) hx hb dK_changeFlow_11 (by decide) ?_
  refine lv_iand hx hb dK_changeFlow_13 ?_
  refine kald_8 hx hb hC hP (vin_m 3 (by decide) (by decide) (by decide)) dK_changeFlow_14 ?_
  refine lv_istore_n (lv' := [(2, .int (σ0 8 (ix ((a1 >>> ((6 : Int32) &&& 31)) &&& 7)))), (0, .ref (q 0)), (1, .int a1)]) hx hb dK_changeFlow_15 rfl hl (by decide) rfl (fun ls hl => ?_)
  refine lv_iload_n hx hb dK_changeFlow_16 rfl (lv_at hl 2 rfl) ?_
  refine lv_bipush (v := 12) hx hb dK_changeFlow_17 (by decide) ?_
  refine lv_ishr hx hb dK_changeFlow_19 ?_
  rcases Classical.em ((a1 >>> ((12 : Int32) &&& 31)) = 7) with h1 | h1
  · have hE := hE.trans (if_pos h1)
    refine lv_tableIn (tgt := 72) hx hb dK_changeFlow_20 (by rw [h1]; decide) (by rw [h1]; decide) (by rw [h1]; rfl) rfl ?_
    refine lv_aload_n hx hb dK_changeFlow_72 rfl (lv_at hl 1 rfl) ?_
    refine lv_iload_n hx hb dK_changeFlow_73 rfl (lv_at hl 2 rfl) ?_
    refine kcallv (rest := []) ⟨hx, hb, hml, hown, hts⟩ hC hP hB hS (c_k_goTo l D q cA tN σ0 a1) (cwV 1 hts gK_111 rfl rfl rfl hdK_goTo ⟨Nat.le_of_ble_eq_true rfl, Nat.le_of_ble_eq_true rfl⟩) (krv_0 hC hP) rfl hl.1 rfl (Nat.le_of_ble_eq_true rfl) dK_changeFlow_74 (fun σ2 H locs e2 hP hB hS => ?_)
    have hE := hE.trans (bd_e e2)
    refine lv_goto (tgt := 158) hx hb dK_changeFlow_77 rfl ?_
    have hl := lv_sub hl [] rfl
    exact b158 _ _ _ _ hE hl hP hB hS
  have hE := hE.trans (if_neg h1)
  rcases Classical.em ((a1 >>> ((12 : Int32) &&& 31)) = 8) with h3 | h3
  · have hE := hE.trans (if_pos h3)
    refine lv_tableIn (tgt := 80) hx hb dK_changeFlow_20 (by rw [h3]; decide) (by rw [h3]; decide) (by rw [h3]; rfl) rfl ?_
    refine lv_aload_n hx hb dK_changeFlow_80 rfl (lv_at hl 1 rfl) ?_
    refine kget_0_5 hx hb hts inK hown hC hP (hts _ wK_f28) dK_changeFlow_81 ?_
    refine kget_6_4 hx hb hts inQ hown hC hP (hts _ wK_f88) dK_changeFlow_84 ?_
    have z4 : zb (σ0 6 4) := KB_6_4 hB
    refine lv_if_eq (tgt := 158) hx hb dK_changeFlow_87 rfl (fun h5 => ?_) (fun h5 => ?_)
    · have hE := hE.trans (if_pos h5)
      have hl := lv_sub hl [] rfl
      exact b158 _ _ _ _ hE hl hP hB hS
    · have hE := hE.trans (if_neg h5)
      refine lv_aload_n hx hb dK_changeFlow_90 rfl (lv_at hl 1 rfl) ?_
      refine lv_iload_n hx hb dK_changeFlow_91 rfl (lv_at hl 2 rfl) ?_
      refine kcallv (rest := []) ⟨hx, hb, hml, hown, hts⟩ hC hP hB hS (c_k_goTo l D q cA tN σ0 a1) (cwV 1 hts gK_111 rfl rfl rfl hdK_goTo ⟨Nat.le_of_ble_eq_true rfl, Nat.le_of_ble_eq_true rfl⟩) (krv_0 hC hP) rfl hl.1 rfl (Nat.le_of_ble_eq_true rfl) dK_changeFlow_92 (fun σ6 H locs e6 hP hB hS => ?_)
      have hE := hE.trans (bd_e e6)
      refine lv_goto (tgt := 158) hx hb dK_changeFlow_95 rfl ?_
      have hl := lv_sub hl [] rfl
      exact b158 _ _ _ _ hE hl hP hB hS
  have hE := hE.trans (if_neg h3)
  rcases Classical.em ((a1 >>> ((12 : Int32) &&& 31)) = 9) with h7 | h7
  · have hE := hE.trans (if_pos h7)
    refine lv_tableIn (tgt := 98) hx hb dK_changeFlow_20 (by rw [h7]; decide) (by rw [h7]; decide) (by rw [h7]; rfl) rfl ?_
    refine lv_aload_n hx hb dK_changeFlow_98 rfl (lv_at hl 1 rfl) ?_
    refine lv_iload_n hx hb dK_changeFlow_99 rfl (lv_at hl 0 rfl) ?_
    refine kcallv (rest := []) ⟨hx, hb, hml, hown, hts⟩ hC hP hB hS (c_k_call l D q cA tN σ0 (σ0 8 (ix ((a1 >>> ((6 : Int32) &&& 31)) &&& 7)))) (cwV 1 hts gK_144 rfl rfl rfl hdK_call ⟨Nat.le_of_ble_eq_true rfl, Nat.le_of_ble_eq_true rfl⟩) (krv_0 hC hP) rfl hl.1 rfl (Nat.le_of_ble_eq_true rfl) dK_changeFlow_100 (fun σ8 H locs e8 hP hB hS => ?_)
    have hE := hE.trans (bd_e e8)
    refine lv_goto (tgt := 158) hx hb dK_changeFlow_103 rfl ?_
    have hl := lv_sub hl [] rfl
    exact b158 _ _ _ _ hE hl hP hB hS
  have hE := hE.trans (if_neg h7)
  rcases Classical.em ((a1 >>> ((12 : Int32) &&& 31)) = 11) with h9 | h9
  · have hE := hE.trans (if_pos h9)
    refine lv_tableIn (tgt := 106) hx hb dK_changeFlow_20 (by rw [h9]; decide) (by rw [h9]; decide) (by rw [h9]; rfl) rfl ?_
    refine lv_aload_n hx hb dK_changeFlow_106 rfl (lv_at hl 1 rfl) ?_
    refine lv_iload_n hx hb dK_changeFlow_107 rfl (lv_at hl 0 rfl) ?_
    refine kcallv (rest := []) ⟨hx, hb, hml, hown, hts⟩ hC hP hB hS (c_k_goOut l D q cA tN σ0 (σ0 8 (ix ((a1 >>> ((6 : Int32) &&& 31)) &&& 7)))) (cwV 1 hts gK_147 rfl rfl rfl hdK_goOut ⟨Nat.le_of_ble_eq_true rfl, Nat.le_of_ble_eq_true rfl⟩) (krv_0 hC hP) rfl hl.1 rfl (Nat.le_of_ble_eq_true rfl) dK_changeFlow_108 (fun σ10 H locs e10 hP hB hS => ?_)
    have hE := hE.trans (bd_e e10)
    refine lv_goto (tgt := 158) hx hb dK_changeFlow_111 rfl ?_
    have hl := lv_sub hl [] rfl
    exact b158 _ _ _ _ hE hl hP hB hS
  have hE := hE.trans (if_neg h9)
  rcases Classical.em ((a1 >>> ((12 : Int32) &&& 31)) = 12) with h11 | h11
  · have hE := hE.trans (if_pos h11)
    refine lv_tableIn (tgt := 114) hx hb dK_changeFlow_20 (by rw [h11]; decide) (by rw [h11]; decide) (by rw [h11]; rfl) rfl ?_
    refine lv_aload_n hx hb dK_changeFlow_114 rfl (lv_at hl 1 rfl) ?_
    refine lv_iload_n hx hb dK_changeFlow_115 rfl (lv_at hl 0 rfl) ?_
    refine kcallv (rest := []) ⟨hx, hb, hml, hown, hts⟩ hC hP hB hS (c_k_callOut l D q cA tN σ0 (σ0 8 (ix ((a1 >>> ((6 : Int32) &&& 31)) &&& 7)))) (cwV 1 hts gK_150 rfl rfl rfl hdK_callOut ⟨Nat.le_of_ble_eq_true rfl, Nat.le_of_ble_eq_true rfl⟩) (krv_0 hC hP) rfl hl.1 rfl (Nat.le_of_ble_eq_true rfl) dK_changeFlow_116 (fun σ12 H locs e12 hP hB hS => ?_)
    have hE := hE.trans (bd_e e12)
    refine lv_goto (tgt := 158) hx hb dK_changeFlow_119 rfl ?_
    have hl := lv_sub hl [] rfl
    exact b158 _ _ _ _ hE hl hP hB hS
  have hE := hE.trans (if_neg h11)
  rcases Classical.em ((a1 >>> ((12 : Int32) &&& 31)) = 13) with h13 | h13
  · have hE := hE.trans (if_pos h13)
    refine lv_tableIn (tgt := 122) hx hb dK_changeFlow_20 (by rw [h13]; decide) (by rw [h13]; decide) (by rw [h13]; rfl) rfl ?_
    refine lv_aload_n hx hb dK_changeFlow_122 rfl (lv_at hl 1 rfl) ?_
    refine kcallv (rest := []) ⟨hx, hb, hml, hown, hts⟩ hC hP hB hS (c_k_goBack l D q cA tN σ0) (cwV 0 hts gK_153 rfl rfl rfl hdK_goBack ⟨Nat.le_of_ble_eq_true rfl, Nat.le_of_ble_eq_true rfl⟩) (krv_0 hC hP) rfl hl.1 rfl (Nat.le_of_ble_eq_true rfl) dK_changeFlow_123 (fun σ14 H locs e14 hP hB hS => ?_)
    have hE := hE.trans (bd_e e14)
    refine lv_goto (tgt := 158) hx hb dK_changeFlow_126 rfl ?_
    have hl := lv_sub hl [] rfl
    exact b158 _ _ _ _ hE hl hP hB hS
  have hE := hE.trans (if_neg h13)
  rcases Classical.em ((a1 >>> ((12 : Int32) &&& 31)) = 14) with h15 | h15
  · have hE := hE.trans (if_pos h15)
    refine lv_tableIn (tgt := 129) hx hb dK_changeFlow_20 (by rw [h15]; decide) (by rw [h15]; decide) (by rw [h15]; rfl) rfl ?_
    refine lv_aload_n hx hb dK_changeFlow_129 rfl (lv_at hl 1 rfl) ?_
    refine lv_dup hx hb dK_changeFlow_130 rfl ?_
    refine kget_0_12 hx hb hts inK hown hC hP (hts _ wK_f79) dK_changeFlow_131 ?_
    refine lv_iconst (v := 1) hx hb dK_changeFlow_134 (by decide) ?_
    refine lv_iconst (v := 3) hx hb dK_changeFlow_135 (by decide) ?_
    refine lv_iload_n hx hb dK_changeFlow_136 rfl (lv_at hl 2 rfl) ?_
    refine lv_iconst (v := 3) hx hb dK_changeFlow_137 (by decide) ?_
    refine lv_ishr hx hb dK_changeFlow_138 ?_
    refine lv_iconst (v := 3) hx hb dK_changeFlow_139 (by decide) ?_
    refine lv_iand hx hb dK_changeFlow_140 ?_
    refine lv_iadd hx hb dK_changeFlow_141 ?_
    refine lv_ishl hx hb dK_changeFlow_142 ?_
    refine lv_ior hx hb dK_changeFlow_143 ?_
    refine kput_0_12 hx hb hts inK hown hC hP (hts _ wK_f79) hS dK_changeFlow_144 (fun σ16 H locs e16 hP hS => ?_)
    have hE := hE.trans (bd_e e16)
    have hB : KB σ16 := by rw [e16]; exact hB
    refine lv_goto (tgt := 158) hx hb dK_changeFlow_147 rfl ?_
    have hl := lv_sub hl [] rfl
    exact b158 _ _ _ _ hE hl hP hB hS
  have hE := hE.trans (if_neg h15)
  rcases Classical.em ((a1 >>> ((12 : Int32) &&& 31)) = 15) with h17 | h17
  · have hE := hE.trans (if_pos h17)
    refine lv_tableIn (tgt := 150) hx hb dK_changeFlow_20 (by rw [h17]; decide) (by rw [h17]; decide) (by rw [h17]; rfl) rfl ?_
    refine lv_aload_n hx hb dK_changeFlow_150 rfl (lv_at hl 1 rfl) ?_
    refine lv_iconst (v := 1) hx hb dK_changeFlow_151 (by decide) ?_
    refine kput_0_11 hx hb hts inK hown hC hP (hts _ wK_f76) hS dK_changeFlow_152 (fun σ18 H locs e18 hP hS => ?_)
    have hE := hE.trans (bd_e e18)
    have hB : KB σ18 := by rw [e18]; exact hB
    refine lv_goto (tgt := 158) hx hb dK_changeFlow_155 rfl ?_
    have hl := lv_sub hl [] rfl
    exact b158 _ _ _ _ hE hl hP hB hS
  have hE := hE.trans (if_neg h17)
  rcases Classical.em ((a1 >>> ((12 : Int32) &&& 31)) = 10) with h19 | h19
  · refine lv_tableIn (tgt := 158) hx hb dK_changeFlow_20 (by rw [h19]; decide) (by rw [h19]; decide) (by rw [h19]; rfl) rfl ?_
    have hl := lv_sub hl [] rfl
    exact b158 _ _ _ _ hE hl hP hB hS
  · refine lv_tableOut (tgt := 158) hx hb dK_changeFlow_20 (by have n0 := ne_t 7 7 (by decide) h1; have n1 := ne_t 8 8 (by decide) h3; have n2 := ne_t 9 9 (by decide) h7; have n3 := ne_t 10 10 (by decide) h19; have n4 := ne_t 11 11 (by decide) h9; have n5 := ne_t 12 12 (by decide) h11; have n6 := ne_t 13 13 (by decide) h13; have n7 := ne_t 14 14 (by decide) h15; have n8 := ne_t 15 15 (by decide) h17; omega) rfl ?_
    have hl := lv_sub hl [] rfl
    exact b158 _ _ _ _ hE hl hP hB hS
set_option maxRecDepth 100000 in
set_option maxHeartbeats 4000000 in
theorem c_k_moveData (l : Launch) (D : va_G) (q : Nat → Nat) (cA : ClassId) (tN : Nat) (σ0 : St) (a1 : Int32) : Met l yK_moveData wsK_moveData { frames := 2, cells := 0, slots := 0, locals := 45 } (va_Pc [.ref (q 0), .int a1] (KPre D q cA tN σ0)) (va_Qv (fun u => u = k_moveData σ0 a1) (KPost D q cA) (KA q)) 0 0 (KA q) := by
  refine Met.ofW (cc := cK_moveData) (maxL := 7) (ret := none) (by decide) rfl ?_
  intro p e s m args below meth c s₁ B hml hv
  obtain ⟨rfl, hP, hB, hC⟩ := hv
  have hx := B.exec
  have hb := B.bytes
  have hr := B.returns
  have hts : ∀ w ∈ gw, w.before ([.ref (q 0), .int a1] : List Value).toArray s = true := fun w h => atoms_spec (ws := wsK_moveData) B.pre w (List.mem_cons_of_mem _ h)
  have hown : s.vm.findClass RK = some m.cls := findClass_of_methodNamed B.named
  have hlocks := B.notSynchronized
  have hS : va_S (KA q) s.heap s.heap [] := va_S.rf
  have hl := lv_entry ([.ref (q 0), .int a1]) (n := 7) (Nat.le_of_ble_eq_true rfl)
  rw [lg_entry_eq]
  generalize (lg_sl ([.ref (q 0), .int a1]) ++ List.replicate (7 - (lg_sl ([.ref (q 0), .int a1])).length) Slot.unset).toArray = ls at hl ⊢
  have hl : lv_has ls 7 [(0, .ref (q 0)), (1, .int a1)] := hl
  have hE : k_moveData σ0 a1 = k_moveData σ0 a1 := rfl
  have b203 : ∀ (H : Heap) (locs : List Loc) (ls : Array Slot) (σ : St), k_moveData σ0 a1 = k_moveData_203 σ → lv_has ls 7 [] → va_P D vwCl (wsK q cA σ) H → KB σ → va_S (KA q) s.heap H locs → W p l e (headSpec wsK_moveData { frames := 2, cells := 0, slots := 0, locals := 45 }).room s m ([.ref (q 0), .int a1] : List Value).toArray below meth c H locs 0 0 (MQ below (va_Qv (fun u => u = k_moveData σ0 a1) (KPost D q cA) (KA q)) ([.ref (q 0), .int a1] : List Value).toArray s 0 0 (KA q)) (F0 m 203 ls []) := by
    intro H locs ls σ hE hl hP hB hS
    exact W.vret hx hb hr (fun t ht hW => ⟨⟨σ, rfl, hE.symm, ⟨by rw [ht]; exact hP, hB⟩⟩, hS.F ht⟩) hS.2.2 dK_moveData_203
  have b143 : ∀ (H : Heap) (locs : List Loc) (ls : Array Slot) (σ : St) (y0 : Int32), zb y0 → k_moveData σ0 a1 = k_moveData_143 σ y0 → lv_has ls 7 [] → va_P D vwCl (wsK q cA σ) H → KB σ → va_S (KA q) s.heap H locs → W p l e (headSpec wsK_moveData { frames := 2, cells := 0, slots := 0, locals := 45 }).room s m ([.ref (q 0), .int a1] : List Value).toArray below meth c H locs 0 0 (MQ below (va_Qv (fun u => u = k_moveData σ0 a1) (KPost D q cA) (KA q)) ([.ref (q 0), .int a1] : List Value).toArray s 0 0 (KA q)) (F0 m 143 ls [.int y0, .ref (q 6)]) := by
    intro H locs ls σ y0 hz_y0 hE hl hP hB hS
    refine kput_6_4 hx hb hts inQ hown hC hP (hts _ wK_f88) hS hz_y0 dK_moveData_143 (fun σ8 H locs e8 hP hS => ?_)
    have hE := hE.trans (bd_e e8)
    have hB : KB σ8 := by rw [e8]; exact KB_6_4s hB hz_y0
    refine lv_goto (tgt := 203) hx hb dK_moveData_146 rfl ?_
    exact b203 _ _ _ _ hE hl hP hB hS
  refine lv_aload_n hx hb dK_moveData_0 rfl (lv_at hl 0 rfl) ?_
  refine kget_0_5 hx hb hts inK hown hC hP (hts _ wK_f28) dK_moveData_1 ?_
  refine kget_6_0 hx hb hts inQ hown hC hP (hts _ wK_f82) dK_moveData_4 ?_
  refine lv_astore_n (lv' := [(2, .ref (q 8)), (0, .ref (q 0)), (1, .int a1)]) hx hb dK_moveData_7 rfl hl (by decide) rfl (fun ls hl => ?_)
  refine lv_iload_n hx hb dK_moveData_8 rfl (lv_at hl 2 rfl) ?_
  refine lv_bipush (v := 9) hx hb dK_moveData_9 (by decide) ?_
  refine lv_ishr hx hb dK_moveData_11 ?_
  refine lv_bipush (v := 7) hx hb dK_moveData_12 (by decide) ?_
  refine lv_iand hx hb dK_moveData_14 ?_
  refine lv_istore_n (lv' := [(3, .int ((a1 >>> ((9 : Int32) &&& 31)) &&& 7)), (2, .ref (q 8)), (0, .ref (q 0)), (1, .int a1)]) hx hb dK_moveData_15 rfl hl (by decide) rfl (fun ls hl => ?_)
  refine lv_iload_n hx hb dK_moveData_16 rfl (lv_at hl 3 rfl) ?_
  refine lv_bipush (v := 6) hx hb dK_moveData_17 (by decide) ?_
  refine lv_ishr hx hb dK_moveData_19 ?_
  refine lv_bipush (v := 7) hx hb dK_moveData_20 (by decide) ?_
  refine lv_iand hx hb dK_moveData_22 ?_
  refine lv_istore (lv' := [(4, .int ((a1 >>> ((6 : Int32) &&& 31)) &&& 7)), (3, .int ((a1 >>> ((9 : Int32) &&& 31)) &&& 7)), (2, .ref (q 8)), (0, .ref (q 0)), (1, .int a1)]) hx hb dK_moveData_23 hl (by decide) rfl (fun ls hl => ?_)
  refine lv_iload_n hx hb dK_moveData_25 rfl (lv_at hl 4 rfl) ?_
  refine lv_iconst (v := 3) hx hb dK_moveData_26 (by decide) ?_
  refine lv_ishr hx hb dK_moveData_27 ?_
  refine lv_bipush (v := 7) hx hb dK_moveData_28 (by decide) ?_
  refine lv_iand hx hb dK_moveData_30 ?_
  refine lv_istore (lv' := [(5, .int ((a1 >>> ((3 : Int32) &&& 31)) &&& 7)), (4, .int ((a1 >>> ((6 : Int32) &&& 31)) &&& 7)), (3, .int ((a1 >>> ((9 : Int32) &&& 31)) &&& 7)), (2, .ref (q 8)), (0, .ref (q 0)), (1, .int a1)]) hx hb dK_moveData_31 hl (by decide) rfl (fun ls hl => ?_)
  refine lv_iload_n hx hb dK_moveData_33 rfl (lv_at hl 5 rfl) ?_
  refine lv_bipush (v := 63) hx hb dK_moveData_34 (by decide) ?_
  refine lv_iand hx hb dK_moveData_36 ?_
  refine lv_istore (lv' := [(6, .int (a1 &&& 63)), (5, .int ((a1 >>> ((3 : Int32) &&& 31)) &&& 7)), (4, .int ((a1 >>> ((6 : Int32) &&& 31)) &&& 7)), (3, .int ((a1 >>> ((9 : Int32) &&& 31)) &&& 7)), (2, .ref (q 8)), (0, .ref (q 0)), (1, .int a1)]) hx hb dK_moveData_37 hl (by decide) rfl (fun ls hl => ?_)
  refine lv_iload_n hx hb dK_moveData_39 rfl (lv_at hl 6 rfl) ?_
  refine lv_bipush (v := 12) hx hb dK_moveData_40 (by decide) ?_
  refine lv_ishr hx hb dK_moveData_42 ?_
  rcases Classical.em ((a1 >>> ((12 : Int32) &&& 31)) = 0) with h1 | h1
  · have hE := hE.trans (if_pos h1)
    refine lv_tableIn (tgt := 84) hx hb dK_moveData_43 (by rw [h1]; decide) (by rw [h1]; decide) (by rw [h1]; rfl) rfl ?_
    refine lv_aload_n hx hb dK_moveData_84 rfl (lv_at hl 4 rfl) ?_
    refine lv_iload_n hx hb dK_moveData_85 rfl (lv_at hl 3 rfl) ?_
    refine lv_iload_n hx hb dK_moveData_86 rfl (lv_at hl 6 rfl) ?_
    refine lv_sipush (v := 511) hx hb dK_moveData_87 (by decide) ?_
    refine lv_iand hx hb dK_moveData_90 ?_
    refine kast_8 hx hb hC hP hS (vin_m 3 (by decide) (by decide) (by decide)) dK_moveData_91 (fun σ2 H locs e2 hP hS => ?_)
    have hE := hE.trans (bd_e e2)
    have hB : KB σ2 := by rw [e2]; exact hB
    refine lv_goto (tgt := 203) hx hb dK_moveData_92 rfl ?_
    have hl := lv_sub hl [] rfl
    exact b203 _ _ _ _ hE hl hP hB hS
  have hE := hE.trans (if_neg h1)
  rcases Classical.em ((a1 >>> ((12 : Int32) &&& 31)) = 1) with h3 | h3
  · have hE := hE.trans (if_pos h3)
    refine lv_tableIn (tgt := 95) hx hb dK_moveData_43 (by rw [h3]; decide) (by rw [h3]; decide) (by rw [h3]; rfl) rfl ?_
    refine lv_aload_n hx hb dK_moveData_95 rfl (lv_at hl 4 rfl) ?_
    refine lv_iload_n hx hb dK_moveData_96 rfl (lv_at hl 3 rfl) ?_
    refine lv_aload_n hx hb dK_moveData_97 rfl (lv_at hl 4 rfl) ?_
    refine lv_iload hx hb dK_moveData_98 (lv_at hl 2 rfl) ?_
    refine kald_8 hx hb hC hP (vin_m 3 (by decide) (by decide) (by decide)) dK_moveData_100 ?_
    refine lv_aload_n hx hb dK_moveData_101 rfl (lv_at hl 4 rfl) ?_
    refine lv_iload hx hb dK_moveData_102 (lv_at hl 1 rfl) ?_
    refine kald_8 hx hb hC hP (vin_m 3 (by decide) (by decide) (by decide)) dK_moveData_104 ?_
    refine lv_iadd hx hb dK_moveData_105 ?_
    refine lv_ldc (v := 65535) hx hb hown (hts _ wK_c39) dK_moveData_106 ?_
    refine lv_iand hx hb dK_moveData_108 ?_
    refine kast_8 hx hb hC hP hS (vin_m 3 (by decide) (by decide) (by decide)) dK_moveData_109 (fun σ4 H locs e4 hP hS => ?_)
    have hE := hE.trans (bd_e e4)
    have hB : KB σ4 := by rw [e4]; exact hB
    refine lv_goto (tgt := 203) hx hb dK_moveData_110 rfl ?_
    have hl := lv_sub hl [] rfl
    exact b203 _ _ _ _ hE hl hP hB hS
  have hE := hE.trans (if_neg h3)
  rcases Classical.em ((a1 >>> ((12 : Int32) &&& 31)) = 2) with h5 | h5
  · have hE := hE.trans (if_pos h5)
    refine lv_tableIn (tgt := 113) hx hb dK_moveData_43 (by rw [h5]; decide) (by rw [h5]; decide) (by rw [h5]; rfl) rfl ?_
    refine lv_aload_n hx hb dK_moveData_113 rfl (lv_at hl 4 rfl) ?_
    refine lv_iload_n hx hb dK_moveData_114 rfl (lv_at hl 3 rfl) ?_
    refine lv_aload_n hx hb dK_moveData_115 rfl (lv_at hl 4 rfl) ?_
    refine lv_iload hx hb dK_moveData_116 (lv_at hl 2 rfl) ?_
    refine kald_8 hx hb hC hP (vin_m 3 (by decide) (by decide) (by decide)) dK_moveData_118 ?_
    refine lv_aload_n hx hb dK_moveData_119 rfl (lv_at hl 4 rfl) ?_
    refine lv_iload hx hb dK_moveData_120 (lv_at hl 1 rfl) ?_
    refine kald_8 hx hb hC hP (vin_m 3 (by decide) (by decide) (by decide)) dK_moveData_122 ?_
    refine lv_isub hx hb dK_moveData_123 ?_
    refine lv_ldc (v := 65535) hx hb hown (hts _ wK_c39) dK_moveData_124 ?_
    refine lv_iand hx hb dK_moveData_126 ?_
    refine kast_8 hx hb hC hP hS (vin_m 3 (by decide) (by decide) (by decide)) dK_moveData_127 (fun σ6 H locs e6 hP hS => ?_)
    have hE := hE.trans (bd_e e6)
    have hB : KB σ6 := by rw [e6]; exact hB
    refine lv_aload_n hx hb dK_moveData_128 rfl (lv_at hl 5 rfl) ?_
    refine kget_0_5 hx hb hts inK hown hC hP (hts _ wK_f28) dK_moveData_129 ?_
    refine lv_aload_n hx hb dK_moveData_132 rfl (lv_at hl 4 rfl) ?_
    refine lv_iload_n hx hb dK_moveData_133 rfl (lv_at hl 3 rfl) ?_
    refine kald_8 hx hb hC hP (vin_m 3 (by decide) (by decide) (by decide)) dK_moveData_134 ?_
    refine lv_if_ne (tgt := 142) hx hb dK_moveData_135 rfl (fun h7 => ?_) (fun h7 => ?_)
    · have hE := hE.trans (if_neg h7)
      refine lv_iconst (v := 0) hx hb dK_moveData_142 (by decide) ?_
      have hl := lv_sub hl [] rfl
      exact b143 _ _ _ _ 0 (by decide) hE hl hP hB hS
    · have hE := hE.trans (if_pos h7)
      refine lv_iconst (v := 1) hx hb dK_moveData_138 (by decide) ?_
      refine lv_goto (tgt := 143) hx hb dK_moveData_139 rfl ?_
      have hl := lv_sub hl [] rfl
      exact b143 _ _ _ _ 1 (by decide) hE hl hP hB hS
  have hE := hE.trans (if_neg h5)
  rcases Classical.em ((a1 >>> ((12 : Int32) &&& 31)) = 3) with h9 | h9
  · have hE := hE.trans (if_pos h9)
    refine lv_tableIn (tgt := 149) hx hb dK_moveData_43 (by rw [h9]; decide) (by rw [h9]; decide) (by rw [h9]; rfl) rfl ?_
    refine lv_aload_n hx hb dK_moveData_149 rfl (lv_at hl 4 rfl) ?_
    refine lv_iload_n hx hb dK_moveData_150 rfl (lv_at hl 3 rfl) ?_
    refine lv_aload_n hx hb dK_moveData_151 rfl (lv_at hl 5 rfl) ?_
    refine lv_aload_n hx hb dK_moveData_152 rfl (lv_at hl 4 rfl) ?_
    refine lv_iload hx hb dK_moveData_153 (lv_at hl 2 rfl) ?_
    refine kald_8 hx hb hC hP (vin_m 3 (by decide) (by decide) (by decide)) dK_moveData_155 ?_
    refine lv_iload hx hb dK_moveData_156 (lv_at hl 0 rfl) ?_
    refine lv_iadd hx hb dK_moveData_158 ?_
    refine kcalli (rest := [.int ((a1 >>> ((9 : Int32) &&& 31)) &&& 7), .ref (q 8)]) ⟨hx, hb, hml, hown, hts⟩ hC hP hB hS (c_k_read l D q cA tN σ0 ((σ0 8 (ix ((a1 >>> ((6 : Int32) &&& 31)) &&& 7))) + (a1 &&& 63))) (cwV 1 hts gK_131 rfl rfl rfl hdK_read ⟨Nat.le_of_ble_eq_true rfl, Nat.le_of_ble_eq_true rfl⟩) (krv_0 hC hP) rfl hl.1 rfl (Nat.le_of_ble_eq_true rfl) dK_moveData_159 (fun σ10 v11 H locs e10 hP hB hS => ?_)
    have hE := hE.trans (bd2_e e10)
    refine kast_8 hx hb hC hP hS (vin_m 3 (by decide) (by decide) (by decide)) dK_moveData_162 (fun σ12 H locs e12 hP hS => ?_)
    have hE := hE.trans (bd_e e12)
    have hB : KB σ12 := by rw [e12]; exact hB
    refine lv_goto (tgt := 203) hx hb dK_moveData_163 rfl ?_
    have hl := lv_sub hl [] rfl
    exact b203 _ _ _ _ hE hl hP hB hS
  have hE := hE.trans (if_neg h9)
  rcases Classical.em ((a1 >>> ((12 : Int32) &&& 31)) = 4) with h13 | h13
  · have hE := hE.trans (if_pos h13)
    refine lv_tableIn (tgt := 166) hx hb dK_moveData_43 (by rw [h13]; decide) (by rw [h13]; decide) (by rw [h13]; rfl) rfl ?_
    refine lv_aload_n hx hb dK_moveData_166 rfl (lv_at hl 5 rfl) ?_
    refine lv_aload_n hx hb dK_moveData_167 rfl (lv_at hl 4 rfl) ?_
    refine lv_iload hx hb dK_moveData_168 (lv_at hl 2 rfl) ?_
    refine kald_8 hx hb hC hP (vin_m 3 (by decide) (by decide) (by decide)) dK_moveData_170 ?_
    refine lv_iload hx hb dK_moveData_171 (lv_at hl 0 rfl) ?_
    refine lv_iadd hx hb dK_moveData_173 ?_
    refine lv_aload_n hx hb dK_moveData_174 rfl (lv_at hl 4 rfl) ?_
    refine lv_iload_n hx hb dK_moveData_175 rfl (lv_at hl 3 rfl) ?_
    refine kald_8 hx hb hC hP (vin_m 3 (by decide) (by decide) (by decide)) dK_moveData_176 ?_
    refine kcallv (rest := []) ⟨hx, hb, hml, hown, hts⟩ hC hP hB hS (c_k_write l D q cA tN σ0 ((σ0 8 (ix ((a1 >>> ((6 : Int32) &&& 31)) &&& 7))) + (a1 &&& 63)) (σ0 8 (ix ((a1 >>> ((9 : Int32) &&& 31)) &&& 7)))) (cwV 2 hts gK_134 rfl rfl rfl hdK_write ⟨Nat.le_of_ble_eq_true rfl, Nat.le_of_ble_eq_true rfl⟩) (krv_0 hC hP) rfl hl.1 rfl (Nat.le_of_ble_eq_true rfl) dK_moveData_177 (fun σ14 H locs e14 hP hB hS => ?_)
    have hE := hE.trans (bd_e e14)
    refine lv_goto (tgt := 203) hx hb dK_moveData_180 rfl ?_
    have hl := lv_sub hl [] rfl
    exact b203 _ _ _ _ hE hl hP hB hS
  have hE := hE.trans (if_neg h13)
  rcases Classical.em ((a1 >>> ((12 : Int32) &&& 31)) = 5) with h15 | h15
  · have hE := hE.trans (if_pos h15)
    refine lv_tableIn (tgt := 183) hx hb dK_moveData_43 (by rw [h15]; decide) (by rw [h15]; decide) (by rw [h15]; rfl) rfl ?_
    refine lv_aload_n hx hb dK_moveData_183 rfl (lv_at hl 5 rfl) ?_
    refine lv_aload_n hx hb dK_moveData_184 rfl (lv_at hl 4 rfl) ?_
    refine lv_iload_n hx hb dK_moveData_185 rfl (lv_at hl 3 rfl) ?_
    refine kald_8 hx hb hC hP (vin_m 3 (by decide) (by decide) (by decide)) dK_moveData_186 ?_
    refine kcallv (rest := []) ⟨hx, hb, hml, hown, hts⟩ hC hP hB hS (c_k_push l D q cA tN σ0 (σ0 8 (ix ((a1 >>> ((9 : Int32) &&& 31)) &&& 7)))) (cwV 1 hts gK_138 rfl rfl rfl hdK_push ⟨Nat.le_of_ble_eq_true rfl, Nat.le_of_ble_eq_true rfl⟩) (krv_0 hC hP) rfl hl.1 rfl (Nat.le_of_ble_eq_true rfl) dK_moveData_187 (fun σ16 H locs e16 hP hB hS => ?_)
    have hE := hE.trans (bd_e e16)
    refine lv_goto (tgt := 203) hx hb dK_moveData_190 rfl ?_
    have hl := lv_sub hl [] rfl
    exact b203 _ _ _ _ hE hl hP hB hS
  have hE := hE.trans (if_neg h15)
  rcases Classical.em ((a1 >>> ((12 : Int32) &&& 31)) = 6) with h17 | h17
  · have hE := hE.trans (if_pos h17)
    refine lv_tableIn (tgt := 193) hx hb dK_moveData_43 (by rw [h17]; decide) (by rw [h17]; decide) (by rw [h17]; rfl) rfl ?_
    refine lv_aload_n hx hb dK_moveData_193 rfl (lv_at hl 4 rfl) ?_
    refine lv_iload_n hx hb dK_moveData_194 rfl (lv_at hl 3 rfl) ?_
    refine lv_aload_n hx hb dK_moveData_195 rfl (lv_at hl 5 rfl) ?_
    refine kcalli (rest := [.int ((a1 >>> ((9 : Int32) &&& 31)) &&& 7), .ref (q 8)]) ⟨hx, hb, hml, hown, hts⟩ hC hP hB hS (c_k_pop l D q cA tN σ0) (cwV 0 hts gK_141 rfl rfl rfl hdK_pop ⟨Nat.le_of_ble_eq_true rfl, Nat.le_of_ble_eq_true rfl⟩) (krv_0 hC hP) rfl hl.1 rfl (Nat.le_of_ble_eq_true rfl) dK_moveData_196 (fun σ18 v19 H locs e18 hP hB hS => ?_)
    have hE := hE.trans (bd2_e e18)
    refine kast_8 hx hb hC hP hS (vin_m 3 (by decide) (by decide) (by decide)) dK_moveData_199 (fun σ20 H locs e20 hP hS => ?_)
    have hE := hE.trans (bd_e e20)
    have hB : KB σ20 := by rw [e20]; exact hB
    refine lv_goto (tgt := 203) hx hb dK_moveData_200 rfl ?_
    have hl := lv_sub hl [] rfl
    exact b203 _ _ _ _ hE hl hP hB hS
  have hE := hE.trans (if_neg h17)
  · refine lv_tableOut (tgt := 203) hx hb dK_moveData_43 (by have n0 := ne_t 0 0 (by decide) h1; have n1 := ne_t 1 1 (by decide) h3; have n2 := ne_t 2 2 (by decide) h5; have n3 := ne_t 3 3 (by decide) h9; have n4 := ne_t 4 4 (by decide) h13; have n5 := ne_t 5 5 (by decide) h15; have n6 := ne_t 6 6 (by decide) h17; omega) rfl ?_
    have hl := lv_sub hl [] rfl
    exact b203 _ _ _ _ hE hl hP hB hS
set_option maxRecDepth 100000 in
set_option maxHeartbeats 4000000 in
theorem c_k_isUnknown (l : Launch) (D : va_G) (q : Nat → Nat) (cA : ClassId) (tN : Nat) (σ0 : St) (a1 : Int32) : Met l yK_isUnknown wsK_isUnknown { frames := 0, cells := 0, slots := 0, locals := 0 } (va_Pc [.ref (q 0), .int a1] (KPre D q cA tN σ0)) (va_Qi (fun r u => (u, r) = k_isUnknown σ0 a1 ∧ zb r) (KPost D q cA) (KA q)) 0 0 (KA q) := by
  refine Met.ofW (cc := cK_isUnknown) (maxL := 4) (ret := (some .boolean)) (by decide) rfl ?_
  intro p e s m args below meth c s₁ B hml hv
  obtain ⟨rfl, hP, hB, hC⟩ := hv
  have hx := B.exec
  have hb := B.bytes
  have hr := B.returns
  have hts : ∀ w ∈ gw, w.before ([.ref (q 0), .int a1] : List Value).toArray s = true := fun w h => atoms_spec (ws := wsK_isUnknown) B.pre w (List.mem_cons_of_mem _ h)
  have hown : s.vm.findClass RK = some m.cls := findClass_of_methodNamed B.named
  have hlocks := B.notSynchronized
  have hS : va_S (KA q) s.heap s.heap [] := va_S.rf
  have hl := lv_entry ([.ref (q 0), .int a1]) (n := 4) (Nat.le_of_ble_eq_true rfl)
  rw [lg_entry_eq]
  generalize (lg_sl ([.ref (q 0), .int a1]) ++ List.replicate (4 - (lg_sl ([.ref (q 0), .int a1])).length) Slot.unset).toArray = ls at hl ⊢
  have hl : lv_has ls 4 [(0, .ref (q 0)), (1, .int a1)] := hl
  have hE : k_isUnknown σ0 a1 = k_isUnknown σ0 a1 := rfl
  have b102 : ∀ (H : Heap) (locs : List Loc) (ls : Array Slot) (σ : St) (y0 : Int32), zb y0 → k_isUnknown σ0 a1 = k_isUnknown_102 σ y0 → lv_has ls 4 [] → va_P D vwCl (wsK q cA σ) H → KB σ → va_S (KA q) s.heap H locs → W p l e (headSpec wsK_isUnknown { frames := 0, cells := 0, slots := 0, locals := 0 }).room s m ([.ref (q 0), .int a1] : List Value).toArray below meth c H locs 0 0 (MQ below (va_Qi (fun r u => (u, r) = k_isUnknown σ0 a1 ∧ zb r) (KPost D q cA) (KA q)) ([.ref (q 0), .int a1] : List Value).toArray s 0 0 (KA q)) (F0 m 102 ls [.int y0]) := by
    intro H locs ls σ y0 hz_y0 hE hl hP hB hS
    exact W.zret (v := y0) hx hb hr (zb_n hz_y0).1 (fun t ht hW => ⟨⟨y0, σ, rfl, ⟨hE.symm, hz_y0⟩, ⟨by rw [ht]; exact hP, hB⟩⟩, hS.F ht⟩) hS.2.2 dK_isUnknown_102
  have b101 : ∀ (H : Heap) (locs : List Loc) (ls : Array Slot) (σ : St), k_isUnknown σ0 a1 = k_isUnknown_101 σ → lv_has ls 4 [] → va_P D vwCl (wsK q cA σ) H → KB σ → va_S (KA q) s.heap H locs → W p l e (headSpec wsK_isUnknown { frames := 0, cells := 0, slots := 0, locals := 0 }).room s m ([.ref (q 0), .int a1] : List Value).toArray below meth c H locs 0 0 (MQ below (va_Qi (fun r u => (u, r) = k_isUnknown σ0 a1 ∧ zb r) (KPost D q cA) (KA q)) ([.ref (q 0), .int a1] : List Value).toArray s 0 0 (KA q)) (F0 m 101 ls []) := by
    intro H locs ls σ hE hl hP hB hS
    refine lv_iconst (v := 0) hx hb dK_isUnknown_101 (by decide) ?_
    exact b102 _ _ _ _ 0 (by decide) hE hl hP hB hS
  have b97 : ∀ (H : Heap) (locs : List Loc) (ls : Array Slot) (σ : St), k_isUnknown σ0 a1 = k_isUnknown_97 σ → lv_has ls 4 [] → va_P D vwCl (wsK q cA σ) H → KB σ → va_S (KA q) s.heap H locs → W p l e (headSpec wsK_isUnknown { frames := 0, cells := 0, slots := 0, locals := 0 }).room s m ([.ref (q 0), .int a1] : List Value).toArray below meth c H locs 0 0 (MQ below (va_Qi (fun r u => (u, r) = k_isUnknown σ0 a1 ∧ zb r) (KPost D q cA) (KA q)) ([.ref (q 0), .int a1] : List Value).toArray s 0 0 (KA q)) (F0 m 97 ls []) := by
    intro H locs ls σ hE hl hP hB hS
    refine lv_iconst (v := 1) hx hb dK_isUnknown_97 (by decide) ?_
    refine lv_goto (tgt := 102) hx hb dK_isUnknown_98 rfl ?_
    exact b102 _ _ _ _ 1 (by decide) hE hl hP hB hS
  have b80 : ∀ (H : Heap) (locs : List Loc) (ls : Array Slot) (σ : St) (x1 : Int32) (x3 : Int32), k_isUnknown σ0 a1 = k_isUnknown_80 σ x1 x3 → lv_has ls 4 [(1, .int x1), (3, .int x3)] → va_P D vwCl (wsK q cA σ) H → KB σ → va_S (KA q) s.heap H locs → W p l e (headSpec wsK_isUnknown { frames := 0, cells := 0, slots := 0, locals := 0 }).room s m ([.ref (q 0), .int a1] : List Value).toArray below meth c H locs 0 0 (MQ below (va_Qi (fun r u => (u, r) = k_isUnknown σ0 a1 ∧ zb r) (KPost D q cA) (KA q)) ([.ref (q 0), .int a1] : List Value).toArray s 0 0 (KA q)) (F0 m 80 ls []) := by
    intro H locs ls σ x1 x3 hE hl hP hB hS
    refine lv_iload_n hx hb dK_isUnknown_80 rfl (lv_at hl 1 rfl) ?_
    refine lv_iconst (v := 4) hx hb dK_isUnknown_81 (by decide) ?_
    refine lv_iand hx hb dK_isUnknown_82 ?_
    refine lv_if_eq (tgt := 101) hx hb dK_isUnknown_83 rfl (fun h5 => ?_) (fun h5 => ?_)
    · have hE := hE.trans (if_pos h5)
      have hl := lv_sub hl [] rfl
      exact b101 _ _ _ _ hE hl hP hB hS
    · have hE := hE.trans (if_neg h5)
      refine lv_iload_n hx hb dK_isUnknown_86 rfl (lv_at hl 0 rfl) ?_
      refine lv_iconst (v := 3) hx hb dK_isUnknown_87 (by decide) ?_
      refine lv_ishr hx hb dK_isUnknown_88 ?_
      refine lv_bipush (v := 7) hx hb dK_isUnknown_89 (by decide) ?_
      refine lv_iand hx hb dK_isUnknown_91 ?_
      refine lv_bipush (v := 7) hx hb dK_isUnknown_92 (by decide) ?_
      refine lv_icmp_ne (tgt := 101) hx hb dK_isUnknown_94 rfl (fun h6 => ?_) (fun h6 => ?_)
      · have hE := hE.trans (if_neg h6)
        have hl := lv_sub hl [] rfl
        exact b101 _ _ _ _ hE hl hP hB hS
      · have hE := hE.trans (if_pos h6)
        have hl := lv_sub hl [] rfl
        exact b97 _ _ _ _ hE hl hP hB hS
  have b62 : ∀ (H : Heap) (locs : List Loc) (ls : Array Slot) (σ : St) (x1 : Int32) (x3 : Int32), k_isUnknown σ0 a1 = k_isUnknown_62 σ x1 x3 → lv_has ls 4 [(1, .int x1), (3, .int x3)] → va_P D vwCl (wsK q cA σ) H → KB σ → va_S (KA q) s.heap H locs → W p l e (headSpec wsK_isUnknown { frames := 0, cells := 0, slots := 0, locals := 0 }).room s m ([.ref (q 0), .int a1] : List Value).toArray below meth c H locs 0 0 (MQ below (va_Qi (fun r u => (u, r) = k_isUnknown σ0 a1 ∧ zb r) (KPost D q cA) (KA q)) ([.ref (q 0), .int a1] : List Value).toArray s 0 0 (KA q)) (F0 m 62 ls []) := by
    intro H locs ls σ x1 x3 hE hl hP hB hS
    refine lv_iload_n hx hb dK_isUnknown_62 rfl (lv_at hl 1 rfl) ?_
    refine lv_iconst (v := 2) hx hb dK_isUnknown_63 (by decide) ?_
    refine lv_iand hx hb dK_isUnknown_64 ?_
    refine lv_if_eq (tgt := 80) hx hb dK_isUnknown_65 rfl (fun h4 => ?_) (fun h4 => ?_)
    · have hE := hE.trans (if_pos h4)
      exact b80 _ _ _ _ x1 x3 hE hl hP hB hS
    · have hE := hE.trans (if_neg h4)
      refine lv_iload_n hx hb dK_isUnknown_68 rfl (lv_at hl 0 rfl) ?_
      refine lv_bipush (v := 6) hx hb dK_isUnknown_69 (by decide) ?_
      refine lv_ishr hx hb dK_isUnknown_71 ?_
      refine lv_bipush (v := 7) hx hb dK_isUnknown_72 (by decide) ?_
      refine lv_iand hx hb dK_isUnknown_74 ?_
      refine lv_bipush (v := 7) hx hb dK_isUnknown_75 (by decide) ?_
      refine lv_icmp_eq (tgt := 97) hx hb dK_isUnknown_77 rfl (fun h7 => ?_) (fun h7 => ?_)
      · have hE := hE.trans (if_pos h7)
        have hl := lv_sub hl [] rfl
        exact b97 _ _ _ _ hE hl hP hB hS
      · have hE := hE.trans (if_neg h7)
        exact b80 _ _ _ _ x1 x3 hE hl hP hB hS
  have b38 : ∀ (H : Heap) (locs : List Loc) (ls : Array Slot) (σ : St) (x1 : Int32) (x2 : Int32), vp_in x2 16 → k_isUnknown σ0 a1 = k_isUnknown_38 σ x1 x2 → lv_has ls 4 [(1, .int x1), (2, .int x2)] → va_P D vwCl (wsK q cA σ) H → KB σ → va_S (KA q) s.heap H locs → W p l e (headSpec wsK_isUnknown { frames := 0, cells := 0, slots := 0, locals := 0 }).room s m ([.ref (q 0), .int a1] : List Value).toArray below meth c H locs 0 0 (MQ below (va_Qi (fun r u => (u, r) = k_isUnknown σ0 a1 ∧ zb r) (KPost D q cA) (KA q)) ([.ref (q 0), .int a1] : List Value).toArray s 0 0 (KA q)) (F0 m 38 ls []) := by
    intro H locs ls σ x1 x2 hin16_x2 hE hl hP hB hS
    refine kgets hx hb hC hS hown (hts _ wK_f128) dK_isUnknown_38 ?_
    refine lv_iload_n hx hb dK_isUnknown_41 rfl (lv_at hl 1 rfl) ?_
    refine knald hx hb hC hS hin16_x2 dK_isUnknown_42 ?_
    refine lv_istore_n (lv' := [(3, .int (named (ix x2))), (1, .int x1), (2, .int x2)]) hx hb dK_isUnknown_43 rfl hl (by decide) rfl (fun ls hl => ?_)
    refine lv_iload_n hx hb dK_isUnknown_44 rfl (lv_at hl 0 rfl) ?_
    refine lv_iconst (v := 1) hx hb dK_isUnknown_45 (by decide) ?_
    refine lv_iand hx hb dK_isUnknown_46 ?_
    refine lv_if_eq (tgt := 62) hx hb dK_isUnknown_47 rfl (fun h3 => ?_) (fun h3 => ?_)
    · have hE := hE.trans (if_pos h3)
      have hl := lv_sub hl [1, 0] rfl
      exact b62 _ _ _ _ x1 (named (ix x2)) hE hl hP hB hS
    · have hE := hE.trans (if_neg h3)
      refine lv_iload_n hx hb dK_isUnknown_50 rfl (lv_at hl 1 rfl) ?_
      refine lv_bipush (v := 9) hx hb dK_isUnknown_51 (by decide) ?_
      refine lv_ishr hx hb dK_isUnknown_53 ?_
      refine lv_bipush (v := 7) hx hb dK_isUnknown_54 (by decide) ?_
      refine lv_iand hx hb dK_isUnknown_56 ?_
      refine lv_bipush (v := 7) hx hb dK_isUnknown_57 (by decide) ?_
      refine lv_icmp_eq (tgt := 97) hx hb dK_isUnknown_59 rfl (fun h8 => ?_) (fun h8 => ?_)
      · have hE := hE.trans (if_pos h8)
        have hl := lv_sub hl [] rfl
        exact b97 _ _ _ _ hE hl hP hB hS
      · have hE := hE.trans (if_neg h8)
        have hl := lv_sub hl [1, 0] rfl
        exact b62 _ _ _ _ x1 (named (ix x2)) hE hl hP hB hS
  have b36 : ∀ (H : Heap) (locs : List Loc) (ls : Array Slot) (σ : St), k_isUnknown σ0 a1 = k_isUnknown_36 σ → lv_has ls 4 [] → va_P D vwCl (wsK q cA σ) H → KB σ → va_S (KA q) s.heap H locs → W p l e (headSpec wsK_isUnknown { frames := 0, cells := 0, slots := 0, locals := 0 }).room s m ([.ref (q 0), .int a1] : List Value).toArray below meth c H locs 0 0 (MQ below (va_Qi (fun r u => (u, r) = k_isUnknown σ0 a1 ∧ zb r) (KPost D q cA) (KA q)) ([.ref (q 0), .int a1] : List Value).toArray s 0 0 (KA q)) (F0 m 36 ls []) := by
    intro H locs ls σ hE hl hP hB hS
    refine lv_iconst (v := 1) hx hb dK_isUnknown_36 (by decide) ?_
    exact W.zret (v := 1) hx hb hr (zb_n (by decide)).1 (fun t ht hW => ⟨⟨1, σ, rfl, ⟨hE.symm, (by decide)⟩, ⟨by rw [ht]; exact hP, hB⟩⟩, hS.F ht⟩) hS.2.2 dK_isUnknown_37
  refine lv_iload_n hx hb dK_isUnknown_0 rfl (lv_at hl 1 rfl) ?_
  refine lv_bipush (v := 12) hx hb dK_isUnknown_1 (by decide) ?_
  refine lv_ishr hx hb dK_isUnknown_3 ?_
  refine lv_bipush (v := 15) hx hb dK_isUnknown_4 (by decide) ?_
  refine lv_iand hx hb dK_isUnknown_6 ?_
  refine lv_istore_n (lv' := [(2, .int ((a1 >>> ((12 : Int32) &&& 31)) &&& 15)), (0, .ref (q 0)), (1, .int a1)]) hx hb dK_isUnknown_7 rfl hl (by decide) rfl (fun ls hl => ?_)
  refine lv_aload_n hx hb dK_isUnknown_8 rfl (lv_at hl 1 rfl) ?_
  refine kget_0_5 hx hb hts inK hown hC hP (hts _ wK_f28) dK_isUnknown_9 ?_
  refine kget_6_5 hx hb hts inQ hown hC hP (hts _ wK_f64) dK_isUnknown_12 ?_
  have z1 : zb (σ0 6 5) := KB_6_5 hB
  refine lv_if_eq (tgt := 38) hx hb dK_isUnknown_15 rfl (fun h2 => ?_) (fun h2 => ?_)
  · have hE := hE.trans (if_pos h2)
    have hl := lv_sub hl [2, 0] rfl
    exact b38 _ _ _ _ a1 ((a1 >>> ((12 : Int32) &&& 31)) &&& 15) (vin_m 4 (by decide) (by decide) (by decide)) hE hl hP hB hS
  · have hE := hE.trans (if_neg h2)
    refine lv_iload_n hx hb dK_isUnknown_18 rfl (lv_at hl 0 rfl) ?_
    refine lv_bipush (v := 11) hx hb dK_isUnknown_19 (by decide) ?_
    refine lv_icmp_eq (tgt := 36) hx hb dK_isUnknown_21 rfl (fun h9 => ?_) (fun h9 => ?_)
    · have hE := hE.trans (if_pos h9)
      have hl := lv_sub hl [] rfl
      exact b36 _ _ _ _ hE hl hP hB hS
    · have hE := hE.trans (if_neg h9)
      refine lv_iload_n hx hb dK_isUnknown_24 rfl (lv_at hl 0 rfl) ?_
      refine lv_bipush (v := 12) hx hb dK_isUnknown_25 (by decide) ?_
      refine lv_icmp_eq (tgt := 36) hx hb dK_isUnknown_27 rfl (fun h10 => ?_) (fun h10 => ?_)
      · have hE := hE.trans (if_pos h10)
        have hl := lv_sub hl [] rfl
        exact b36 _ _ _ _ hE hl hP hB hS
      · have hE := hE.trans (if_neg h10)
        refine lv_iload_n hx hb dK_isUnknown_30 rfl (lv_at hl 0 rfl) ?_
        refine lv_bipush (v := 15) hx hb dK_isUnknown_31 (by decide) ?_
        refine lv_icmp_ne (tgt := 38) hx hb dK_isUnknown_33 rfl (fun h11 => ?_) (fun h11 => ?_)
        · have hE := hE.trans (if_neg h11)
          have hl := lv_sub hl [2, 0] rfl
          exact b38 _ _ _ _ a1 ((a1 >>> ((12 : Int32) &&& 31)) &&& 15) (vin_m 4 (by decide) (by decide) (by decide)) hE hl hP hB hS
        · have hE := hE.trans (if_pos h11)
          have hl := lv_sub hl [] rfl
          exact b36 _ _ _ _ hE hl hP hB hS
end
section
set_option maxRecDepth 100000 in
set_option maxHeartbeats 4000000 in
theorem c_k_step (l : Launch) (D : va_G) (q : Nat → Nat) (cA : ClassId) (tN : Nat) (σ0 : St) (hact_σ0 : actOK σ0) : Met l yK_step wsK_step { frames := 5, cells := 0, slots := 0, locals := 109 } (va_Pc [.ref (q 0)] (KPre D q cA tN σ0)) (va_Qv (fun u => u = k_step σ0) (KPost D q cA) (KA q)) 0 0 (KA q) := by
  refine Met.ofW (cc := cK_step) (maxL := 2) (ret := none) (by decide) rfl ?_
  intro p e s m args below meth c s₁ B hml hv
  obtain ⟨rfl, hP, hB, hC⟩ := hv
  have hx := B.exec
  have hb := B.bytes
  have hr := B.returns
  have hts : ∀ w ∈ gw, w.before ([.ref (q 0)] : List Value).toArray s = true := fun w h => atoms_spec (ws := wsK_step) B.pre w (List.mem_cons_of_mem _ h)
  have hown : s.vm.findClass RK = some m.cls := findClass_of_methodNamed B.named
  have hlocks := B.notSynchronized
  have hS : va_S (KA q) s.heap s.heap [] := va_S.rf
  have hl := lv_entry ([.ref (q 0)]) (n := 2) (Nat.le_of_ble_eq_true rfl)
  rw [lg_entry_eq]
  generalize (lg_sl ([.ref (q 0)]) ++ List.replicate (2 - (lg_sl ([.ref (q 0)])).length) Slot.unset).toArray = ls at hl ⊢
  have hl : lv_has ls 2 [(0, .ref (q 0))] := hl
  have hE : k_step σ0 = k_step σ0 := rfl
  have b106 : ∀ (H : Heap) (locs : List Loc) (ls : Array Slot) (σ : St), k_step σ0 = k_step_106 σ → lv_has ls 2 [] → va_P D vwCl (wsK q cA σ) H → KB σ → va_S (KA q) s.heap H locs → W p l e (headSpec wsK_step { frames := 5, cells := 0, slots := 0, locals := 109 }).room s m ([.ref (q 0)] : List Value).toArray below meth c H locs 0 0 (MQ below (va_Qv (fun u => u = k_step σ0) (KPost D q cA) (KA q)) ([.ref (q 0)] : List Value).toArray s 0 0 (KA q)) (F0 m 106 ls []) := by
    intro H locs ls σ hE hl hP hB hS
    exact W.vret hx hb hr (fun t ht hW => ⟨⟨σ, rfl, hE.symm, ⟨by rw [ht]; exact hP, hB⟩⟩, hS.F ht⟩) hS.2.2 dK_step_106
  have b95 : ∀ (H : Heap) (locs : List Loc) (ls : Array Slot) (σ : St), k_step σ0 = k_step_95 σ → lv_has ls 2 [(0, .ref (q 0))] → va_P D vwCl (wsK q cA σ) H → KB σ → va_S (KA q) s.heap H locs → W p l e (headSpec wsK_step { frames := 5, cells := 0, slots := 0, locals := 109 }).room s m ([.ref (q 0)] : List Value).toArray below meth c H locs 0 0 (MQ below (va_Qv (fun u => u = k_step σ0) (KPost D q cA) (KA q)) ([.ref (q 0)] : List Value).toArray s 0 0 (KA q)) (F0 m 95 ls []) := by
    intro H locs ls σ hE hl hP hB hS
    refine lv_aload_n hx hb dK_step_95 rfl (lv_at hl 0 rfl) ?_
    refine kget_0_14 hx hb hts inK hown hC hP (hts _ wK_f101) dK_step_96 ?_
    refine lv_if_eq (tgt := 106) hx hb dK_step_99 rfl (fun h9 => ?_) (fun h9 => ?_)
    · have hE := hE.trans (if_pos h9)
      have hl := lv_sub hl [] rfl
      exact b106 _ _ _ _ hE hl hP hB hS
    · have hE := hE.trans (if_neg h9)
      refine lv_aload_n hx hb dK_step_102 rfl (lv_at hl 0 rfl) ?_
      refine kcallv (rest := []) ⟨hx, hb, hml, hown, hts⟩ hC hP hB hS (c_k_answerFault l D q cA tN σ) (cwV 0 hts gK_121 rfl rfl rfl hdK_answerFault ⟨Nat.le_of_ble_eq_true rfl, Nat.le_of_ble_eq_true rfl⟩) (krv_0 hC hP) rfl hl.1 rfl (Nat.le_of_ble_eq_true rfl) dK_step_103 (fun σ10 H locs e10 hP hB hS => ?_)
      have hE := hE.trans (bd_e e10)
      have hl := lv_sub hl [] rfl
      exact b106 _ _ _ _ hE hl hP hB hS
  have b53 : ∀ (H : Heap) (locs : List Loc) (ls : Array Slot) (σ : St) (x1 : Int32), k_step σ0 = k_step_53 σ x1 → lv_has ls 2 [(0, .ref (q 0)), (1, .int x1)] → va_P D vwCl (wsK q cA σ) H → KB σ → va_S (KA q) s.heap H locs → W p l e (headSpec wsK_step { frames := 5, cells := 0, slots := 0, locals := 109 }).room s m ([.ref (q 0)] : List Value).toArray below meth c H locs 0 0 (MQ below (va_Qv (fun u => u = k_step σ0) (KPost D q cA) (KA q)) ([.ref (q 0)] : List Value).toArray s 0 0 (KA q)) (F0 m 53 ls []) := by
    intro H locs ls σ x1 hE hl hP hB hS
    refine lv_aload_n hx hb dK_step_53 rfl (lv_at hl 0 rfl) ?_
    refine kget_0_14 hx hb hts inK hown hC hP (hts _ wK_f101) dK_step_54 ?_
    refine lv_if_ne (tgt := 95) hx hb dK_step_57 rfl (fun h8 => ?_) (fun h8 => ?_)
    · have hE := hE.trans (if_neg h8)
      have hl := lv_sub hl [0] rfl
      exact b95 _ _ _ _ hE hl hP hB hS
    · have hE := hE.trans (if_pos h8)
      refine lv_aload_n hx hb dK_step_60 rfl (lv_at hl 0 rfl) ?_
      refine lv_aload_n hx hb dK_step_61 rfl (lv_at hl 0 rfl) ?_
      refine kget_0_5 hx hb hts inK hown hC hP (hts _ wK_f28) dK_step_62 ?_
      refine kget_6_3 hx hb hts inQ hown hC hP (hts _ wK_f61) dK_step_65 ?_
      refine lv_iconst (v := 1) hx hb dK_step_68 (by decide) ?_
      refine lv_iadd hx hb dK_step_69 ?_
      refine kcallv (rest := []) ⟨hx, hb, hml, hown, hts⟩ hC hP hB hS (c_k_goTo l D q cA tN σ ((σ 6 3) + 1)) (cwV 1 hts gK_111 rfl rfl rfl hdK_goTo ⟨Nat.le_of_ble_eq_true rfl, Nat.le_of_ble_eq_true rfl⟩) (krv_0 hC hP) rfl hl.1 rfl (Nat.le_of_ble_eq_true rfl) dK_step_70 (fun σ11 H locs e11 hP hB hS => ?_)
      have hE := hE.trans (bd_e e11)
      refine lv_iload_n hx hb dK_step_73 rfl (lv_at hl 1 rfl) ?_
      refine lv_bipush (v := 12) hx hb dK_step_74 (by decide) ?_
      refine lv_ishr hx hb dK_step_76 ?_
      refine lv_bipush (v := 6) hx hb dK_step_77 (by decide) ?_
      refine lv_icmp_gt (tgt := 90) hx hb dK_step_79 rfl (fun h12 => ?_) (fun h12 => ?_)
      · have hE := hE.trans (if_pos h12)
        refine lv_aload_n hx hb dK_step_90 rfl (lv_at hl 0 rfl) ?_
        refine lv_iload_n hx hb dK_step_91 rfl (lv_at hl 1 rfl) ?_
        refine kcallv (rest := []) ⟨hx, hb, hml, hown, hts⟩ hC hP hB hS (c_k_changeFlow l D q cA tN σ11 x1) (cwV 1 hts gK_118 rfl rfl rfl hdK_changeFlow ⟨Nat.le_of_ble_eq_true rfl, Nat.le_of_ble_eq_true rfl⟩) (krv_0 hC hP) rfl hl.1 rfl (Nat.le_of_ble_eq_true rfl) dK_step_92 (fun σ13 H locs e13 hP hB hS => ?_)
        have hE := hE.trans (bd_e e13)
        have hl := lv_sub hl [0] rfl
        exact b95 _ _ _ _ hE hl hP hB hS
      · have hE := hE.trans (if_neg h12)
        refine lv_aload_n hx hb dK_step_82 rfl (lv_at hl 0 rfl) ?_
        refine lv_iload_n hx hb dK_step_83 rfl (lv_at hl 1 rfl) ?_
        refine kcallv (rest := []) ⟨hx, hb, hml, hown, hts⟩ hC hP hB hS (c_k_moveData l D q cA tN σ11 x1) (cwV 1 hts gK_115 rfl rfl rfl hdK_moveData ⟨Nat.le_of_ble_eq_true rfl, Nat.le_of_ble_eq_true rfl⟩) (krv_0 hC hP) rfl hl.1 rfl (Nat.le_of_ble_eq_true rfl) dK_step_84 (fun σ14 H locs e14 hP hB hS => ?_)
        have hE := hE.trans (bd_e e14)
        refine lv_goto (tgt := 95) hx hb dK_step_87 rfl ?_
        have hl := lv_sub hl [0] rfl
        exact b95 _ _ _ _ hE hl hP hB hS
  refine lv_aload_n hx hb dK_step_0 rfl (lv_at hl 0 rfl) ?_
  refine kcallv (rest := []) ⟨hx, hb, hml, hown, hts⟩ hC hP hB hS (c_k_takePending l D q cA tN σ0 hact_σ0) (cwV 0 hts gK_94 rfl rfl rfl hdK_takePending ⟨Nat.le_of_ble_eq_true rfl, Nat.le_of_ble_eq_true rfl⟩) (krv_0 hC hP) rfl hl.1 rfl (Nat.le_of_ble_eq_true rfl) dK_step_1 (fun σ1 H locs e1 hP hB hS => ?_)
  have hE := hE.trans (bd_e e1)
  refine lv_aload_n hx hb dK_step_4 rfl (lv_at hl 0 rfl) ?_
  refine kget_0_11 hx hb hts inK hown hC hP (hts _ wK_f76) dK_step_5 ?_
  refine lv_if_eq (tgt := 12) hx hb dK_step_8 rfl (fun h2 => ?_) (fun h2 => ?_)
  · have hE := hE.trans (if_pos h2)
    refine lv_aload_n hx hb dK_step_12 rfl (lv_at hl 0 rfl) ?_
    refine kget_0_6 hx hb hts inK hown hC hP (hts _ wK_f32) dK_step_13 ?_
    refine lv_aload_n hx hb dK_step_16 rfl (lv_at hl 0 rfl) ?_
    refine kget_0_5 hx hb hts inK hown hC hP (hts _ wK_f28) dK_step_17 ?_
    refine kcallv (rest := []) ⟨hx, hb, hml, hown, hts⟩ hC hP hB hS (c_k_copy_76 l D q cA tN σ1) (cwV 1 hts gK_97 rfl rfl rfl hdQ_copy ⟨Nat.le_of_ble_eq_true rfl, Nat.le_of_ble_eq_true rfl⟩) (krv_7 hC hP) rfl hl.1 rfl (Nat.le_of_ble_eq_true rfl) dK_step_20 (fun σ3 H locs e3 hP hB hS => ?_)
    have hE := hE.trans (bd_e e3)
    refine lv_aload_n hx hb dK_step_23 rfl (lv_at hl 0 rfl) ?_
    refine lv_iconst (v := 0) hx hb dK_step_24 (by decide) ?_
    refine kput_0_14 hx hb hts inK hown hC hP (hts _ wK_f101) hS dK_step_25 (fun σ4 H locs e4 hP hS => ?_)
    have hE := hE.trans (bd_e e4)
    have hB : KB σ4 := by rw [e4]; exact hB
    refine lv_aload_n hx hb dK_step_28 rfl (lv_at hl 0 rfl) ?_
    refine kcalli (rest := []) ⟨hx, hb, hml, hown, hts⟩ hC hP hB hS (c_k_fetch l D q cA tN σ4) (cwV 0 hts gK_104 rfl rfl rfl hdK_fetch ⟨Nat.le_of_ble_eq_true rfl, Nat.le_of_ble_eq_true rfl⟩) (krv_0 hC hP) rfl hl.1 rfl (Nat.le_of_ble_eq_true rfl) dK_step_29 (fun σ5 v6 H locs e5 hP hB hS => ?_)
    have hE := hE.trans (bd2_e e5)
    refine lv_istore_n (lv' := [(1, .int v6), (0, .ref (q 0))]) hx hb dK_step_32 rfl hl (by decide) rfl (fun ls hl => ?_)
    refine lv_aload_n hx hb dK_step_33 rfl (lv_at hl 1 rfl) ?_
    refine kget_0_14 hx hb hts inK hown hC hP (hts _ wK_f101) dK_step_34 ?_
    refine lv_if_ne (tgt := 53) hx hb dK_step_37 rfl (fun h7 => ?_) (fun h7 => ?_)
    · have hE := hE.trans (if_neg h7)
      have hl := lv_sub hl [1, 0] rfl
      exact b53 _ _ _ _ v6 hE hl hP hB hS
    · have hE := hE.trans (if_pos h7)
      refine lv_aload_n hx hb dK_step_40 rfl (lv_at hl 1 rfl) ?_
      refine lv_iload_n hx hb dK_step_41 rfl (lv_at hl 0 rfl) ?_
      refine kcalli (rest := []) ⟨hx, hb, hml, hown, hts⟩ hC hP hB hS (c_k_isUnknown l D q cA tN σ5 v6) (cwV 1 hts gK_108 rfl rfl rfl hdK_isUnknown ⟨Nat.le_of_ble_eq_true rfl, Nat.le_of_ble_eq_true rfl⟩) (krv_0 hC hP) rfl hl.1 rfl (Nat.le_of_ble_eq_true rfl) dK_step_42 (fun σ15 v16 H locs e15 hP hB hS => ?_)
      have z15 : zb v16 := e15.2
      have hE := hE.trans (bd2_e e15.1)
      refine lv_if_eq (tgt := 53) hx hb dK_step_45 rfl (fun h17 => ?_) (fun h17 => ?_)
      · have hE := hE.trans (if_pos h17)
        have hl := lv_sub hl [1, 0] rfl
        exact b53 _ _ _ _ v6 hE hl hP hB hS
      · have hE := hE.trans (if_neg h17)
        refine lv_aload_n hx hb dK_step_48 rfl (lv_at hl 1 rfl) ?_
        refine lv_iconst (v := 1) hx hb dK_step_49 (by decide) ?_
        refine kput_0_14 hx hb hts inK hown hC hP (hts _ wK_f101) hS dK_step_50 (fun σ18 H locs e18 hP hS => ?_)
        have hE := hE.trans (bd_e e18)
        have hB : KB σ18 := by rw [e18]; exact hB
        have hl := lv_sub hl [1, 0] rfl
        exact b53 _ _ _ _ v6 hE hl hP hB hS
  · have hE := hE.trans (if_neg h2)
    exact W.vret hx hb hr (fun t ht hW => ⟨⟨σ1, rfl, hE.symm, ⟨by rw [ht]; exact hP, hB⟩⟩, hS.F ht⟩) hS.2.2 dK_step_11
end
