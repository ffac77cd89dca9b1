def gw : List Cond := lw_tbl.filter goodWord
theorem gw_m {w : Cond} {i : Nat} (h : lw_tbl[i]? = some w) (hg : goodWord w = true) : w ∈ gw := List.mem_filter.mpr ⟨List.mem_of_getElem? h, hg⟩
abbrev RK : String := "TwoWorlds"
def TK : u_T := fun k => match k with
  | 0 => ("TwoWorlds", "words", "[I", true)
  | 1 => ("TwoWorlds", "kinds", "[I", true)
  | 2 => ("TwoWorlds", "regionFirst", "[I", true)
  | 3 => ("TwoWorlds", "regionLast", "[I", true)
  | 4 => ("TwoWorlds", "regionKind", "[I", true)
  | 5 => ("TwoWorlds", "now", "LTwoWorlds$Registers;", true)
  | 6 => ("TwoWorlds", "before", "LTwoWorlds$Registers;", true)
  | 7 => ("TwoWorlds", "breachesEnabled", "Z", false)
  | 8 => ("TwoWorlds", "closedExceptions", "I", false)
  | 9 => ("TwoWorlds", "closedBase", "I", false)
  | 10 => ("TwoWorlds", "openBase", "I", false)
  | 11 => ("TwoWorlds", "state", "I", false)
  | 12 => ("TwoWorlds", "pending", "I", false)
  | 13 => ("TwoWorlds", "takenLast", "I", false)
  | _ => ("TwoWorlds", "fault", "I", false)
def tyK : Nat → FieldType := fun k => match k with
  | 0 => .array .int
  | 1 => .array .int
  | 2 => .array .int
  | 3 => .array .int
  | 4 => .array .int
  | 5 => .object "TwoWorlds$Registers"
  | 6 => .object "TwoWorlds$Registers"
  | 7 => .boolean
  | 8 => .int
  | 9 => .int
  | 10 => .int
  | 11 => .int
  | 12 => .int
  | 13 => .int
  | _ => .int
theorem nmK : ∀ a, a < 15 → ∀ b, b < 15 → a ≠ b → (TK a).2.1 ≠ (TK b).2.1 := by decide +kernel
theorem tyK_ok : ∀ k, k < 15 → parseFieldDescriptor (TK k).2.2.1 = some (tyK k) := by decide +kernel
theorem inK_0 : ∀ w ∈ u_ws RK TK 15, w ∈ lw_tbl := by decide +kernel
theorem inK_1 : (u_ws RK TK 15).all goodWord = true := by decide +kernel
theorem inK : ∀ w ∈ u_ws RK TK 15, w ∈ gw := fun w h => List.mem_filter.mpr ⟨inK_0 w h, List.all_eq_true.mp inK_1 w h⟩
abbrev RQ : String := "TwoWorlds$Registers"
def TQ : u_T := fun k => match k with
  | 0 => ("TwoWorlds$Registers", "\x72", "[I", true)
  | 1 => ("TwoWorlds$Registers", "closedStack", "I", false)
  | 2 => ("TwoWorlds$Registers", "openStack", "I", false)
  | 3 => ("TwoWorlds$Registers", "pc", "I", false)
  | 4 => ("TwoWorlds$Registers", "zero", "Z", false)
  | 5 => ("TwoWorlds$Registers", "open", "Z", false)
  | _ => ("TwoWorlds$Registers", "active", "I", false)
def tyQ : Nat → FieldType := fun k => match k with
  | 0 => .array .int
  | 1 => .int
  | 2 => .int
  | 3 => .int
  | 4 => .boolean
  | 5 => .boolean
  | _ => .int
theorem nmQ : ∀ a, a < 7 → ∀ b, b < 7 → a ≠ b → (TQ a).2.1 ≠ (TQ b).2.1 := by decide +kernel
theorem tyQ_ok : ∀ k, k < 7 → parseFieldDescriptor (TQ k).2.2.1 = some (tyQ k) := by decide +kernel
theorem inQ_0 : ∀ w ∈ u_ws RQ TQ 7, w ∈ lw_tbl := by decide +kernel
theorem inQ_1 : (u_ws RQ TQ 7).all goodWord = true := by decide +kernel
theorem inQ : ∀ w ∈ u_ws RQ TQ 7, w ∈ gw := fun w h => List.mem_filter.mpr ⟨inQ_0 w h, List.all_eq_true.mp inQ_1 w h⟩
abbrev RM : String := "TwoWorldsModel"
def TM : u_T := fun k => match k with
  | 0 => ("TwoWorldsModel", "memory", "[I", false)
  | 1 => ("TwoWorldsModel", "first", "[I", false)
  | 2 => ("TwoWorldsModel", "last", "[I", false)
  | 3 => ("TwoWorldsModel", "kinds", "[I", false)
  | 4 => ("TwoWorldsModel", "enabled", "Z", false)
  | 5 => ("TwoWorldsModel", "closedOnes", "I", false)
  | 6 => ("TwoWorldsModel", "closedBase", "I", false)
  | 7 => ("TwoWorldsModel", "openBase", "I", false)
  | 8 => ("TwoWorldsModel", "\x72", "[I", false)
  | 9 => ("TwoWorldsModel", "kept", "[I", false)
  | 10 => ("TwoWorldsModel", "active", "I", false)
  | 11 => ("TwoWorldsModel", "state", "I", false)
  | 12 => ("TwoWorldsModel", "pending", "I", false)
  | 13 => ("TwoWorldsModel", "latest", "I", false)
  | _ => ("TwoWorldsModel", "against", "I", false)
def tyM : Nat → FieldType := fun k => match k with
  | 0 => .array .int
  | 1 => .array .int
  | 2 => .array .int
  | 3 => .array .int
  | 4 => .boolean
  | 5 => .int
  | 6 => .int
  | 7 => .int
  | 8 => .array .int
  | 9 => .array .int
  | 10 => .int
  | 11 => .int
  | 12 => .int
  | 13 => .int
  | _ => .int
theorem nmM : ∀ a, a < 15 → ∀ b, b < 15 → a ≠ b → (TM a).2.1 ≠ (TM b).2.1 := by decide +kernel
theorem tyM_ok : ∀ k, k < 15 → parseFieldDescriptor (TM k).2.2.1 = some (tyM k) := by decide +kernel
theorem inM_0 : ∀ w ∈ u_ws RM TM 15, w ∈ lw_tbl := by decide +kernel
theorem inM_1 : (u_ws RM TM 15).all goodWord = true := by decide +kernel
theorem inM : ∀ w ∈ u_ws RM TM 15, w ∈ gw := fun w h => List.mem_filter.mpr ⟨inM_0 w h, List.all_eq_true.mp inM_1 w h⟩
abbrev RL : String := "TwoWorldsLaw"
abbrev vwCl : List vw_C := [(RK, TK, 15), (RQ, TQ, 7), (RM, TM, 15)]
theorem lw_good : GoodIn gw gw := fun w h => ⟨h, good_of_word (List.mem_filter.mp h).2⟩
theorem nm_c {w : Cond} (h : w ∈ gw) : GoodIn gw (w :: gw) := fun v hv => (List.mem_cons.mp hv).elim (fun e => by rw [e]; exact lw_good w h) (fun h2 => lw_good v h2)
theorem nm_V {own C : String} {i n : Nat} {y : MethodName} {cc : ByteArray} {r : Option FieldType} (h1 : Cond.methodLink own i y ∈ gw) (h2 : Cond.instanceMethod y ∈ gw) (h3 : Cond.selects C y y ∈ gw) (h4 : Cond.initialized C ∈ gw) (h5 : Cond.code y cc n r ∈ gw) : GoodIn gw (wsV own i C y (Cond.code y cc n r :: gw)) := by
  intro w hw
  unfold wsV at hw
  rcases List.mem_append.mp hw with h | h
  · rcases List.mem_cons.mp h with rfl | h
    · exact lw_good _ h1
    · rcases List.mem_cons.mp h with rfl | h
      · exact lw_good _ h2
      · rcases List.mem_cons.mp h with rfl | h
        · exact lw_good _ h3
        · rcases List.mem_cons.mp h with rfl | h
          · exact lw_good _ h4
          · exact absurd h List.not_mem_nil
  · exact nm_c h5 w h
theorem nm_S {own : String} {i n : Nat} {y : MethodName} {cc : ByteArray} {r : Option FieldType} (h1 : Cond.methodLink own i y ∈ gw) (h2 : Cond.static y ∈ gw) (h3 : Cond.initialized y.cls ∈ gw) (h5 : Cond.code y cc n r ∈ gw) : GoodIn gw (va_wsS own i y (Cond.code y cc n r :: gw)) := by
  intro w hw
  unfold va_wsS at hw
  rcases List.mem_append.mp hw with h | h
  · rcases List.mem_cons.mp h with rfl | h
    · exact lw_good _ h1
    · rcases List.mem_cons.mp h with rfl | h
      · exact lw_good _ h2
      · rcases List.mem_cons.mp h with rfl | h
        · exact lw_good _ h3
        · exact absurd h List.not_mem_nil
  · exact nm_c h5 w h
abbrev cK_init : ByteArray := prog_1_method_1_code
abbrev yK_init : MethodName := ⟨RK, "<init>", "()V"⟩
abbrev wsK_init : List Cond := Cond.code yK_init cK_init 1 none :: gw
abbrev cK_poke : ByteArray := prog_1_method_2_code
abbrev yK_poke : MethodName := ⟨RK, "poke", "(II)I"⟩
abbrev wsK_poke : List Cond := Cond.code yK_poke cK_poke 5 (some .int) :: gw
abbrev cK_fill : ByteArray := prog_1_method_3_code
abbrev yK_fill : MethodName := ⟨RK, "fill", "(IJ)Z"⟩
abbrev wsK_fill : List Cond := Cond.code yK_fill cK_fill 5 (some .boolean) :: gw
abbrev cK_region : ByteArray := prog_1_method_4_code
abbrev yK_region : MethodName := ⟨RK, "region", "(IIII)Z"⟩
abbrev wsK_region : List Cond := Cond.code yK_region cK_region 6 (some .boolean) :: gw
abbrev cK_settings : ByteArray := prog_1_method_5_code
abbrev yK_settings : MethodName := ⟨RK, "settings", "(ZIII)Z"⟩
abbrev wsK_settings : List Cond := Cond.code yK_settings cK_settings 5 (some .boolean) :: gw
abbrev cK_begin : ByteArray := prog_1_method_6_code
abbrev yK_begin : MethodName := ⟨RK, "begin", "(IZII)Z"⟩
abbrev wsK_begin : List Cond := Cond.code yK_begin cK_begin 5 (some .boolean) :: gw
abbrev cK_set : ByteArray := prog_1_method_7_code
abbrev yK_set : MethodName := ⟨RK, "set", "(II)Z"⟩
abbrev wsK_set : List Cond := Cond.code yK_set cK_set 3 (some .boolean) :: gw
abbrev cK_interrupt : ByteArray := prog_1_method_8_code
abbrev yK_interrupt : MethodName := ⟨RK, "interrupt", "(I)Z"⟩
abbrev wsK_interrupt : List Cond := Cond.code yK_interrupt cK_interrupt 2 (some .boolean) :: gw
abbrev cK_run : ByteArray := prog_1_method_9_code
abbrev yK_run : MethodName := ⟨RK, "run", "(I)I"⟩
abbrev wsK_run : List Cond := Cond.code yK_run cK_run 3 (some .int) :: gw
abbrev cK_word : ByteArray := prog_1_method_10_code
abbrev yK_word : MethodName := ⟨RK, "word", "(I)I"⟩
abbrev wsK_word : List Cond := Cond.code yK_word cK_word 2 (some .int) :: gw
abbrev cK_register : ByteArray := prog_1_method_11_code
abbrev yK_register : MethodName := ⟨RK, "register", "(I)I"⟩
abbrev wsK_register : List Cond := Cond.code yK_register cK_register 2 (some .int) :: gw
abbrev cK_kind : ByteArray := prog_1_method_12_code
abbrev yK_kind : MethodName := ⟨RK, "kind", "(I)I"⟩
abbrev wsK_kind : List Cond := Cond.code yK_kind cK_kind 2 (some .int) :: gw
abbrev cK_isAddress : ByteArray := prog_1_method_13_code
abbrev yK_isAddress : MethodName := ⟨RK, "isAddress", "(I)Z"⟩
abbrev wsK_isAddress : List Cond := Cond.code yK_isAddress cK_isAddress 1 (some .boolean) :: gw
abbrev cK_isBase : ByteArray := prog_1_method_14_code
abbrev yK_isBase : MethodName := ⟨RK, "isBase", "(I)Z"⟩
abbrev wsK_isBase : List Cond := Cond.code yK_isBase cK_isBase 1 (some .boolean) :: gw
abbrev cK_kindByRegions : ByteArray := prog_1_method_15_code
abbrev yK_kindByRegions : MethodName := ⟨RK, "kindByRegions", "(I)I"⟩
abbrev wsK_kindByRegions : List Cond := Cond.code yK_kindByRegions cK_kindByRegions 5 (some .int) :: gw
abbrev cK_step : ByteArray := prog_1_method_16_code
abbrev yK_step : MethodName := ⟨RK, "step", "()V"⟩
abbrev wsK_step : List Cond := Cond.code yK_step cK_step 2 none :: gw
abbrev cK_takePending : ByteArray := prog_1_method_17_code
abbrev yK_takePending : MethodName := ⟨RK, "takePending", "()V"⟩
abbrev wsK_takePending : List Cond := Cond.code yK_takePending cK_takePending 3 none :: gw
abbrev cK_fetch : ByteArray := prog_1_method_18_code
abbrev yK_fetch : MethodName := ⟨RK, "fetch", "()I"⟩
abbrev wsK_fetch : List Cond := Cond.code yK_fetch cK_fetch 3 (some .int) :: gw
abbrev cK_isUnknown : ByteArray := prog_1_method_19_code
abbrev yK_isUnknown : MethodName := ⟨RK, "isUnknown", "(I)Z"⟩
abbrev wsK_isUnknown : List Cond := Cond.code yK_isUnknown cK_isUnknown 4 (some .boolean) :: gw
abbrev cK_moveData : ByteArray := prog_1_method_20_code
abbrev yK_moveData : MethodName := ⟨RK, "moveData", "(I)V"⟩
abbrev wsK_moveData : List Cond := Cond.code yK_moveData cK_moveData 7 none :: gw
abbrev cK_changeFlow : ByteArray := prog_1_method_21_code
abbrev yK_changeFlow : MethodName := ⟨RK, "changeFlow", "(I)V"⟩
abbrev wsK_changeFlow : List Cond := Cond.code yK_changeFlow cK_changeFlow 3 none :: gw
abbrev cK_goTo : ByteArray := prog_1_method_22_code
abbrev yK_goTo : MethodName := ⟨RK, "goTo", "(I)V"⟩
abbrev wsK_goTo : List Cond := Cond.code yK_goTo cK_goTo 2 none :: gw
abbrev cK_call : ByteArray := prog_1_method_23_code
abbrev yK_call : MethodName := ⟨RK, "call", "(I)V"⟩
abbrev wsK_call : List Cond := Cond.code yK_call cK_call 2 none :: gw
abbrev cK_goOut : ByteArray := prog_1_method_24_code
abbrev yK_goOut : MethodName := ⟨RK, "goOut", "(I)V"⟩
abbrev wsK_goOut : List Cond := Cond.code yK_goOut cK_goOut 2 none :: gw
abbrev cK_callOut : ByteArray := prog_1_method_25_code
abbrev yK_callOut : MethodName := ⟨RK, "callOut", "(I)V"⟩
abbrev wsK_callOut : List Cond := Cond.code yK_callOut cK_callOut 2 none :: gw
abbrev cK_goBack : ByteArray := prog_1_method_26_code
abbrev yK_goBack : MethodName := ⟨RK, "goBack", "()V"⟩
abbrev wsK_goBack : List Cond := Cond.code yK_goBack cK_goBack 2 none :: gw
abbrev cK_endOutCall : ByteArray := prog_1_method_27_code
abbrev yK_endOutCall : MethodName := ⟨RK, "endOutCall", "()V"⟩
abbrev wsK_endOutCall : List Cond := Cond.code yK_endOutCall cK_endOutCall 1 none :: gw
abbrev cK_endException : ByteArray := prog_1_method_28_code
abbrev yK_endException : MethodName := ⟨RK, "endException", "(I)V"⟩
abbrev wsK_endException : List Cond := Cond.code yK_endException cK_endException 4 none :: gw
abbrev cK_answerFault : ByteArray := prog_1_method_29_code
abbrev yK_answerFault : MethodName := ⟨RK, "answerFault", "()V"⟩
abbrev wsK_answerFault : List Cond := Cond.code yK_answerFault cK_answerFault 2 none :: gw
abbrev cK_take : ByteArray := prog_1_method_30_code
abbrev yK_take : MethodName := ⟨RK, "take", "(I)V"⟩
abbrev wsK_take : List Cond := Cond.code yK_take cK_take 2 none :: gw
abbrev cK_pushFrame : ByteArray := prog_1_method_31_code
abbrev yK_pushFrame : MethodName := ⟨RK, "pushFrame", "()V"⟩
abbrev wsK_pushFrame : List Cond := Cond.code yK_pushFrame cK_pushFrame 2 none :: gw
abbrev cK_enter : ByteArray := prog_1_method_32_code
abbrev yK_enter : MethodName := ⟨RK, "enter", "(I)V"⟩
abbrev wsK_enter : List Cond := Cond.code yK_enter cK_enter 3 none :: gw
abbrev cK_isHandledOpen : ByteArray := prog_1_method_33_code
abbrev yK_isHandledOpen : MethodName := ⟨RK, "isHandledOpen", "(I)Z"⟩
abbrev wsK_isHandledOpen : List Cond := Cond.code yK_isHandledOpen cK_isHandledOpen 2 (some .boolean) :: gw
abbrev cK_push : ByteArray := prog_1_method_34_code
abbrev yK_push : MethodName := ⟨RK, "push", "(I)V"⟩
abbrev wsK_push : List Cond := Cond.code yK_push cK_push 3 none :: gw
abbrev cK_pop : ByteArray := prog_1_method_35_code
abbrev yK_pop : MethodName := ⟨RK, "pop", "()I"⟩
abbrev wsK_pop : List Cond := Cond.code yK_pop cK_pop 2 (some .int) :: gw
abbrev cK_read : ByteArray := prog_1_method_36_code
abbrev yK_read : MethodName := ⟨RK, "read", "(I)I"⟩
abbrev wsK_read : List Cond := Cond.code yK_read cK_read 3 (some .int) :: gw
abbrev cK_write : ByteArray := prog_1_method_37_code
abbrev yK_write : MethodName := ⟨RK, "write", "(II)V"⟩
abbrev wsK_write : List Cond := Cond.code yK_write cK_write 4 none :: gw
abbrev cQ_init : ByteArray := prog_2_method_1_code
abbrev yQ_init : MethodName := ⟨RQ, "<init>", "()V"⟩
abbrev wsQ_init : List Cond := Cond.code yQ_init cQ_init 1 none :: gw
abbrev cQ_copy : ByteArray := prog_2_method_2_code
abbrev yQ_copy : MethodName := ⟨RQ, "copy", "(LTwoWorlds$Registers;)V"⟩
abbrev wsQ_copy : List Cond := Cond.code yQ_copy cQ_copy 2 none :: gw
abbrev cQ_stack : ByteArray := prog_2_method_3_code
abbrev yQ_stack : MethodName := ⟨RQ, "stack", "()I"⟩
abbrev wsQ_stack : List Cond := Cond.code yQ_stack cQ_stack 1 (some .int) :: gw
abbrev cQ_setStack : ByteArray := prog_2_method_4_code
abbrev yQ_setStack : MethodName := ⟨RQ, "setStack", "(I)V"⟩
abbrev wsQ_setStack : List Cond := Cond.code yQ_setStack cQ_setStack 2 none :: gw
abbrev cQ_clearForOpen : ByteArray := prog_2_method_5_code
abbrev yQ_clearForOpen : MethodName := ⟨RQ, "clearForOpen", "()V"⟩
abbrev wsQ_clearForOpen : List Cond := Cond.code yQ_clearForOpen cQ_clearForOpen 2 none :: gw
abbrev cM_init : ByteArray := prog_4_method_1_code
abbrev yM_init : MethodName := ⟨RM, "<init>", "()V"⟩
abbrev wsM_init : List Cond := Cond.code yM_init cM_init 1 none :: gw
abbrev cM_poke : ByteArray := prog_4_method_2_code
abbrev yM_poke : MethodName := ⟨RM, "poke", "(II)I"⟩
abbrev wsM_poke : List Cond := Cond.code yM_poke cM_poke 4 (some .int) :: gw
abbrev cM_fill : ByteArray := prog_4_method_3_code
abbrev yM_fill : MethodName := ⟨RM, "fill", "(IJ)Z"⟩
abbrev wsM_fill : List Cond := Cond.code yM_fill cM_fill 5 (some .boolean) :: gw
abbrev cM_isAddress : ByteArray := prog_4_method_4_code
abbrev yM_isAddress : MethodName := ⟨RM, "isAddress", "(I)Z"⟩
abbrev wsM_isAddress : List Cond := Cond.code yM_isAddress cM_isAddress 1 (some .boolean) :: gw
abbrev cM_region : ByteArray := prog_4_method_5_code
abbrev yM_region : MethodName := ⟨RM, "region", "(IIII)Z"⟩
abbrev wsM_region : List Cond := Cond.code yM_region cM_region 5 (some .boolean) :: gw
abbrev cM_settings : ByteArray := prog_4_method_6_code
abbrev yM_settings : MethodName := ⟨RM, "settings", "(ZIII)Z"⟩
abbrev wsM_settings : List Cond := Cond.code yM_settings cM_settings 5 (some .boolean) :: gw
abbrev cM_begin : ByteArray := prog_4_method_7_code
abbrev yM_begin : MethodName := ⟨RM, "begin", "(IZII)Z"⟩
abbrev wsM_begin : List Cond := Cond.code yM_begin cM_begin 5 (some .boolean) :: gw
abbrev cM_set : ByteArray := prog_4_method_8_code
abbrev yM_set : MethodName := ⟨RM, "set", "(II)Z"⟩
abbrev wsM_set : List Cond := Cond.code yM_set cM_set 3 (some .boolean) :: gw
abbrev cM_interrupt : ByteArray := prog_4_method_9_code
abbrev yM_interrupt : MethodName := ⟨RM, "interrupt", "(I)Z"⟩
abbrev wsM_interrupt : List Cond := Cond.code yM_interrupt cM_interrupt 2 (some .boolean) :: gw
abbrev cM_kindAt : ByteArray := prog_4_method_10_code
abbrev yM_kindAt : MethodName := ⟨RM, "kindAt", "(I)I"⟩
abbrev wsM_kindAt : List Cond := Cond.code yM_kindAt cM_kindAt 6 (some .int) :: gw
abbrev cM_isOpenWorld : ByteArray := prog_4_method_11_code
abbrev yM_isOpenWorld : MethodName := ⟨RM, "isOpenWorld", "()Z"⟩
abbrev wsM_isOpenWorld : List Cond := Cond.code yM_isOpenWorld cM_isOpenWorld 1 (some .boolean) :: gw
abbrev cM_speak : ByteArray := prog_4_method_12_code
abbrev yM_speak : MethodName := ⟨RM, "speak", "(I)V"⟩
abbrev wsM_speak : List Cond := Cond.code yM_speak cM_speak 2 none :: gw
abbrev cM_mayUse : ByteArray := prog_4_method_13_code
abbrev yM_mayUse : MethodName := ⟨RM, "mayUse", "(I)Z"⟩
abbrev wsM_mayUse : List Cond := Cond.code yM_mayUse cM_mayUse 2 (some .boolean) :: gw
abbrev cM_read : ByteArray := prog_4_method_14_code
abbrev yM_read : MethodName := ⟨RM, "read", "(I)I"⟩
abbrev wsM_read : List Cond := Cond.code yM_read cM_read 2 (some .int) :: gw
abbrev cM_write : ByteArray := prog_4_method_15_code
abbrev yM_write : MethodName := ⟨RM, "write", "(II)V"⟩
abbrev wsM_write : List Cond := Cond.code yM_write cM_write 3 none :: gw
abbrev cM_stack : ByteArray := prog_4_method_16_code
abbrev yM_stack : MethodName := ⟨RM, "stack", "()I"⟩
abbrev wsM_stack : List Cond := Cond.code yM_stack cM_stack 1 (some .int) :: gw
abbrev cM_push : ByteArray := prog_4_method_17_code
abbrev yM_push : MethodName := ⟨RM, "push", "(I)V"⟩
abbrev wsM_push : List Cond := Cond.code yM_push cM_push 3 none :: gw
abbrev cM_pop : ByteArray := prog_4_method_18_code
abbrev yM_pop : MethodName := ⟨RM, "pop", "()I"⟩
abbrev wsM_pop : List Cond := Cond.code yM_pop cM_pop 3 (some .int) :: gw
abbrev cM_keep : ByteArray := prog_4_method_19_code
abbrev yM_keep : MethodName := ⟨RM, "keep", "()V"⟩
abbrev wsM_keep : List Cond := Cond.code yM_keep cM_keep 2 none :: gw
abbrev cM_takeBack : ByteArray := prog_4_method_20_code
abbrev yM_takeBack : MethodName := ⟨RM, "takeBack", "()V"⟩
abbrev wsM_takeBack : List Cond := Cond.code yM_takeBack cM_takeBack 2 none :: gw
abbrev cM_isClosedOne : ByteArray := prog_4_method_21_code
abbrev yM_isClosedOne : MethodName := ⟨RM, "isClosedOne", "(I)Z"⟩
abbrev wsM_isClosedOne : List Cond := Cond.code yM_isClosedOne cM_isClosedOne 2 (some .boolean) :: gw
abbrev cM_take : ByteArray := prog_4_method_22_code
abbrev yM_take : MethodName := ⟨RM, "take", "(II)V"⟩
abbrev wsM_take : List Cond := Cond.code yM_take cM_take 6 none :: gw
abbrev cM_fault : ByteArray := prog_4_method_23_code
abbrev yM_fault : MethodName := ⟨RM, "fault", "()V"⟩
abbrev wsM_fault : List Cond := Cond.code yM_fault cM_fault 2 none :: gw
abbrev cM_endException : ByteArray := prog_4_method_24_code
abbrev yM_endException : MethodName := ⟨RM, "endException", "()V"⟩
abbrev wsM_endException : List Cond := Cond.code yM_endException cM_endException 5 none :: gw
abbrev cM_returns : ByteArray := prog_4_method_25_code
abbrev yM_returns : MethodName := ⟨RM, "returns", "()V"⟩
abbrev wsM_returns : List Cond := Cond.code yM_returns cM_returns 3 none :: gw
abbrev cM_namesSeven : ByteArray := prog_4_method_26_code
abbrev yM_namesSeven : MethodName := ⟨RM, "namesSeven", "(IIII)Z"⟩
abbrev wsM_namesSeven : List Cond := Cond.code yM_namesSeven cM_namesSeven 6 (some .boolean) :: gw
abbrev cM_outwards : ByteArray := prog_4_method_27_code
abbrev yM_outwards : MethodName := ⟨RM, "outwards", "(IIZ)V"⟩
abbrev wsM_outwards : List Cond := Cond.code yM_outwards cM_outwards 5 none :: gw
abbrev cM_perform : ByteArray := prog_4_method_28_code
abbrev yM_perform : MethodName := ⟨RM, "perform", "(I)V"⟩
abbrev wsM_perform : List Cond := Cond.code yM_perform cM_perform 8 none :: gw
abbrev cM_call : ByteArray := prog_4_method_29_code
abbrev yM_call : MethodName := ⟨RM, "call", "(II)V"⟩
abbrev wsM_call : List Cond := Cond.code yM_call cM_call 4 none :: gw
abbrev cM_instruction : ByteArray := prog_4_method_30_code
abbrev yM_instruction : MethodName := ⟨RM, "instruction", "()V"⟩
abbrev wsM_instruction : List Cond := Cond.code yM_instruction cM_instruction 5 none :: gw
abbrev cM_step : ByteArray := prog_4_method_31_code
abbrev yM_step : MethodName := ⟨RM, "step", "()V"⟩
abbrev wsM_step : List Cond := Cond.code yM_step cM_step 3 none :: gw
abbrev cM_run : ByteArray := prog_4_method_32_code
abbrev yM_run : MethodName := ⟨RM, "run", "(I)I"⟩
abbrev wsM_run : List Cond := Cond.code yM_run cM_run 3 (some .int) :: gw
abbrev cM_word : ByteArray := prog_4_method_33_code
abbrev yM_word : MethodName := ⟨RM, "word", "(I)I"⟩
abbrev wsM_word : List Cond := Cond.code yM_word cM_word 2 (some .int) :: gw
abbrev cM_register : ByteArray := prog_4_method_34_code
abbrev yM_register : MethodName := ⟨RM, "register", "(I)I"⟩
abbrev wsM_register : List Cond := Cond.code yM_register cM_register 2 (some .int) :: gw
abbrev cM_kind : ByteArray := prog_4_method_35_code
abbrev yM_kind : MethodName := ⟨RM, "kind", "(I)I"⟩
abbrev wsM_kind : List Cond := Cond.code yM_kind cM_kind 2 (some .int) :: gw
abbrev cL_law : ByteArray := code
