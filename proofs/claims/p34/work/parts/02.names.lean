-- ===== PART A: goes FIRST, ahead of the names: the tables' words, and 'selects' of the private methods out of them =====
/-- a private method of a class that the tables say can be made, by its rows of tables_1 -/
def lw_okq (q : MethodName × Nat) : Prop := (q.1.cls ≠ "java/lang/invoke/MethodHandle" ∧ q.1.cls ≠ "java/lang/invoke/VarHandle") ∧ Cond.instantiable q.1.cls q.2 ∈ tables_1 ∧ Cond.privateMethod q.1 ∈ tables_1 ∧ Cond.instanceMethod q.1 ∈ tables_1
theorem lw_p0 : lw_okq (⟨"java/lang/Throwable", "fillInStackTrace", "(I)Ljava/lang/Throwable;"⟩, 6) := ⟨⟨by decide +kernel, by decide +kernel⟩, List.mem_of_getElem? (i := 235) (by decide +kernel), List.mem_of_getElem? (i := 233) (by decide +kernel), List.mem_of_getElem? (i := 234) (by decide +kernel)⟩
theorem lw_p1 : lw_okq (⟨"MacroWiki", "addPiece", "(III)I"⟩, 5) := ⟨⟨by decide +kernel, by decide +kernel⟩, List.mem_of_getElem? (i := 26) (by decide +kernel), List.mem_of_getElem? (i := 266) (by decide +kernel), List.mem_of_getElem? (i := 267) (by decide +kernel)⟩
theorem lw_p2 : lw_okq (⟨"MacroWiki", "rankOfUser", "(I)I"⟩, 5) := ⟨⟨by decide +kernel, by decide +kernel⟩, List.mem_of_getElem? (i := 26) (by decide +kernel), List.mem_of_getElem? (i := 384) (by decide +kernel), List.mem_of_getElem? (i := 385) (by decide +kernel)⟩
theorem lw_p3 : lw_okq (⟨"MacroWiki", "pageAt", "(I)LMacroWiki$Page;"⟩, 5) := ⟨⟨by decide +kernel, by decide +kernel⟩, List.mem_of_getElem? (i := 26) (by decide +kernel), List.mem_of_getElem? (i := 392) (by decide +kernel), List.mem_of_getElem? (i := 393) (by decide +kernel)⟩
theorem lw_p4 : lw_okq (⟨"MacroWiki", "forceOn", "(I)I"⟩, 5) := ⟨⟨by decide +kernel, by decide +kernel⟩, List.mem_of_getElem? (i := 26) (by decide +kernel), List.mem_of_getElem? (i := 398) (by decide +kernel), List.mem_of_getElem? (i := 399) (by decide +kernel)⟩
theorem lw_p5 : lw_okq (⟨"MacroWiki", "refusalOf", "(ILMacroWiki$Text;)I"⟩, 5) := ⟨⟨by decide +kernel, by decide +kernel⟩, List.mem_of_getElem? (i := 26) (by decide +kernel), List.mem_of_getElem? (i := 413) (by decide +kernel), List.mem_of_getElem? (i := 414) (by decide +kernel)⟩
theorem lw_p6 : lw_okq (⟨"MacroWiki$Net", "callsOf", "(II)I"⟩, 5) := ⟨⟨by decide +kernel, by decide +kernel⟩, List.mem_of_getElem? (i := 59) (by decide +kernel), List.mem_of_getElem? (i := 435) (by decide +kernel), List.mem_of_getElem? (i := 436) (by decide +kernel)⟩
theorem lw_p7 : lw_okq (⟨"MacroWiki$Net", "depthOverCalled", "(I)I"⟩, 5) := ⟨⟨by decide +kernel, by decide +kernel⟩, List.mem_of_getElem? (i := 59) (by decide +kernel), List.mem_of_getElem? (i := 449) (by decide +kernel), List.mem_of_getElem? (i := 450) (by decide +kernel)⟩
theorem lw_p8 : lw_okq (⟨"MacroWiki$Net", "extentOverCalled", "(I)I"⟩, 5) := ⟨⟨by decide +kernel, by decide +kernel⟩, List.mem_of_getElem? (i := 59) (by decide +kernel), List.mem_of_getElem? (i := 469) (by decide +kernel), List.mem_of_getElem? (i := 470) (by decide +kernel)⟩
theorem lw_p9 : lw_okq (⟨"MacroWiki", "hasRankBelow", "(II)Z"⟩, 5) := ⟨⟨by decide +kernel, by decide +kernel⟩, List.mem_of_getElem? (i := 26) (by decide +kernel), List.mem_of_getElem? (i := 484) (by decide +kernel), List.mem_of_getElem? (i := 485) (by decide +kernel)⟩
theorem lw_p10 : lw_okq (⟨"MacroWiki", "settle", "()V"⟩, 5) := ⟨⟨by decide +kernel, by decide +kernel⟩, List.mem_of_getElem? (i := 26) (by decide +kernel), List.mem_of_getElem? (i := 501) (by decide +kernel), List.mem_of_getElem? (i := 502) (by decide +kernel)⟩
theorem lw_p11 : lw_okq (⟨"MacroWiki", "spreadPage", "(I)V"⟩, 5) := ⟨⟨by decide +kernel, by decide +kernel⟩, List.mem_of_getElem? (i := 26) (by decide +kernel), List.mem_of_getElem? (i := 506) (by decide +kernel), List.mem_of_getElem? (i := 507) (by decide +kernel)⟩
theorem lw_p12 : lw_okq (⟨"MacroWiki", "spreadPiece", "(LMacroWiki$Spread;LMacroWiki$Text;II)V"⟩, 5) := ⟨⟨by decide +kernel, by decide +kernel⟩, List.mem_of_getElem? (i := 26) (by decide +kernel), List.mem_of_getElem? (i := 514) (by decide +kernel), List.mem_of_getElem? (i := 515) (by decide +kernel)⟩
theorem lw_p13 : lw_okq (⟨"MacroWiki", "countBreaches", "(LMacroWiki$Page;)I"⟩, 5) := ⟨⟨by decide +kernel, by decide +kernel⟩, List.mem_of_getElem? (i := 26) (by decide +kernel), List.mem_of_getElem? (i := 677) (by decide +kernel), List.mem_of_getElem? (i := 678) (by decide +kernel)⟩
theorem lw_p14 : lw_okq (⟨"MacroWiki", "behindRedirects", "(I)I"⟩, 5) := ⟨⟨by decide +kernel, by decide +kernel⟩, List.mem_of_getElem? (i := 26) (by decide +kernel), List.mem_of_getElem? (i := 686) (by decide +kernel), List.mem_of_getElem? (i := 687) (by decide +kernel)⟩
theorem lw_p15 : lw_okq (⟨"MacroWiki", "isBroken", "(LMacroWiki$Spread;I)Z"⟩, 5) := ⟨⟨by decide +kernel, by decide +kernel⟩, List.mem_of_getElem? (i := 26) (by decide +kernel), List.mem_of_getElem? (i := 716) (by decide +kernel), List.mem_of_getElem? (i := 717) (by decide +kernel)⟩
def lw_privs_1 : List (MethodName × Nat) := [(⟨"java/lang/Throwable", "fillInStackTrace", "(I)Ljava/lang/Throwable;"⟩, 6), (⟨"MacroWiki", "addPiece", "(III)I"⟩, 5), (⟨"MacroWiki", "rankOfUser", "(I)I"⟩, 5), (⟨"MacroWiki", "pageAt", "(I)LMacroWiki$Page;"⟩, 5), (⟨"MacroWiki", "forceOn", "(I)I"⟩, 5), (⟨"MacroWiki", "refusalOf", "(ILMacroWiki$Text;)I"⟩, 5), (⟨"MacroWiki$Net", "callsOf", "(II)I"⟩, 5), (⟨"MacroWiki$Net", "depthOverCalled", "(I)I"⟩, 5), (⟨"MacroWiki$Net", "extentOverCalled", "(I)I"⟩, 5), (⟨"MacroWiki", "hasRankBelow", "(II)Z"⟩, 5), (⟨"MacroWiki", "settle", "()V"⟩, 5), (⟨"MacroWiki", "spreadPage", "(I)V"⟩, 5), (⟨"MacroWiki", "spreadPiece", "(LMacroWiki$Spread;LMacroWiki$Text;II)V"⟩, 5), (⟨"MacroWiki", "countBreaches", "(LMacroWiki$Page;)I"⟩, 5), (⟨"MacroWiki", "behindRedirects", "(I)I"⟩, 5), (⟨"MacroWiki", "isBroken", "(LMacroWiki$Spread;I)Z"⟩, 5)]
theorem lw_r1 : ∀ q ∈ lw_privs_1, lw_okq q := List.forall_mem_cons.mpr ⟨lw_p0, List.forall_mem_cons.mpr ⟨lw_p1, List.forall_mem_cons.mpr ⟨lw_p2, List.forall_mem_cons.mpr ⟨lw_p3, List.forall_mem_cons.mpr ⟨lw_p4, List.forall_mem_cons.mpr ⟨lw_p5, List.forall_mem_cons.mpr ⟨lw_p6, List.forall_mem_cons.mpr ⟨lw_p7, List.forall_mem_cons.mpr ⟨lw_p8, List.forall_mem_cons.mpr ⟨lw_p9, List.forall_mem_cons.mpr ⟨lw_p10, List.forall_mem_cons.mpr ⟨lw_p11, List.forall_mem_cons.mpr ⟨lw_p12, List.forall_mem_cons.mpr ⟨lw_p13, List.forall_mem_cons.mpr ⟨lw_p14, List.forall_mem_cons.mpr ⟨lw_p15, fun _ h => absurd h List.not_mem_nil⟩⟩⟩⟩⟩⟩⟩⟩⟩⟩⟩⟩⟩⟩⟩⟩
theorem lw_p16 : lw_okq (⟨"MacroWiki", "isGood", "(I)Z"⟩, 5) := ⟨⟨by decide +kernel, by decide +kernel⟩, List.mem_of_getElem? (i := 26) (by decide +kernel), List.mem_of_getElem? (i := 720) (by decide +kernel), List.mem_of_getElem? (i := 721) (by decide +kernel)⟩
theorem lw_p17 : lw_okq (⟨"MacroWiki", "hasGoodLink", "(II)Z"⟩, 5) := ⟨⟨by decide +kernel, by decide +kernel⟩, List.mem_of_getElem? (i := 26) (by decide +kernel), List.mem_of_getElem? (i := 737) (by decide +kernel), List.mem_of_getElem? (i := 738) (by decide +kernel)⟩
theorem lw_p18 : lw_okq (⟨"MacroWiki", "leadsTo", "(II)Z"⟩, 5) := ⟨⟨by decide +kernel, by decide +kernel⟩, List.mem_of_getElem? (i := 26) (by decide +kernel), List.mem_of_getElem? (i := 741) (by decide +kernel), List.mem_of_getElem? (i := 742) (by decide +kernel)⟩
def lw_privs_2 : List (MethodName × Nat) := [(⟨"MacroWiki", "isGood", "(I)Z"⟩, 5), (⟨"MacroWiki", "hasGoodLink", "(II)Z"⟩, 5), (⟨"MacroWiki", "leadsTo", "(II)Z"⟩, 5)]
theorem lw_r2 : ∀ q ∈ lw_privs_2, lw_okq q := List.forall_mem_cons.mpr ⟨lw_p16, List.forall_mem_cons.mpr ⟨lw_p17, List.forall_mem_cons.mpr ⟨lw_p18, fun _ h => absurd h List.not_mem_nil⟩⟩⟩
def lw_privs : List (MethodName × Nat) := lw_privs_1 ++ (lw_privs_2)
def lw_tbl : List Cond := k2_sels lw_privs ++ tables_1
theorem lw_privs_ok : ∀ q ∈ lw_privs, lw_okq q := by
  show ∀ q ∈ lw_privs_1 ++ (lw_privs_2), lw_okq q
  exact List.forall_mem_append.mpr ⟨lw_r1, lw_r2⟩

def RX0 : String := "MacroWiki$Net"
def TX0 : u_T := fun k => match k with
  | 0 => ("MacroWiki$Net", "calls", "[I", true)
  | 1 => ("MacroWiki$Net", "ownExtents", "[I", true)
  | 2 => ("MacroWiki$Net", "reached", "[I", true)
  | 3 => ("MacroWiki$Net", "depths", "[I", true)
  | _ => ("MacroWiki$Net", "extents", "[I", true)
def tyX0 : Nat → FieldType := fun k => match k with
  | 0 => .array .int
  | 1 => .array .int
  | 2 => .array .int
  | 3 => .array .int
  | _ => .array .int
theorem nmX0 : ∀ a, a < 5 → ∀ b, b < 5 → a ≠ b → (TX0 a).2.1 ≠ (TX0 b).2.1 := by decide +kernel
theorem tyX0_ok : ∀ k, k < 5 → parseFieldDescriptor (TX0 k).2.2.1 = some (tyX0 k) := by decide +kernel
abbrev cX0_init : ByteArray := prog_2_method_1_code
def yX0_init : MethodName := ⟨RX0, "<init>", "()V"⟩
abbrev cX0_takeCalls : ByteArray := prog_2_method_2_code
def yX0_takeCalls : MethodName := ⟨RX0, "takeCalls", "(LMacroWiki$Net;)V"⟩
abbrev cX0_setCalls : ByteArray := prog_2_method_3_code
def yX0_setCalls : MethodName := ⟨RX0, "setCalls", "(ILMacroWiki$Text;)V"⟩
abbrev cX0_findReached : ByteArray := prog_2_method_4_code
def yX0_findReached : MethodName := ⟨RX0, "findReached", "()V"⟩
abbrev cX0_findDepths : ByteArray := prog_2_method_5_code
def yX0_findDepths : MethodName := ⟨RX0, "findDepths", "()V"⟩
abbrev cX0_depthOverCalled : ByteArray := prog_2_method_6_code
def yX0_depthOverCalled : MethodName := ⟨RX0, "depthOverCalled", "(I)I"⟩
abbrev cX0_findExtents : ByteArray := prog_2_method_7_code
def yX0_findExtents : MethodName := ⟨RX0, "findExtents", "()V"⟩
abbrev cX0_extentOverCalled : ByteArray := prog_2_method_8_code
def yX0_extentOverCalled : MethodName := ⟨RX0, "extentOverCalled", "(I)I"⟩
abbrev cX0_callsOf : ByteArray := prog_2_method_9_code
def yX0_callsOf : MethodName := ⟨RX0, "callsOf", "(II)I"⟩
abbrev cX0_reachedFrom : ByteArray := prog_2_method_10_code
def yX0_reachedFrom : MethodName := ⟨RX0, "reachedFrom", "(I)I"⟩
abbrev cX0_depthOf : ByteArray := prog_2_method_11_code
def yX0_depthOf : MethodName := ⟨RX0, "depthOf", "(I)I"⟩
abbrev cX0_extentOf : ByteArray := prog_2_method_12_code
def yX0_extentOf : MethodName := ⟨RX0, "extentOf", "(I)I"⟩
abbrev cX0_greatestDepth : ByteArray := prog_2_method_13_code
def yX0_greatestDepth : MethodName := ⟨RX0, "greatestDepth", "()I"⟩
abbrev cX0_greatestExtent : ByteArray := prog_2_method_14_code
def yX0_greatestExtent : MethodName := ⟨RX0, "greatestExtent", "()I"⟩
def RX1 : String := "MacroWiki$Page"
def TX1 : u_T := fun k => match k with
  | 0 => ("MacroWiki$Page", "now", "LMacroWiki$Version;", false)
  | 1 => ("MacroWiki$Page", "lock", "I", false)
  | _ => ("MacroWiki$Page", "spread", "LMacroWiki$Spread;", true)
def tyX1 : Nat → FieldType := fun k => match k with
  | 0 => .object "MacroWiki$Version"
  | 1 => .int
  | _ => .object "MacroWiki$Spread"
theorem nmX1 : ∀ a, a < 3 → ∀ b, b < 3 → a ≠ b → (TX1 a).2.1 ≠ (TX1 b).2.1 := by decide +kernel
theorem tyX1_ok : ∀ k, k < 3 → parseFieldDescriptor (TX1 k).2.2.1 = some (tyX1 k) := by decide +kernel
abbrev cX1_init : ByteArray := prog_3_method_1_code
def yX1_init : MethodName := ⟨RX1, "<init>", "()V"⟩
def RX2 : String := "MacroWiki$Spread"
def TX2 : u_T := fun k => match k with
  | 0 => ("MacroWiki$Spread", "needs", "[I", true)
  | 1 => ("MacroWiki$Spread", "sorts", "[I", true)
  | 2 => ("MacroWiki$Spread", "values", "[I", true)
  | 3 => ("MacroWiki$Spread", "sources", "[I", true)
  | 4 => ("MacroWiki$Spread", "size", "I", false)
  | 5 => ("MacroWiki$Spread", "anchors", "I", false)
  | 6 => ("MacroWiki$Spread", "openNeeds", "[I", true)
  | _ => ("MacroWiki$Spread", "openWhens", "I", false)
def tyX2 : Nat → FieldType := fun k => match k with
  | 0 => .array .int
  | 1 => .array .int
  | 2 => .array .int
  | 3 => .array .int
  | 4 => .int
  | 5 => .int
  | 6 => .array .int
  | _ => .int
theorem nmX2 : ∀ a, a < 8 → ∀ b, b < 8 → a ≠ b → (TX2 a).2.1 ≠ (TX2 b).2.1 := by decide +kernel
theorem tyX2_ok : ∀ k, k < 8 → parseFieldDescriptor (TX2 k).2.2.1 = some (tyX2 k) := by decide +kernel
abbrev cX2_init : ByteArray := prog_4_method_1_code
def yX2_init : MethodName := ⟨RX2, "<init>", "()V"⟩
abbrev cX2_clear : ByteArray := prog_4_method_2_code
def yX2_clear : MethodName := ⟨RX2, "clear", "()V"⟩
abbrev cX2_openWhen : ByteArray := prog_4_method_3_code
def yX2_openWhen : MethodName := ⟨RX2, "openWhen", "(I)V"⟩
abbrev cX2_closeWhen : ByteArray := prog_4_method_4_code
def yX2_closeWhen : MethodName := ⟨RX2, "closeWhen", "()V"⟩
abbrev cX2_need : ByteArray := prog_4_method_5_code
def yX2_need : MethodName := ⟨RX2, "need", "()I"⟩
abbrev cX2_together : ByteArray := prog_4_method_6_code
def yX2_together : MethodName := ⟨RX2, "together", "(II)I"⟩
abbrev cX2_add : ByteArray := prog_4_method_7_code
def yX2_add : MethodName := ⟨RX2, "add", "(IIII)V"⟩
abbrev cX2_takeCalled : ByteArray := prog_4_method_8_code
def yX2_takeCalled : MethodName := ⟨RX2, "takeCalled", "(LMacroWiki$Spread;I)V"⟩
abbrev cX2_takeCalledOn : ByteArray := prog_4_method_9_code
def yX2_takeCalledOn : MethodName := ⟨RX2, "takeCalledOn", "(LMacroWiki$Spread;)V"⟩
abbrev cX2_shows : ByteArray := prog_4_method_10_code
def yX2_shows : MethodName := ⟨RX2, "shows", "(II)Z"⟩
abbrev cX2_showsSort : ByteArray := prog_4_method_11_code
def yX2_showsSort : MethodName := ⟨RX2, "showsSort", "(II)Z"⟩
abbrev cX2_hasAnchor : ByteArray := prog_4_method_12_code
def yX2_hasAnchor : MethodName := ⟨RX2, "hasAnchor", "(I)Z"⟩
abbrev cX2_count : ByteArray := prog_4_method_13_code
def yX2_count : MethodName := ⟨RX2, "count", "(I)I"⟩
abbrev cX2_find : ByteArray := prog_4_method_14_code
def yX2_find : MethodName := ⟨RX2, "find", "(II)I"⟩
abbrev cX2_itemSort : ByteArray := prog_4_method_15_code
def yX2_itemSort : MethodName := ⟨RX2, "itemSort", "(I)I"⟩
abbrev cX2_itemWith : ByteArray := prog_4_method_16_code
def yX2_itemWith : MethodName := ⟨RX2, "itemWith", "(II)I"⟩
abbrev cX2_sourceOf : ByteArray := prog_4_method_17_code
def yX2_sourceOf : MethodName := ⟨RX2, "sourceOf", "(I)I"⟩
def RX3 : String := "MacroWiki$Text"
def TX3 : u_T := fun k => match k with
  | 0 => ("MacroWiki$Text", "sorts", "[I", true)
  | 1 => ("MacroWiki$Text", "pages", "[I", true)
  | 2 => ("MacroWiki$Text", "signs", "[I", true)
  | 3 => ("MacroWiki$Text", "size", "I", false)
  | _ => ("MacroWiki$Text", "openWhens", "I", false)
def tyX3 : Nat → FieldType := fun k => match k with
  | 0 => .array .int
  | 1 => .array .int
  | 2 => .array .int
  | 3 => .int
  | _ => .int
theorem nmX3 : ∀ a, a < 5 → ∀ b, b < 5 → a ≠ b → (TX3 a).2.1 ≠ (TX3 b).2.1 := by decide +kernel
theorem tyX3_ok : ∀ k, k < 5 → parseFieldDescriptor (TX3 k).2.2.1 = some (tyX3 k) := by decide +kernel
abbrev cX3_init : ByteArray := prog_5_method_1_code
def yX3_init : MethodName := ⟨RX3, "<init>", "()V"⟩
abbrev cX3_add : ByteArray := prog_5_method_2_code
def yX3_add : MethodName := ⟨RX3, "add", "(III)V"⟩
abbrev cX3_clear : ByteArray := prog_5_method_3_code
def yX3_clear : MethodName := ⟨RX3, "clear", "()V"⟩
abbrev cX3_addAll : ByteArray := prog_5_method_4_code
def yX3_addAll : MethodName := ⟨RX3, "addAll", "(LMacroWiki$Text;)V"⟩
abbrev cX3_hasOpenWhen : ByteArray := prog_5_method_5_code
def yX3_hasOpenWhen : MethodName := ⟨RX3, "hasOpenWhen", "()Z"⟩
abbrev cX3_isRedirectAlone : ByteArray := prog_5_method_6_code
def yX3_isRedirectAlone : MethodName := ⟨RX3, "isRedirectAlone", "()Z"⟩
abbrev cX3_sortOf : ByteArray := prog_5_method_7_code
def yX3_sortOf : MethodName := ⟨RX3, "sortOf", "(I)I"⟩
abbrev cX3_pageOf : ByteArray := prog_5_method_8_code
def yX3_pageOf : MethodName := ⟨RX3, "pageOf", "(I)I"⟩
abbrev cX3_signOf : ByteArray := prog_5_method_9_code
def yX3_signOf : MethodName := ⟨RX3, "signOf", "(I)I"⟩
abbrev cX3_itemOf : ByteArray := prog_5_method_10_code
def yX3_itemOf : MethodName := ⟨RX3, "itemOf", "(I)I"⟩
def RX4 : String := "MacroWiki$Version"
def TX4 : u_T := fun k => match k with
  | 0 => ("MacroWiki$Version", "before", "LMacroWiki$Version;", true)
  | 1 => ("MacroWiki$Version", "number", "I", true)
  | 2 => ("MacroWiki$Version", "text", "LMacroWiki$Text;", true)
  | _ => ("MacroWiki$Version", "rank", "I", false)
def tyX4 : Nat → FieldType := fun k => match k with
  | 0 => .object "MacroWiki$Version"
  | 1 => .int
  | 2 => .object "MacroWiki$Text"
  | _ => .int
theorem nmX4 : ∀ a, a < 4 → ∀ b, b < 4 → a ≠ b → (TX4 a).2.1 ≠ (TX4 b).2.1 := by decide +kernel
theorem tyX4_ok : ∀ k, k < 4 → parseFieldDescriptor (TX4 k).2.2.1 = some (tyX4 k) := by decide +kernel
abbrev cX4_init : ByteArray := prog_6_method_1_code
def yX4_init : MethodName := ⟨RX4, "<init>", "(LMacroWiki$Version;ILMacroWiki$Text;I)V"⟩
def RX5 : String := "MacroWiki$Walk"
def TX5 : u_T := fun k => match k with
  | _ => ("", "", "", false)
def tyX5 : Nat → FieldType := fun k => match k with
  | _ => .int
theorem nmX5 : ∀ a, a < 0 → ∀ b, b < 0 → a ≠ b → (TX5 a).2.1 ≠ (TX5 b).2.1 := by decide +kernel
theorem tyX5_ok : ∀ k, k < 0 → parseFieldDescriptor (TX5 k).2.2.1 = some (tyX5 k) := by decide +kernel
def RX6 : String := "MacroWiki"
def TX6 : u_T := fun k => match k with
  | 0 => ("MacroWiki", "draft", "LMacroWiki$Text;", true)
  | 1 => ("MacroWiki", "pages", "[LMacroWiki$Page;", true)
  | 2 => ("MacroWiki", "userRanks", "[I", true)
  | 3 => ("MacroWiki", "net", "LMacroWiki$Net;", false)
  | _ => ("MacroWiki", "trial", "LMacroWiki$Net;", false)
def tyX6 : Nat → FieldType := fun k => match k with
  | 0 => .object "MacroWiki$Text"
  | 1 => .array (.object "MacroWiki$Page")
  | 2 => .array .int
  | 3 => .object "MacroWiki$Net"
  | _ => .object "MacroWiki$Net"
theorem nmX6 : ∀ a, a < 5 → ∀ b, b < 5 → a ≠ b → (TX6 a).2.1 ≠ (TX6 b).2.1 := by decide +kernel
theorem tyX6_ok : ∀ k, k < 5 → parseFieldDescriptor (TX6 k).2.2.1 = some (tyX6 k) := by decide +kernel
abbrev cX6_init : ByteArray := prog_1_method_1_code
def yX6_init : MethodName := ⟨RX6, "<init>", "()V"⟩
abbrev cX6_letter : ByteArray := prog_1_method_2_code
def yX6_letter : MethodName := ⟨RX6, "letter", "(I)I"⟩
abbrev cX6_argument : ByteArray := prog_1_method_3_code
def yX6_argument : MethodName := ⟨RX6, "argument", "()I"⟩
abbrev cX6_call : ByteArray := prog_1_method_4_code
def yX6_call : MethodName := ⟨RX6, "call", "(II)I"⟩
abbrev cX6_callOn : ByteArray := prog_1_method_5_code
def yX6_callOn : MethodName := ⟨RX6, "callOn", "(I)I"⟩
abbrev cX6_when : ByteArray := prog_1_method_6_code
def yX6_when : MethodName := ⟨RX6, "when", "(I)I"⟩
abbrev cX6_end : ByteArray := prog_1_method_7_code
def yX6_end : MethodName := ⟨RX6, "end", "()I"⟩
abbrev cX6_anchor : ByteArray := prog_1_method_8_code
def yX6_anchor : MethodName := ⟨RX6, "anchor", "(I)I"⟩
abbrev cX6_link : ByteArray := prog_1_method_9_code
def yX6_link : MethodName := ⟨RX6, "link", "(II)I"⟩
abbrev cX6_redirect : ByteArray := prog_1_method_10_code
def yX6_redirect : MethodName := ⟨RX6, "redirect", "(I)I"⟩
abbrev cX6_edit : ByteArray := prog_1_method_11_code
def yX6_edit : MethodName := ⟨RX6, "edit", "(II)I"⟩
abbrev cX6_undo : ByteArray := prog_1_method_12_code
def yX6_undo : MethodName := ⟨RX6, "undo", "(II)I"⟩
abbrev cX6_approve : ByteArray := prog_1_method_13_code
def yX6_approve : MethodName := ⟨RX6, "approve", "(II)Z"⟩
abbrev cX6_lock : ByteArray := prog_1_method_14_code
def yX6_lock : MethodName := ⟨RX6, "lock", "(III)I"⟩
abbrev cX6_setRank : ByteArray := prog_1_method_15_code
def yX6_setRank : MethodName := ⟨RX6, "setRank", "(II)I"⟩
abbrev cX6_version : ByteArray := prog_1_method_16_code
def yX6_version : MethodName := ⟨RX6, "version", "(I)I"⟩
abbrev cX6_rankOf : ByteArray := prog_1_method_17_code
def yX6_rankOf : MethodName := ⟨RX6, "rankOf", "(I)I"⟩
abbrev cX6_force : ByteArray := prog_1_method_18_code
def yX6_force : MethodName := ⟨RX6, "force", "(I)I"⟩
abbrev cX6_reaches : ByteArray := prog_1_method_19_code
def yX6_reaches : MethodName := ⟨RX6, "reaches", "(I)I"⟩
abbrev cX6_extent : ByteArray := prog_1_method_20_code
def yX6_extent : MethodName := ⟨RX6, "extent", "(I)I"⟩
abbrev cX6_items : ByteArray := prog_1_method_21_code
def yX6_items : MethodName := ⟨RX6, "items", "(II)I"⟩
abbrev cX6_sortAt : ByteArray := prog_1_method_22_code
def yX6_sortAt : MethodName := ⟨RX6, "sortAt", "(III)I"⟩
abbrev cX6_itemAt : ByteArray := prog_1_method_23_code
def yX6_itemAt : MethodName := ⟨RX6, "itemAt", "(III)I"⟩
abbrev cX6_sourceAt : ByteArray := prog_1_method_25_code
def yX6_sourceAt : MethodName := ⟨RX6, "sourceAt", "(III)I"⟩
abbrev cX6_standsFor : ByteArray := prog_1_method_26_code
def yX6_standsFor : MethodName := ⟨RX6, "standsFor", "(I)I"⟩
abbrev cX6_links : ByteArray := prog_1_method_27_code
def yX6_links : MethodName := ⟨RX6, "links", "(I)I"⟩
abbrev cX6_broken : ByteArray := prog_1_method_28_code
def yX6_broken : MethodName := ⟨RX6, "broken", "(I)I"⟩
abbrev cX6_firstBroken : ByteArray := prog_1_method_29_code
def yX6_firstBroken : MethodName := ⟨RX6, "firstBroken", "(I)I"⟩
abbrev cX6_linkedFrom : ByteArray := prog_1_method_30_code
def yX6_linkedFrom : MethodName := ⟨RX6, "linkedFrom", "(I)I"⟩
abbrev cX6_breaches : ByteArray := prog_1_method_31_code
def yX6_breaches : MethodName := ⟨RX6, "breaches", "(I)I"⟩
abbrev cX6_breached : ByteArray := prog_1_method_32_code
def yX6_breached : MethodName := ⟨RX6, "breached", "()I"⟩
abbrev cX6_requireBelow : ByteArray := prog_1_method_33_code
def yX6_requireBelow : MethodName := ⟨RX6, "requireBelow", "(II)V"⟩
abbrev cX6_requireArgument : ByteArray := prog_1_method_34_code
def yX6_requireArgument : MethodName := ⟨RX6, "requireArgument", "(I)V"⟩
abbrev cX6_requirePage : ByteArray := prog_1_method_35_code
def yX6_requirePage : MethodName := ⟨RX6, "requirePage", "(I)V"⟩
abbrev cX6_pageAt : ByteArray := prog_1_method_36_code
def yX6_pageAt : MethodName := ⟨RX6, "pageAt", "(I)LMacroWiki$Page;"⟩
abbrev cX6_rankOfUser : ByteArray := prog_1_method_37_code
def yX6_rankOfUser : MethodName := ⟨RX6, "rankOfUser", "(I)I"⟩
abbrev cX6_indexOf : ByteArray := prog_1_method_38_code
def yX6_indexOf : MethodName := ⟨RX6, "indexOf", "(LMacroWiki$Spread;II)I"⟩
abbrev cX6_addPiece : ByteArray := prog_1_method_39_code
def yX6_addPiece : MethodName := ⟨RX6, "addPiece", "(III)I"⟩
abbrev cX6_refusalOf : ByteArray := prog_1_method_40_code
def yX6_refusalOf : MethodName := ⟨RX6, "refusalOf", "(ILMacroWiki$Text;)I"⟩
abbrev cX6_hasRankBelow : ByteArray := prog_1_method_41_code
def yX6_hasRankBelow : MethodName := ⟨RX6, "hasRankBelow", "(II)Z"⟩
abbrev cX6_settle : ByteArray := prog_1_method_42_code
def yX6_settle : MethodName := ⟨RX6, "settle", "()V"⟩
abbrev cX6_forceOn : ByteArray := prog_1_method_43_code
def yX6_forceOn : MethodName := ⟨RX6, "forceOn", "(I)I"⟩
abbrev cX6_spreadPage : ByteArray := prog_1_method_44_code
def yX6_spreadPage : MethodName := ⟨RX6, "spreadPage", "(I)V"⟩
abbrev cX6_spreadPiece : ByteArray := prog_1_method_45_code
def yX6_spreadPiece : MethodName := ⟨RX6, "spreadPiece", "(LMacroWiki$Spread;LMacroWiki$Text;II)V"⟩
abbrev cX6_behindRedirects : ByteArray := prog_1_method_48_code
def yX6_behindRedirects : MethodName := ⟨RX6, "behindRedirects", "(I)I"⟩
abbrev cX6_isBroken : ByteArray := prog_1_method_49_code
def yX6_isBroken : MethodName := ⟨RX6, "isBroken", "(LMacroWiki$Spread;I)Z"⟩
abbrev cX6_isGood : ByteArray := prog_1_method_50_code
def yX6_isGood : MethodName := ⟨RX6, "isGood", "(I)Z"⟩
abbrev cX6_hasGoodLink : ByteArray := prog_1_method_51_code
def yX6_hasGoodLink : MethodName := ⟨RX6, "hasGoodLink", "(II)Z"⟩
abbrev cX6_leadsTo : ByteArray := prog_1_method_52_code
def yX6_leadsTo : MethodName := ⟨RX6, "leadsTo", "(II)Z"⟩
abbrev cX6_countBreaches : ByteArray := prog_1_method_53_code
def yX6_countBreaches : MethodName := ⟨RX6, "countBreaches", "(LMacroWiki$Page;)I"⟩
abbrev cX6_at : ByteArray := prog_1_method_54_code
def yX6_at : MethodName := ⟨RX6, "at", "([II)I"⟩
abbrev cX6_put : ByteArray := prog_1_method_55_code
def yX6_put : MethodName := ⟨RX6, "put", "([III)V"⟩
abbrev cX6_greatest : ByteArray := prog_1_method_56_code
def yX6_greatest : MethodName := ⟨RX6, "greatest", "([I)I"⟩
abbrev cX6_contains : ByteArray := prog_1_method_57_code
def yX6_contains : MethodName := ⟨RX6, "contains", "(II)Z"⟩
def RX7 : String := "MacroWikiModel"
def TX7 : u_T := fun k => match k with
  | _ => ("", "", "", false)
def tyX7 : Nat → FieldType := fun k => match k with
  | _ => .int
theorem nmX7 : ∀ a, a < 0 → ∀ b, b < 0 → a ≠ b → (TX7 a).2.1 ≠ (TX7 b).2.1 := by decide +kernel
theorem tyX7_ok : ∀ k, k < 0 → parseFieldDescriptor (TX7 k).2.2.1 = some (tyX7 k) := by decide +kernel
def RJx145de : String := "java/io/Serializable"
def TJx145de : u_T := fun k => match k with
  | _ => ("", "", "", false)
def tyJx145de : Nat → FieldType := fun k => match k with
  | _ => .int
def RJ9 : String := "java/lang/Math"
def TJ9 : u_T := fun k => match k with
  | _ => ("", "", "", false)
def tyJ9 : Nat → FieldType := fun k => match k with
  | _ => .int
abbrev cJ9_max_7cf53 : ByteArray := prog_15_method_65_code
def yJ9_max_7cf53 : MethodName := ⟨RJ9, "max", "(II)I"⟩
abbrev cJ9_min_7cf53 : ByteArray := prog_15_method_69_code
def yJ9_min_7cf53 : MethodName := ⟨RJ9, "min", "(II)I"⟩
def RJ0 : String := "java/lang/String"
def TJ0 : u_T := fun k => match k with
  | _ => ("", "", "", false)
def tyJ0 : Nat → FieldType := fun k => match k with
  | _ => .int
def RL : String := "MacroWikiLaw"
abbrev cL_from : ByteArray := method_2_code
def yL_from : MethodName := ⟨RL, "from", "([III)I"⟩
abbrev cL_piece : ByteArray := method_3_code
def yL_piece : MethodName := ⟨RL, "piece", "(JI)I"⟩
abbrev cL_now : ByteArray := method_4_code
def yL_now : MethodName := ⟨RL, "now", "([II)I"⟩
abbrev cL_called : ByteArray := method_5_code
def yL_called : MethodName := ⟨RL, "called", "(I)I"⟩
abbrev cL_calls : ByteArray := method_6_code
def yL_calls : MethodName := ⟨RL, "calls", "(JI)I"⟩
abbrev cL_reach : ByteArray := method_7_code
def yL_reach : MethodName := ⟨RL, "reach", "([J[I[IIIJI)I"⟩
abbrev cL_force : ByteArray := method_8_code
def yL_force : MethodName := ⟨RL, "force", "([J[I[II)I"⟩
abbrev cL_depths : ByteArray := method_9_code
def yL_depths : MethodName := ⟨RL, "depths", "([J[I[IIJI)I"⟩
abbrev cL_extents : ByteArray := method_10_code
def yL_extents : MethodName := ⟨RL, "extents", "([J[I[IIJI[I)V"⟩
abbrev cL_refusal : ByteArray := method_11_code
def yL_refusal : MethodName := ⟨RL, "refusal", "([J[I[I[IIIJII)I"⟩
abbrev cL_sort : ByteArray := method_12_code
def yL_sort : MethodName := ⟨RL, "sort", "(LMacroWiki;III)I"⟩
abbrev cL_walk : ByteArray := method_13_code
def yL_walk : MethodName := ⟨RL, "walk", "(LMacroWiki;[J[I[I[IIIII)I"⟩
abbrev cL_stands : ByteArray := method_14_code
def yL_stands : MethodName := ⟨RL, "stands", "([J[I[II)I"⟩
abbrev cL_arePages : ByteArray := method_15_code
def yL_arePages : MethodName := ⟨RL, "arePages", "(LMacroWiki;[J[I[I[II)Z"⟩
abbrev cL_areLinks : ByteArray := method_16_code
def yL_areLinks : MethodName := ⟨RL, "areLinks", "(LMacroWiki;[J[I[I[I)Z"⟩
abbrev cL_added : ByteArray := method_17_code
def yL_added : MethodName := ⟨RL, "added", "(LMacroWiki;I)I"⟩
abbrev cL_undone : ByteArray := method_18_code
def yL_undone : MethodName := ⟨RL, "undone", "(LMacroWiki;II)I"⟩
abbrev cL_isEdited : ByteArray := method_19_code
def yL_isEdited : MethodName := ⟨RL, "isEdited", "(LMacroWiki;[J[I[I[I[IIII)Z"⟩
abbrev cL_acts : ByteArray := method_20_code
def yL_acts : MethodName := ⟨RL, "acts", "(LMacroWiki;[J[I[I[I[IIII)Z"⟩
abbrev cL_holds : ByteArray := method_21_code
def yL_holds : MethodName := ⟨RL, "holds", "([I)Z"⟩
abbrev cL_isHeld : ByteArray := method_22_code
def yL_isHeld : MethodName := ⟨RL, "isHeld", "([I)Z"⟩
abbrev cL_law : ByteArray := code
def yL_law : MethodName := ⟨RL, "law", "([I)Z"⟩
abbrev vwCl : List vw_C := [(RX0, TX0, 5), (RX1, TX1, 3), (RX2, TX2, 8), (RX3, TX3, 5), (RX4, TX4, 4), (RX0, TX0, 5), (RX6, TX6, 5)]
