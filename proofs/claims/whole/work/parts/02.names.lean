-- ===== PART A: goes FIRST, ahead of the names: the tables' words, and 'selects' of the private methods out of them =====
/-- a private method of a class that the tables say can be made, by its rows of tables_1 -/
def lw_okq (q : MethodName × Nat) : Prop := (q.1.cls ≠ "java/lang/invoke/MethodHandle" ∧ q.1.cls ≠ "java/lang/invoke/VarHandle") ∧ Cond.instantiable q.1.cls q.2 ∈ tables_1 ∧ Cond.privateMethod q.1 ∈ tables_1 ∧ Cond.instanceMethod q.1 ∈ tables_1
theorem lw_p0 : lw_okq (⟨"MacroWiki", "pageAt", "(I)LMacroWiki$Page;"⟩, 5) := ⟨⟨by decide +kernel, by decide +kernel⟩, List.mem_of_getElem? (i := 18) (by decide +kernel), List.mem_of_getElem? (i := 170) (by decide +kernel), List.mem_of_getElem? (i := 171) (by decide +kernel)⟩
theorem lw_p1 : lw_okq (⟨"java/lang/Throwable", "fillInStackTrace", "(I)Ljava/lang/Throwable;"⟩, 6) := ⟨⟨by decide +kernel, by decide +kernel⟩, List.mem_of_getElem? (i := 213) (by decide +kernel), List.mem_of_getElem? (i := 211) (by decide +kernel), List.mem_of_getElem? (i := 212) (by decide +kernel)⟩
theorem lw_p2 : lw_okq (⟨"MacroWiki", "countBreaches", "(LMacroWiki$Page;)I"⟩, 5) := ⟨⟨by decide +kernel, by decide +kernel⟩, List.mem_of_getElem? (i := 18) (by decide +kernel), List.mem_of_getElem? (i := 243) (by decide +kernel), List.mem_of_getElem? (i := 244) (by decide +kernel)⟩
theorem lw_p3 : lw_okq (⟨"MacroWiki", "addPiece", "(III)I"⟩, 5) := ⟨⟨by decide +kernel, by decide +kernel⟩, List.mem_of_getElem? (i := 18) (by decide +kernel), List.mem_of_getElem? (i := 286) (by decide +kernel), List.mem_of_getElem? (i := 287) (by decide +kernel)⟩
theorem lw_p4 : lw_okq (⟨"MacroWiki", "rankOfUser", "(I)I"⟩, 5) := ⟨⟨by decide +kernel, by decide +kernel⟩, List.mem_of_getElem? (i := 18) (by decide +kernel), List.mem_of_getElem? (i := 388) (by decide +kernel), List.mem_of_getElem? (i := 389) (by decide +kernel)⟩
theorem lw_p5 : lw_okq (⟨"MacroWiki", "forceOn", "(I)I"⟩, 5) := ⟨⟨by decide +kernel, by decide +kernel⟩, List.mem_of_getElem? (i := 18) (by decide +kernel), List.mem_of_getElem? (i := 396) (by decide +kernel), List.mem_of_getElem? (i := 397) (by decide +kernel)⟩
theorem lw_p6 : lw_okq (⟨"MacroWiki", "refusalOf", "(ILMacroWiki$Text;)I"⟩, 5) := ⟨⟨by decide +kernel, by decide +kernel⟩, List.mem_of_getElem? (i := 18) (by decide +kernel), List.mem_of_getElem? (i := 411) (by decide +kernel), List.mem_of_getElem? (i := 412) (by decide +kernel)⟩
theorem lw_p7 : lw_okq (⟨"MacroWiki$Net", "callsOf", "(II)I"⟩, 5) := ⟨⟨by decide +kernel, by decide +kernel⟩, List.mem_of_getElem? (i := 51) (by decide +kernel), List.mem_of_getElem? (i := 433) (by decide +kernel), List.mem_of_getElem? (i := 434) (by decide +kernel)⟩
theorem lw_p8 : lw_okq (⟨"MacroWiki$Net", "depthOverCalled", "(I)I"⟩, 5) := ⟨⟨by decide +kernel, by decide +kernel⟩, List.mem_of_getElem? (i := 51) (by decide +kernel), List.mem_of_getElem? (i := 447) (by decide +kernel), List.mem_of_getElem? (i := 448) (by decide +kernel)⟩
theorem lw_p9 : lw_okq (⟨"MacroWiki$Net", "extentOverCalled", "(I)I"⟩, 5) := ⟨⟨by decide +kernel, by decide +kernel⟩, List.mem_of_getElem? (i := 51) (by decide +kernel), List.mem_of_getElem? (i := 467) (by decide +kernel), List.mem_of_getElem? (i := 468) (by decide +kernel)⟩
theorem lw_p10 : lw_okq (⟨"MacroWiki", "hasRankBelow", "(II)Z"⟩, 5) := ⟨⟨by decide +kernel, by decide +kernel⟩, List.mem_of_getElem? (i := 18) (by decide +kernel), List.mem_of_getElem? (i := 482) (by decide +kernel), List.mem_of_getElem? (i := 483) (by decide +kernel)⟩
theorem lw_p11 : lw_okq (⟨"MacroWiki", "settle", "()V"⟩, 5) := ⟨⟨by decide +kernel, by decide +kernel⟩, List.mem_of_getElem? (i := 18) (by decide +kernel), List.mem_of_getElem? (i := 499) (by decide +kernel), List.mem_of_getElem? (i := 500) (by decide +kernel)⟩
theorem lw_p12 : lw_okq (⟨"MacroWiki", "spreadPage", "(I)V"⟩, 5) := ⟨⟨by decide +kernel, by decide +kernel⟩, List.mem_of_getElem? (i := 18) (by decide +kernel), List.mem_of_getElem? (i := 504) (by decide +kernel), List.mem_of_getElem? (i := 505) (by decide +kernel)⟩
theorem lw_p13 : lw_okq (⟨"MacroWiki", "spreadPiece", "(LMacroWiki$Spread;LMacroWiki$Text;II)V"⟩, 5) := ⟨⟨by decide +kernel, by decide +kernel⟩, List.mem_of_getElem? (i := 18) (by decide +kernel), List.mem_of_getElem? (i := 512) (by decide +kernel), List.mem_of_getElem? (i := 513) (by decide +kernel)⟩
theorem lw_p14 : lw_okq (⟨"MacroWiki", "walkPage", "(LMacroWiki$Walk;III)V"⟩, 5) := ⟨⟨by decide +kernel, by decide +kernel⟩, List.mem_of_getElem? (i := 18) (by decide +kernel), List.mem_of_getElem? (i := 705) (by decide +kernel), List.mem_of_getElem? (i := 706) (by decide +kernel)⟩
theorem lw_p15 : lw_okq (⟨"MacroWiki", "walkPiece", "(LMacroWiki$Walk;LMacroWiki$Text;III)V"⟩, 5) := ⟨⟨by decide +kernel, by decide +kernel⟩, List.mem_of_getElem? (i := 18) (by decide +kernel), List.mem_of_getElem? (i := 713) (by decide +kernel), List.mem_of_getElem? (i := 714) (by decide +kernel)⟩
def lw_privs_1 : List (MethodName × Nat) := [(⟨"MacroWiki", "pageAt", "(I)LMacroWiki$Page;"⟩, 5), (⟨"java/lang/Throwable", "fillInStackTrace", "(I)Ljava/lang/Throwable;"⟩, 6), (⟨"MacroWiki", "countBreaches", "(LMacroWiki$Page;)I"⟩, 5), (⟨"MacroWiki", "addPiece", "(III)I"⟩, 5), (⟨"MacroWiki", "rankOfUser", "(I)I"⟩, 5), (⟨"MacroWiki", "forceOn", "(I)I"⟩, 5), (⟨"MacroWiki", "refusalOf", "(ILMacroWiki$Text;)I"⟩, 5), (⟨"MacroWiki$Net", "callsOf", "(II)I"⟩, 5), (⟨"MacroWiki$Net", "depthOverCalled", "(I)I"⟩, 5), (⟨"MacroWiki$Net", "extentOverCalled", "(I)I"⟩, 5), (⟨"MacroWiki", "hasRankBelow", "(II)Z"⟩, 5), (⟨"MacroWiki", "settle", "()V"⟩, 5), (⟨"MacroWiki", "spreadPage", "(I)V"⟩, 5), (⟨"MacroWiki", "spreadPiece", "(LMacroWiki$Spread;LMacroWiki$Text;II)V"⟩, 5), (⟨"MacroWiki", "walkPage", "(LMacroWiki$Walk;III)V"⟩, 5), (⟨"MacroWiki", "walkPiece", "(LMacroWiki$Walk;LMacroWiki$Text;III)V"⟩, 5)]
theorem lw_r1 : ∀ q ∈ lw_privs_1, lw_okq q := List.forall_mem_cons.mpr ⟨lw_p0, List.forall_mem_cons.mpr ⟨lw_p1, List.forall_mem_cons.mpr ⟨lw_p2, List.forall_mem_cons.mpr ⟨lw_p3, List.forall_mem_cons.mpr ⟨lw_p4, List.forall_mem_cons.mpr ⟨lw_p5, List.forall_mem_cons.mpr ⟨lw_p6, List.forall_mem_cons.mpr ⟨lw_p7, List.forall_mem_cons.mpr ⟨lw_p8, List.forall_mem_cons.mpr ⟨lw_p9, List.forall_mem_cons.mpr ⟨lw_p10, List.forall_mem_cons.mpr ⟨lw_p11, List.forall_mem_cons.mpr ⟨lw_p12, List.forall_mem_cons.mpr ⟨lw_p13, List.forall_mem_cons.mpr ⟨lw_p14, List.forall_mem_cons.mpr ⟨lw_p15, fun _ h => absurd h List.not_mem_nil⟩⟩⟩⟩⟩⟩⟩⟩⟩⟩⟩⟩⟩⟩⟩⟩
theorem lw_p16 : lw_okq (⟨"MacroWiki", "behindRedirects", "(I)I"⟩, 5) := ⟨⟨by decide +kernel, by decide +kernel⟩, List.mem_of_getElem? (i := 18) (by decide +kernel), List.mem_of_getElem? (i := 735) (by decide +kernel), List.mem_of_getElem? (i := 736) (by decide +kernel)⟩
theorem lw_p17 : lw_okq (⟨"MacroWiki", "isBroken", "(LMacroWiki$Spread;I)Z"⟩, 5) := ⟨⟨by decide +kernel, by decide +kernel⟩, List.mem_of_getElem? (i := 18) (by decide +kernel), List.mem_of_getElem? (i := 761) (by decide +kernel), List.mem_of_getElem? (i := 762) (by decide +kernel)⟩
theorem lw_p18 : lw_okq (⟨"MacroWiki", "isGood", "(I)Z"⟩, 5) := ⟨⟨by decide +kernel, by decide +kernel⟩, List.mem_of_getElem? (i := 18) (by decide +kernel), List.mem_of_getElem? (i := 765) (by decide +kernel), List.mem_of_getElem? (i := 766) (by decide +kernel)⟩
theorem lw_p19 : lw_okq (⟨"MacroWiki", "hasGoodLink", "(II)Z"⟩, 5) := ⟨⟨by decide +kernel, by decide +kernel⟩, List.mem_of_getElem? (i := 18) (by decide +kernel), List.mem_of_getElem? (i := 788) (by decide +kernel), List.mem_of_getElem? (i := 789) (by decide +kernel)⟩
theorem lw_p20 : lw_okq (⟨"MacroWiki", "leadsTo", "(II)Z"⟩, 5) := ⟨⟨by decide +kernel, by decide +kernel⟩, List.mem_of_getElem? (i := 18) (by decide +kernel), List.mem_of_getElem? (i := 792) (by decide +kernel), List.mem_of_getElem? (i := 793) (by decide +kernel)⟩
theorem lw_p21 : lw_okq (⟨"MacroWikiModel", "hasRoom", "()Z"⟩, 22) := ⟨⟨by decide +kernel, by decide +kernel⟩, List.mem_of_getElem? (i := 803) (by decide +kernel), List.mem_of_getElem? (i := 890) (by decide +kernel), List.mem_of_getElem? (i := 891) (by decide +kernel)⟩
theorem lw_p22 : lw_okq (⟨"MacroWikiModel", "goes", "(ZZZ)Z"⟩, 22) := ⟨⟨by decide +kernel, by decide +kernel⟩, List.mem_of_getElem? (i := 803) (by decide +kernel), List.mem_of_getElem? (i := 894) (by decide +kernel), List.mem_of_getElem? (i := 895) (by decide +kernel)⟩
theorem lw_p23 : lw_okq (⟨"MacroWikiModel", "adds", "(III)I"⟩, 22) := ⟨⟨by decide +kernel, by decide +kernel⟩, List.mem_of_getElem? (i := 803) (by decide +kernel), List.mem_of_getElem? (i := 898) (by decide +kernel), List.mem_of_getElem? (i := 899) (by decide +kernel)⟩
theorem lw_p24 : lw_okq (⟨"MacroWikiModel", "refusal", "(III)I"⟩, 22) := ⟨⟨by decide +kernel, by decide +kernel⟩, List.mem_of_getElem? (i := 803) (by decide +kernel), List.mem_of_getElem? (i := 944) (by decide +kernel), List.mem_of_getElem? (i := 945) (by decide +kernel)⟩
theorem lw_p25 : lw_okq (⟨"MacroWikiModel", "laysNow", "()V"⟩, 22) := ⟨⟨by decide +kernel, by decide +kernel⟩, List.mem_of_getElem? (i := 803) (by decide +kernel), List.mem_of_getElem? (i := 948) (by decide +kernel), List.mem_of_getElem? (i := 949) (by decide +kernel)⟩
theorem lw_p26 : lw_okq (⟨"MacroWikiModel", "now", "(I)I"⟩, 22) := ⟨⟨by decide +kernel, by decide +kernel⟩, List.mem_of_getElem? (i := 803) (by decide +kernel), List.mem_of_getElem? (i := 952) (by decide +kernel), List.mem_of_getElem? (i := 953) (by decide +kernel)⟩
theorem lw_p27 : lw_okq (⟨"MacroWikiModel", "laysCalls", "(II)V"⟩, 22) := ⟨⟨by decide +kernel, by decide +kernel⟩, List.mem_of_getElem? (i := 803) (by decide +kernel), List.mem_of_getElem? (i := 956) (by decide +kernel), List.mem_of_getElem? (i := 957) (by decide +kernel)⟩
theorem lw_p28 : lw_okq (⟨"MacroWikiModel", "laysReached", "()V"⟩, 22) := ⟨⟨by decide +kernel, by decide +kernel⟩, List.mem_of_getElem? (i := 803) (by decide +kernel), List.mem_of_getElem? (i := 960) (by decide +kernel), List.mem_of_getElem? (i := 961) (by decide +kernel)⟩
theorem lw_p29 : lw_okq (⟨"MacroWikiModel", "forceOf", "(I)I"⟩, 22) := ⟨⟨by decide +kernel, by decide +kernel⟩, List.mem_of_getElem? (i := 803) (by decide +kernel), List.mem_of_getElem? (i := 964) (by decide +kernel), List.mem_of_getElem? (i := 965) (by decide +kernel)⟩
theorem lw_p30 : lw_okq (⟨"MacroWikiModel", "measures", "()V"⟩, 22) := ⟨⟨by decide +kernel, by decide +kernel⟩, List.mem_of_getElem? (i := 803) (by decide +kernel), List.mem_of_getElem? (i := 971) (by decide +kernel), List.mem_of_getElem? (i := 972) (by decide +kernel)⟩
theorem lw_p31 : lw_okq (⟨"MacroWikiModel", "greatest", "(Z)I"⟩, 22) := ⟨⟨by decide +kernel, by decide +kernel⟩, List.mem_of_getElem? (i := 803) (by decide +kernel), List.mem_of_getElem? (i := 975) (by decide +kernel), List.mem_of_getElem? (i := 976) (by decide +kernel)⟩
def lw_privs_2 : List (MethodName × Nat) := [(⟨"MacroWiki", "behindRedirects", "(I)I"⟩, 5), (⟨"MacroWiki", "isBroken", "(LMacroWiki$Spread;I)Z"⟩, 5), (⟨"MacroWiki", "isGood", "(I)Z"⟩, 5), (⟨"MacroWiki", "hasGoodLink", "(II)Z"⟩, 5), (⟨"MacroWiki", "leadsTo", "(II)Z"⟩, 5), (⟨"MacroWikiModel", "hasRoom", "()Z"⟩, 22), (⟨"MacroWikiModel", "goes", "(ZZZ)Z"⟩, 22), (⟨"MacroWikiModel", "adds", "(III)I"⟩, 22), (⟨"MacroWikiModel", "refusal", "(III)I"⟩, 22), (⟨"MacroWikiModel", "laysNow", "()V"⟩, 22), (⟨"MacroWikiModel", "now", "(I)I"⟩, 22), (⟨"MacroWikiModel", "laysCalls", "(II)V"⟩, 22), (⟨"MacroWikiModel", "laysReached", "()V"⟩, 22), (⟨"MacroWikiModel", "forceOf", "(I)I"⟩, 22), (⟨"MacroWikiModel", "measures", "()V"⟩, 22), (⟨"MacroWikiModel", "greatest", "(Z)I"⟩, 22)]
theorem lw_r2 : ∀ q ∈ lw_privs_2, lw_okq q := List.forall_mem_cons.mpr ⟨lw_p16, List.forall_mem_cons.mpr ⟨lw_p17, List.forall_mem_cons.mpr ⟨lw_p18, List.forall_mem_cons.mpr ⟨lw_p19, List.forall_mem_cons.mpr ⟨lw_p20, List.forall_mem_cons.mpr ⟨lw_p21, List.forall_mem_cons.mpr ⟨lw_p22, List.forall_mem_cons.mpr ⟨lw_p23, List.forall_mem_cons.mpr ⟨lw_p24, List.forall_mem_cons.mpr ⟨lw_p25, List.forall_mem_cons.mpr ⟨lw_p26, List.forall_mem_cons.mpr ⟨lw_p27, List.forall_mem_cons.mpr ⟨lw_p28, List.forall_mem_cons.mpr ⟨lw_p29, List.forall_mem_cons.mpr ⟨lw_p30, List.forall_mem_cons.mpr ⟨lw_p31, fun _ h => absurd h List.not_mem_nil⟩⟩⟩⟩⟩⟩⟩⟩⟩⟩⟩⟩⟩⟩⟩⟩
theorem lw_p32 : lw_okq (⟨"MacroWikiModel", "lays", "(II)V"⟩, 22) := ⟨⟨by decide +kernel, by decide +kernel⟩, List.mem_of_getElem? (i := 803) (by decide +kernel), List.mem_of_getElem? (i := 1019) (by decide +kernel), List.mem_of_getElem? (i := 1020) (by decide +kernel)⟩
theorem lw_p33 : lw_okq (⟨"MacroWikiModel", "behind", "(II)I"⟩, 22) := ⟨⟨by decide +kernel, by decide +kernel⟩, List.mem_of_getElem? (i := 803) (by decide +kernel), List.mem_of_getElem? (i := 1023) (by decide +kernel), List.mem_of_getElem? (i := 1024) (by decide +kernel)⟩
theorem lw_p34 : lw_okq (⟨"MacroWikiModel", "shows", "(III)V"⟩, 22) := ⟨⟨by decide +kernel, by decide +kernel⟩, List.mem_of_getElem? (i := 803) (by decide +kernel), List.mem_of_getElem? (i := 1027) (by decide +kernel), List.mem_of_getElem? (i := 1028) (by decide +kernel)⟩
theorem lw_p35 : lw_okq (⟨"MacroWikiModel", "isShown", "(III)Z"⟩, 22) := ⟨⟨by decide +kernel, by decide +kernel⟩, List.mem_of_getElem? (i := 803) (by decide +kernel), List.mem_of_getElem? (i := 1035) (by decide +kernel), List.mem_of_getElem? (i := 1036) (by decide +kernel)⟩
theorem lw_p36 : lw_okq (⟨"MacroWikiModel", "stands", "(I)I"⟩, 22) := ⟨⟨by decide +kernel, by decide +kernel⟩, List.mem_of_getElem? (i := 803) (by decide +kernel), List.mem_of_getElem? (i := 1056) (by decide +kernel), List.mem_of_getElem? (i := 1057) (by decide +kernel)⟩
theorem lw_p37 : lw_okq (⟨"MacroWikiModel", "linkAt", "(II)I"⟩, 22) := ⟨⟨by decide +kernel, by decide +kernel⟩, List.mem_of_getElem? (i := 803) (by decide +kernel), List.mem_of_getElem? (i := 1064) (by decide +kernel), List.mem_of_getElem? (i := 1065) (by decide +kernel)⟩
theorem lw_p38 : lw_okq (⟨"MacroWikiModel", "isGood", "(I)Z"⟩, 22) := ⟨⟨by decide +kernel, by decide +kernel⟩, List.mem_of_getElem? (i := 803) (by decide +kernel), List.mem_of_getElem? (i := 1072) (by decide +kernel), List.mem_of_getElem? (i := 1073) (by decide +kernel)⟩
theorem lw_p39 : lw_okq (⟨"MacroWikiModel", "showsAnchor", "(II)Z"⟩, 22) := ⟨⟨by decide +kernel, by decide +kernel⟩, List.mem_of_getElem? (i := 803) (by decide +kernel), List.mem_of_getElem? (i := 1076) (by decide +kernel), List.mem_of_getElem? (i := 1077) (by decide +kernel)⟩
theorem lw_p40 : lw_okq (⟨"MacroWikiModel", "breachesOf", "(I)I"⟩, 22) := ⟨⟨by decide +kernel, by decide +kernel⟩, List.mem_of_getElem? (i := 803) (by decide +kernel), List.mem_of_getElem? (i := 1092) (by decide +kernel), List.mem_of_getElem? (i := 1093) (by decide +kernel)⟩
def lw_privs_3 : List (MethodName × Nat) := [(⟨"MacroWikiModel", "lays", "(II)V"⟩, 22), (⟨"MacroWikiModel", "behind", "(II)I"⟩, 22), (⟨"MacroWikiModel", "shows", "(III)V"⟩, 22), (⟨"MacroWikiModel", "isShown", "(III)Z"⟩, 22), (⟨"MacroWikiModel", "stands", "(I)I"⟩, 22), (⟨"MacroWikiModel", "linkAt", "(II)I"⟩, 22), (⟨"MacroWikiModel", "isGood", "(I)Z"⟩, 22), (⟨"MacroWikiModel", "showsAnchor", "(II)Z"⟩, 22), (⟨"MacroWikiModel", "breachesOf", "(I)I"⟩, 22)]
theorem lw_r3 : ∀ q ∈ lw_privs_3, lw_okq q := List.forall_mem_cons.mpr ⟨lw_p32, List.forall_mem_cons.mpr ⟨lw_p33, List.forall_mem_cons.mpr ⟨lw_p34, List.forall_mem_cons.mpr ⟨lw_p35, List.forall_mem_cons.mpr ⟨lw_p36, List.forall_mem_cons.mpr ⟨lw_p37, List.forall_mem_cons.mpr ⟨lw_p38, List.forall_mem_cons.mpr ⟨lw_p39, List.forall_mem_cons.mpr ⟨lw_p40, fun _ h => absurd h List.not_mem_nil⟩⟩⟩⟩⟩⟩⟩⟩⟩
def lw_privs : List (MethodName × Nat) := lw_privs_1 ++ (lw_privs_2 ++ (lw_privs_3))
def lw_tbl : List Cond := k2_sels lw_privs ++ tables_1
theorem lw_privs_ok : ∀ q ∈ lw_privs, lw_okq q := by
  show ∀ q ∈ lw_privs_1 ++ (lw_privs_2 ++ (lw_privs_3)), lw_okq q
  exact List.forall_mem_append.mpr ⟨lw_r1, List.forall_mem_append.mpr ⟨lw_r2, lw_r3⟩⟩

def RX0 : String := "MacroWiki$Net"
def TX0 : u_T := fun k => match k with
  | 0 => ("MacroWiki$Net", "calls", "[I", true)
  | 1 => ("MacroWiki$Net", "ownExtents", "[I", true)
  | 2 => ("MacroWiki$Net", "reached", "[I", true)
  | 3 => ("MacroWiki$Net", "depths", "[I", true)
  | _ => ("MacroWiki$Net", "extents", "[I", true)
def tyX0 : Nat → FieldType := fun k => match k with
  | 0 => .array .int
  | 1 => .array .int
  | 2 => .array .int
  | 3 => .array .int
  | _ => .array .int
theorem nmX0 : ∀ a, a < 5 → ∀ b, b < 5 → a ≠ b → (TX0 a).2.1 ≠ (TX0 b).2.1 := by decide +kernel
theorem tyX0_ok : ∀ k, k < 5 → parseFieldDescriptor (TX0 k).2.2.1 = some (tyX0 k) := by decide +kernel
abbrev cX0_init : ByteArray := prog_2_method_1_code
def yX0_init : MethodName := ⟨RX0, "<init>", "()V"⟩
abbrev cX0_takeCalls : ByteArray := prog_2_method_2_code
def yX0_takeCalls : MethodName := ⟨RX0, "takeCalls", "(LMacroWiki$Net;)V"⟩
abbrev cX0_setCalls : ByteArray := prog_2_method_3_code
def yX0_setCalls : MethodName := ⟨RX0, "setCalls", "(ILMacroWiki$Text;)V"⟩
abbrev cX0_findReached : ByteArray := prog_2_method_4_code
def yX0_findReached : MethodName := ⟨RX0, "findReached", "()V"⟩
abbrev cX0_findDepths : ByteArray := prog_2_method_5_code
def yX0_findDepths : MethodName := ⟨RX0, "findDepths", "()V"⟩
abbrev cX0_depthOverCalled : ByteArray := prog_2_method_6_code
def yX0_depthOverCalled : MethodName := ⟨RX0, "depthOverCalled", "(I)I"⟩
abbrev cX0_findExtents : ByteArray := prog_2_method_7_code
def yX0_findExtents : MethodName := ⟨RX0, "findExtents", "()V"⟩
abbrev cX0_extentOverCalled : ByteArray := prog_2_method_8_code
def yX0_extentOverCalled : MethodName := ⟨RX0, "extentOverCalled", "(I)I"⟩
abbrev cX0_callsOf : ByteArray := prog_2_method_9_code
def yX0_callsOf : MethodName := ⟨RX0, "callsOf", "(II)I"⟩
abbrev cX0_reachedFrom : ByteArray := prog_2_method_10_code
def yX0_reachedFrom : MethodName := ⟨RX0, "reachedFrom", "(I)I"⟩
abbrev cX0_depthOf : ByteArray := prog_2_method_11_code
def yX0_depthOf : MethodName := ⟨RX0, "depthOf", "(I)I"⟩
abbrev cX0_extentOf : ByteArray := prog_2_method_12_code
def yX0_extentOf : MethodName := ⟨RX0, "extentOf", "(I)I"⟩
abbrev cX0_greatestDepth : ByteArray := prog_2_method_13_code
def yX0_greatestDepth : MethodName := ⟨RX0, "greatestDepth", "()I"⟩
abbrev cX0_greatestExtent : ByteArray := prog_2_method_14_code
def yX0_greatestExtent : MethodName := ⟨RX0, "greatestExtent", "()I"⟩
def RX1 : String := "MacroWiki$Page"
def TX1 : u_T := fun k => match k with
  | 0 => ("MacroWiki$Page", "now", "LMacroWiki$Version;", false)
  | 1 => ("MacroWiki$Page", "lock", "I", false)
  | _ => ("MacroWiki$Page", "spread", "LMacroWiki$Spread;", true)
def tyX1 : Nat → FieldType := fun k => match k with
  | 0 => .object "MacroWiki$Version"
  | 1 => .int
  | _ => .object "MacroWiki$Spread"
theorem nmX1 : ∀ a, a < 3 → ∀ b, b < 3 → a ≠ b → (TX1 a).2.1 ≠ (TX1 b).2.1 := by decide +kernel
theorem tyX1_ok : ∀ k, k < 3 → parseFieldDescriptor (TX1 k).2.2.1 = some (tyX1 k) := by decide +kernel
abbrev cX1_init : ByteArray := prog_3_method_1_code
def yX1_init : MethodName := ⟨RX1, "<init>", "()V"⟩
def RX2 : String := "MacroWiki$Spread"
def TX2 : u_T := fun k => match k with
  | 0 => ("MacroWiki$Spread", "needs", "[I", true)
  | 1 => ("MacroWiki$Spread", "sorts", "[I", true)
  | 2 => ("MacroWiki$Spread", "values", "[I", true)
  | 3 => ("MacroWiki$Spread", "sources", "[I", true)
  | 4 => ("MacroWiki$Spread", "size", "I", false)
  | 5 => ("MacroWiki$Spread", "anchors", "I", false)
  | 6 => ("MacroWiki$Spread", "openNeeds", "[I", true)
  | _ => ("MacroWiki$Spread", "openWhens", "I", false)
def tyX2 : Nat → FieldType := fun k => match k with
  | 0 => .array .int
  | 1 => .array .int
  | 2 => .array .int
  | 3 => .array .int
  | 4 => .int
  | 5 => .int
  | 6 => .array .int
  | _ => .int
theorem nmX2 : ∀ a, a < 8 → ∀ b, b < 8 → a ≠ b → (TX2 a).2.1 ≠ (TX2 b).2.1 := by decide +kernel
theorem tyX2_ok : ∀ k, k < 8 → parseFieldDescriptor (TX2 k).2.2.1 = some (tyX2 k) := by decide +kernel
abbrev cX2_init : ByteArray := prog_4_method_1_code
def yX2_init : MethodName := ⟨RX2, "<init>", "()V"⟩
abbrev cX2_clear : ByteArray := prog_4_method_2_code
def yX2_clear : MethodName := ⟨RX2, "clear", "()V"⟩
abbrev cX2_openWhen : ByteArray := prog_4_method_3_code
def yX2_openWhen : MethodName := ⟨RX2, "openWhen", "(I)V"⟩
abbrev cX2_closeWhen : ByteArray := prog_4_method_4_code
def yX2_closeWhen : MethodName := ⟨RX2, "closeWhen", "()V"⟩
abbrev cX2_need : ByteArray := prog_4_method_5_code
def yX2_need : MethodName := ⟨RX2, "need", "()I"⟩
abbrev cX2_together : ByteArray := prog_4_method_6_code
def yX2_together : MethodName := ⟨RX2, "together", "(II)I"⟩
abbrev cX2_add : ByteArray := prog_4_method_7_code
def yX2_add : MethodName := ⟨RX2, "add", "(IIII)V"⟩
abbrev cX2_takeCalled : ByteArray := prog_4_method_8_code
def yX2_takeCalled : MethodName := ⟨RX2, "takeCalled", "(LMacroWiki$Spread;I)V"⟩
abbrev cX2_takeCalledOn : ByteArray := prog_4_method_9_code
def yX2_takeCalledOn : MethodName := ⟨RX2, "takeCalledOn", "(LMacroWiki$Spread;)V"⟩
abbrev cX2_shows : ByteArray := prog_4_method_10_code
def yX2_shows : MethodName := ⟨RX2, "shows", "(II)Z"⟩
abbrev cX2_showsSort : ByteArray := prog_4_method_11_code
def yX2_showsSort : MethodName := ⟨RX2, "showsSort", "(II)Z"⟩
abbrev cX2_hasAnchor : ByteArray := prog_4_method_12_code
def yX2_hasAnchor : MethodName := ⟨RX2, "hasAnchor", "(I)Z"⟩
abbrev cX2_count : ByteArray := prog_4_method_13_code
def yX2_count : MethodName := ⟨RX2, "count", "(I)I"⟩
abbrev cX2_find : ByteArray := prog_4_method_14_code
def yX2_find : MethodName := ⟨RX2, "find", "(II)I"⟩
abbrev cX2_itemSort : ByteArray := prog_4_method_15_code
def yX2_itemSort : MethodName := ⟨RX2, "itemSort", "(I)I"⟩
abbrev cX2_itemWith : ByteArray := prog_4_method_16_code
def yX2_itemWith : MethodName := ⟨RX2, "itemWith", "(II)I"⟩
abbrev cX2_sourceOf : ByteArray := prog_4_method_17_code
def yX2_sourceOf : MethodName := ⟨RX2, "sourceOf", "(I)I"⟩
def RX3 : String := "MacroWiki$Text"
def TX3 : u_T := fun k => match k with
  | 0 => ("MacroWiki$Text", "sorts", "[I", true)
  | 1 => ("MacroWiki$Text", "pages", "[I", true)
  | 2 => ("MacroWiki$Text", "signs", "[I", true)
  | 3 => ("MacroWiki$Text", "size", "I", false)
  | _ => ("MacroWiki$Text", "openWhens", "I", false)
def tyX3 : Nat → FieldType := fun k => match k with
  | 0 => .array .int
  | 1 => .array .int
  | 2 => .array .int
  | 3 => .int
  | _ => .int
theorem nmX3 : ∀ a, a < 5 → ∀ b, b < 5 → a ≠ b → (TX3 a).2.1 ≠ (TX3 b).2.1 := by decide +kernel
theorem tyX3_ok : ∀ k, k < 5 → parseFieldDescriptor (TX3 k).2.2.1 = some (tyX3 k) := by decide +kernel
abbrev cX3_init : ByteArray := prog_5_method_1_code
def yX3_init : MethodName := ⟨RX3, "<init>", "()V"⟩
abbrev cX3_add : ByteArray := prog_5_method_2_code
def yX3_add : MethodName := ⟨RX3, "add", "(III)V"⟩
abbrev cX3_clear : ByteArray := prog_5_method_3_code
def yX3_clear : MethodName := ⟨RX3, "clear", "()V"⟩
abbrev cX3_addAll : ByteArray := prog_5_method_4_code
def yX3_addAll : MethodName := ⟨RX3, "addAll", "(LMacroWiki$Text;)V"⟩
abbrev cX3_hasOpenWhen : ByteArray := prog_5_method_5_code
def yX3_hasOpenWhen : MethodName := ⟨RX3, "hasOpenWhen", "()Z"⟩
abbrev cX3_isRedirectAlone : ByteArray := prog_5_method_6_code
def yX3_isRedirectAlone : MethodName := ⟨RX3, "isRedirectAlone", "()Z"⟩
abbrev cX3_sortOf : ByteArray := prog_5_method_7_code
def yX3_sortOf : MethodName := ⟨RX3, "sortOf", "(I)I"⟩
abbrev cX3_pageOf : ByteArray := prog_5_method_8_code
def yX3_pageOf : MethodName := ⟨RX3, "pageOf", "(I)I"⟩
abbrev cX3_signOf : ByteArray := prog_5_method_9_code
def yX3_signOf : MethodName := ⟨RX3, "signOf", "(I)I"⟩
abbrev cX3_itemOf : ByteArray := prog_5_method_10_code
def yX3_itemOf : MethodName := ⟨RX3, "itemOf", "(I)I"⟩
def RX4 : String := "MacroWiki$Version"
def TX4 : u_T := fun k => match k with
  | 0 => ("MacroWiki$Version", "before", "LMacroWiki$Version;", true)
  | 1 => ("MacroWiki$Version", "number", "I", true)
  | 2 => ("MacroWiki$Version", "text", "LMacroWiki$Text;", true)
  | _ => ("MacroWiki$Version", "rank", "I", false)
def tyX4 : Nat → FieldType := fun k => match k with
  | 0 => .object "MacroWiki$Version"
  | 1 => .int
  | 2 => .object "MacroWiki$Text"
  | _ => .int
theorem nmX4 : ∀ a, a < 4 → ∀ b, b < 4 → a ≠ b → (TX4 a).2.1 ≠ (TX4 b).2.1 := by decide +kernel
theorem tyX4_ok : ∀ k, k < 4 → parseFieldDescriptor (TX4 k).2.2.1 = some (tyX4 k) := by decide +kernel
abbrev cX4_init : ByteArray := prog_6_method_1_code
def yX4_init : MethodName := ⟨RX4, "<init>", "(LMacroWiki$Version;ILMacroWiki$Text;I)V"⟩
def RX5 : String := "MacroWiki$Walk"
def TX5 : u_T := fun k => match k with
  | 0 => ("MacroWiki$Walk", "toGo", "I", false)
  | _ => ("MacroWiki$Walk", "found", "I", false)
def tyX5 : Nat → FieldType := fun k => match k with
  | 0 => .int
  | _ => .int
theorem nmX5 : ∀ a, a < 2 → ∀ b, b < 2 → a ≠ b → (TX5 a).2.1 ≠ (TX5 b).2.1 := by decide +kernel
theorem tyX5_ok : ∀ k, k < 2 → parseFieldDescriptor (TX5 k).2.2.1 = some (tyX5 k) := by decide +kernel
abbrev cX5_init : ByteArray := prog_7_method_1_code
def yX5_init : MethodName := ⟨RX5, "<init>", "(I)V"⟩
abbrev cX5_isOver : ByteArray := prog_7_method_2_code
def yX5_isOver : MethodName := ⟨RX5, "isOver", "()Z"⟩
abbrev cX5_meet : ByteArray := prog_7_method_3_code
def yX5_meet : MethodName := ⟨RX5, "meet", "(I)V"⟩
def RX6 : String := "MacroWiki"
def TX6 : u_T := fun k => match k with
  | 0 => ("MacroWiki", "draft", "LMacroWiki$Text;", true)
  | 1 => ("MacroWiki", "pages", "[LMacroWiki$Page;", true)
  | 2 => ("MacroWiki", "userRanks", "[I", true)
  | 3 => ("MacroWiki", "net", "LMacroWiki$Net;", false)
  | _ => ("MacroWiki", "trial", "LMacroWiki$Net;", false)
def tyX6 : Nat → FieldType := fun k => match k with
  | 0 => .object "MacroWiki$Text"
  | 1 => .array (.object "MacroWiki$Page")
  | 2 => .array .int
  | 3 => .object "MacroWiki$Net"
  | _ => .object "MacroWiki$Net"
theorem nmX6 : ∀ a, a < 5 → ∀ b, b < 5 → a ≠ b → (TX6 a).2.1 ≠ (TX6 b).2.1 := by decide +kernel
theorem tyX6_ok : ∀ k, k < 5 → parseFieldDescriptor (TX6 k).2.2.1 = some (tyX6 k) := by decide +kernel
abbrev cX6_init : ByteArray := prog_1_method_1_code
def yX6_init : MethodName := ⟨RX6, "<init>", "()V"⟩
abbrev cX6_letter : ByteArray := prog_1_method_2_code
def yX6_letter : MethodName := ⟨RX6, "letter", "(I)I"⟩
abbrev cX6_argument : ByteArray := prog_1_method_3_code
def yX6_argument : MethodName := ⟨RX6, "argument", "()I"⟩
abbrev cX6_call : ByteArray := prog_1_method_4_code
def yX6_call : MethodName := ⟨RX6, "call", "(II)I"⟩
abbrev cX6_callOn : ByteArray := prog_1_method_5_code
def yX6_callOn : MethodName := ⟨RX6, "callOn", "(I)I"⟩
abbrev cX6_when : ByteArray := prog_1_method_6_code
def yX6_when : MethodName := ⟨RX6, "when", "(I)I"⟩
abbrev cX6_end : ByteArray := prog_1_method_7_code
def yX6_end : MethodName := ⟨RX6, "end", "()I"⟩
abbrev cX6_anchor : ByteArray := prog_1_method_8_code
def yX6_anchor : MethodName := ⟨RX6, "anchor", "(I)I"⟩
abbrev cX6_link : ByteArray := prog_1_method_9_code
def yX6_link : MethodName := ⟨RX6, "link", "(II)I"⟩
abbrev cX6_redirect : ByteArray := prog_1_method_10_code
def yX6_redirect : MethodName := ⟨RX6, "redirect", "(I)I"⟩
abbrev cX6_edit : ByteArray := prog_1_method_11_code
def yX6_edit : MethodName := ⟨RX6, "edit", "(II)I"⟩
abbrev cX6_undo : ByteArray := prog_1_method_12_code
def yX6_undo : MethodName := ⟨RX6, "undo", "(II)I"⟩
abbrev cX6_approve : ByteArray := prog_1_method_13_code
def yX6_approve : MethodName := ⟨RX6, "approve", "(II)Z"⟩
abbrev cX6_lock : ByteArray := prog_1_method_14_code
def yX6_lock : MethodName := ⟨RX6, "lock", "(III)I"⟩
abbrev cX6_setRank : ByteArray := prog_1_method_15_code
def yX6_setRank : MethodName := ⟨RX6, "setRank", "(II)I"⟩
abbrev cX6_version : ByteArray := prog_1_method_16_code
def yX6_version : MethodName := ⟨RX6, "version", "(I)I"⟩
abbrev cX6_rankOf : ByteArray := prog_1_method_17_code
def yX6_rankOf : MethodName := ⟨RX6, "rankOf", "(I)I"⟩
abbrev cX6_force : ByteArray := prog_1_method_18_code
def yX6_force : MethodName := ⟨RX6, "force", "(I)I"⟩
abbrev cX6_reaches : ByteArray := prog_1_method_19_code
def yX6_reaches : MethodName := ⟨RX6, "reaches", "(I)I"⟩
abbrev cX6_extent : ByteArray := prog_1_method_20_code
def yX6_extent : MethodName := ⟨RX6, "extent", "(I)I"⟩
abbrev cX6_items : ByteArray := prog_1_method_21_code
def yX6_items : MethodName := ⟨RX6, "items", "(II)I"⟩
abbrev cX6_sortAt : ByteArray := prog_1_method_22_code
def yX6_sortAt : MethodName := ⟨RX6, "sortAt", "(III)I"⟩
abbrev cX6_itemAt : ByteArray := prog_1_method_23_code
def yX6_itemAt : MethodName := ⟨RX6, "itemAt", "(III)I"⟩
abbrev cX6_itemAnew : ByteArray := prog_1_method_24_code
def yX6_itemAnew : MethodName := ⟨RX6, "itemAnew", "(III)I"⟩
abbrev cX6_sourceAt : ByteArray := prog_1_method_25_code
def yX6_sourceAt : MethodName := ⟨RX6, "sourceAt", "(III)I"⟩
abbrev cX6_standsFor : ByteArray := prog_1_method_26_code
def yX6_standsFor : MethodName := ⟨RX6, "standsFor", "(I)I"⟩
abbrev cX6_links : ByteArray := prog_1_method_27_code
def yX6_links : MethodName := ⟨RX6, "links", "(I)I"⟩
abbrev cX6_broken : ByteArray := prog_1_method_28_code
def yX6_broken : MethodName := ⟨RX6, "broken", "(I)I"⟩
abbrev cX6_firstBroken : ByteArray := prog_1_method_29_code
def yX6_firstBroken : MethodName := ⟨RX6, "firstBroken", "(I)I"⟩
abbrev cX6_linkedFrom : ByteArray := prog_1_method_30_code
def yX6_linkedFrom : MethodName := ⟨RX6, "linkedFrom", "(I)I"⟩
abbrev cX6_breaches : ByteArray := prog_1_method_31_code
def yX6_breaches : MethodName := ⟨RX6, "breaches", "(I)I"⟩
abbrev cX6_breached : ByteArray := prog_1_method_32_code
def yX6_breached : MethodName := ⟨RX6, "breached", "()I"⟩
abbrev cX6_requireBelow : ByteArray := prog_1_method_33_code
def yX6_requireBelow : MethodName := ⟨RX6, "requireBelow", "(II)V"⟩
abbrev cX6_requireArgument : ByteArray := prog_1_method_34_code
def yX6_requireArgument : MethodName := ⟨RX6, "requireArgument", "(I)V"⟩
abbrev cX6_requirePage : ByteArray := prog_1_method_35_code
def yX6_requirePage : MethodName := ⟨RX6, "requirePage", "(I)V"⟩
abbrev cX6_pageAt : ByteArray := prog_1_method_36_code
def yX6_pageAt : MethodName := ⟨RX6, "pageAt", "(I)LMacroWiki$Page;"⟩
abbrev cX6_rankOfUser : ByteArray := prog_1_method_37_code
def yX6_rankOfUser : MethodName := ⟨RX6, "rankOfUser", "(I)I"⟩
abbrev cX6_indexOf : ByteArray := prog_1_method_38_code
def yX6_indexOf : MethodName := ⟨RX6, "indexOf", "(LMacroWiki$Spread;II)I"⟩
abbrev cX6_addPiece : ByteArray := prog_1_method_39_code
def yX6_addPiece : MethodName := ⟨RX6, "addPiece", "(III)I"⟩
abbrev cX6_refusalOf : ByteArray := prog_1_method_40_code
def yX6_refusalOf : MethodName := ⟨RX6, "refusalOf", "(ILMacroWiki$Text;)I"⟩
abbrev cX6_hasRankBelow : ByteArray := prog_1_method_41_code
def yX6_hasRankBelow : MethodName := ⟨RX6, "hasRankBelow", "(II)Z"⟩
abbrev cX6_settle : ByteArray := prog_1_method_42_code
def yX6_settle : MethodName := ⟨RX6, "settle", "()V"⟩
abbrev cX6_forceOn : ByteArray := prog_1_method_43_code
def yX6_forceOn : MethodName := ⟨RX6, "forceOn", "(I)I"⟩
abbrev cX6_spreadPage : ByteArray := prog_1_method_44_code
def yX6_spreadPage : MethodName := ⟨RX6, "spreadPage", "(I)V"⟩
abbrev cX6_spreadPiece : ByteArray := prog_1_method_45_code
def yX6_spreadPiece : MethodName := ⟨RX6, "spreadPiece", "(LMacroWiki$Spread;LMacroWiki$Text;II)V"⟩
abbrev cX6_walkPage : ByteArray := prog_1_method_46_code
def yX6_walkPage : MethodName := ⟨RX6, "walkPage", "(LMacroWiki$Walk;III)V"⟩
abbrev cX6_walkPiece : ByteArray := prog_1_method_47_code
def yX6_walkPiece : MethodName := ⟨RX6, "walkPiece", "(LMacroWiki$Walk;LMacroWiki$Text;III)V"⟩
abbrev cX6_behindRedirects : ByteArray := prog_1_method_48_code
def yX6_behindRedirects : MethodName := ⟨RX6, "behindRedirects", "(I)I"⟩
abbrev cX6_isBroken : ByteArray := prog_1_method_49_code
def yX6_isBroken : MethodName := ⟨RX6, "isBroken", "(LMacroWiki$Spread;I)Z"⟩
abbrev cX6_isGood : ByteArray := prog_1_method_50_code
def yX6_isGood : MethodName := ⟨RX6, "isGood", "(I)Z"⟩
abbrev cX6_hasGoodLink : ByteArray := prog_1_method_51_code
def yX6_hasGoodLink : MethodName := ⟨RX6, "hasGoodLink", "(II)Z"⟩
abbrev cX6_leadsTo : ByteArray := prog_1_method_52_code
def yX6_leadsTo : MethodName := ⟨RX6, "leadsTo", "(II)Z"⟩
abbrev cX6_countBreaches : ByteArray := prog_1_method_53_code
def yX6_countBreaches : MethodName := ⟨RX6, "countBreaches", "(LMacroWiki$Page;)I"⟩
abbrev cX6_at : ByteArray := prog_1_method_54_code
def yX6_at : MethodName := ⟨RX6, "at", "([II)I"⟩
abbrev cX6_put : ByteArray := prog_1_method_55_code
def yX6_put : MethodName := ⟨RX6, "put", "([III)V"⟩
abbrev cX6_greatest : ByteArray := prog_1_method_56_code
def yX6_greatest : MethodName := ⟨RX6, "greatest", "([I)I"⟩
abbrev cX6_contains : ByteArray := prog_1_method_57_code
def yX6_contains : MethodName := ⟨RX6, "contains", "(II)Z"⟩
def RX7 : String := "MacroWikiModel"
def TX7 : u_T := fun k => match k with
  | 0 => ("MacroWikiModel", "draft", "[I", true)
  | 1 => ("MacroWikiModel", "drafted", "I", false)
  | 2 => ("MacroWikiModel", "open", "I", false)
  | 3 => ("MacroWikiModel", "texts", "[I", true)
  | 4 => ("MacroWikiModel", "sizes", "[I", true)
  | 5 => ("MacroWikiModel", "ranks", "[I", true)
  | 6 => ("MacroWikiModel", "versions", "[I", true)
  | 7 => ("MacroWikiModel", "locks", "[I", true)
  | 8 => ("MacroWikiModel", "userRanks", "[I", true)
  | 9 => ("MacroWikiModel", "calls", "[I", true)
  | 10 => ("MacroWikiModel", "own", "[I", true)
  | 11 => ("MacroWikiModel", "reached", "[I", true)
  | 12 => ("MacroWikiModel", "depths", "[I", true)
  | 13 => ("MacroWikiModel", "extents", "[I", true)
  | 14 => ("MacroWikiModel", "sorts", "[I", true)
  | 15 => ("MacroWikiModel", "values", "[I", true)
  | 16 => ("MacroWikiModel", "sources", "[I", true)
  | 17 => ("MacroWikiModel", "shown", "I", false)
  | 18 => ("MacroWikiModel", "pages", "[I", true)
  | 19 => ("MacroWikiModel", "places", "[I", true)
  | 20 => ("MacroWikiModel", "arguments", "[I", true)
  | _ => ("MacroWikiModel", "last", "I", false)
def tyX7 : Nat → FieldType := fun k => match k with
  | 0 => .array .int
  | 1 => .int
  | 2 => .int
  | 3 => .array .int
  | 4 => .array .int
  | 5 => .array .int
  | 6 => .array .int
  | 7 => .array .int
  | 8 => .array .int
  | 9 => .array .int
  | 10 => .array .int
  | 11 => .array .int
  | 12 => .array .int
  | 13 => .array .int
  | 14 => .array .int
  | 15 => .array .int
  | 16 => .array .int
  | 17 => .int
  | 18 => .array .int
  | 19 => .array .int
  | 20 => .array .int
  | _ => .int
theorem nmX7 : ∀ a, a < 22 → ∀ b, b < 22 → a ≠ b → (TX7 a).2.1 ≠ (TX7 b).2.1 := by decide +kernel
theorem tyX7_ok : ∀ k, k < 22 → parseFieldDescriptor (TX7 k).2.2.1 = some (tyX7 k) := by decide +kernel
abbrev cX7_init : ByteArray := prog_9_method_1_code
def yX7_init : MethodName := ⟨RX7, "<init>", "()V"⟩
abbrev cX7_thrown : ByteArray := prog_9_method_2_code
def yX7_thrown : MethodName := ⟨RX7, "thrown", "()I"⟩
abbrev cX7_in : ByteArray := prog_9_method_3_code
def yX7_in : MethodName := ⟨RX7, "in", "(III)Z"⟩
abbrev cX7_goes : ByteArray := prog_9_method_4_code
def yX7_goes : MethodName := ⟨RX7, "goes", "(ZZZ)Z"⟩
abbrev cX7_isPage : ByteArray := prog_9_method_5_code
def yX7_isPage : MethodName := ⟨RX7, "isPage", "(I)Z"⟩
abbrev cX7_isUser : ByteArray := prog_9_method_6_code
def yX7_isUser : MethodName := ⟨RX7, "isUser", "(I)Z"⟩
abbrev cX7_isLetter : ByteArray := prog_9_method_7_code
def yX7_isLetter : MethodName := ⟨RX7, "isLetter", "(I)Z"⟩
abbrev cX7_adds : ByteArray := prog_9_method_8_code
def yX7_adds : MethodName := ⟨RX7, "adds", "(III)I"⟩
abbrev cX7_hasRoom : ByteArray := prog_9_method_9_code
def yX7_hasRoom : MethodName := ⟨RX7, "hasRoom", "()Z"⟩
abbrev cX7_letter : ByteArray := prog_9_method_10_code
def yX7_letter : MethodName := ⟨RX7, "letter", "(I)I"⟩
abbrev cX7_argument : ByteArray := prog_9_method_11_code
def yX7_argument : MethodName := ⟨RX7, "argument", "()I"⟩
abbrev cX7_call : ByteArray := prog_9_method_12_code
def yX7_call : MethodName := ⟨RX7, "call", "(II)I"⟩
abbrev cX7_callOn : ByteArray := prog_9_method_13_code
def yX7_callOn : MethodName := ⟨RX7, "callOn", "(I)I"⟩
abbrev cX7_when : ByteArray := prog_9_method_14_code
def yX7_when : MethodName := ⟨RX7, "when", "(I)I"⟩
abbrev cX7_end : ByteArray := prog_9_method_15_code
def yX7_end : MethodName := ⟨RX7, "end", "()I"⟩
abbrev cX7_anchor : ByteArray := prog_9_method_16_code
def yX7_anchor : MethodName := ⟨RX7, "anchor", "(I)I"⟩
abbrev cX7_link : ByteArray := prog_9_method_17_code
def yX7_link : MethodName := ⟨RX7, "link", "(II)I"⟩
abbrev cX7_redirect : ByteArray := prog_9_method_18_code
def yX7_redirect : MethodName := ⟨RX7, "redirect", "(I)I"⟩
abbrev cX7_now : ByteArray := prog_9_method_19_code
def yX7_now : MethodName := ⟨RX7, "now", "(I)I"⟩
abbrev cX7_laysCalls : ByteArray := prog_9_method_20_code
def yX7_laysCalls : MethodName := ⟨RX7, "laysCalls", "(II)V"⟩
abbrev cX7_laysReached : ByteArray := prog_9_method_21_code
def yX7_laysReached : MethodName := ⟨RX7, "laysReached", "()V"⟩
abbrev cX7_laysNow : ByteArray := prog_9_method_22_code
def yX7_laysNow : MethodName := ⟨RX7, "laysNow", "()V"⟩
abbrev cX7_measures : ByteArray := prog_9_method_23_code
def yX7_measures : MethodName := ⟨RX7, "measures", "()V"⟩
abbrev cX7_has : ByteArray := prog_9_method_24_code
def yX7_has : MethodName := ⟨RX7, "has", "(II)Z"⟩
abbrev cX7_forceOf : ByteArray := prog_9_method_25_code
def yX7_forceOf : MethodName := ⟨RX7, "forceOf", "(I)I"⟩
abbrev cX7_greatest : ByteArray := prog_9_method_26_code
def yX7_greatest : MethodName := ⟨RX7, "greatest", "(Z)I"⟩
abbrev cX7_refusal : ByteArray := prog_9_method_27_code
def yX7_refusal : MethodName := ⟨RX7, "refusal", "(III)I"⟩
abbrev cX7_edit : ByteArray := prog_9_method_28_code
def yX7_edit : MethodName := ⟨RX7, "edit", "(II)I"⟩
abbrev cX7_undo : ByteArray := prog_9_method_29_code
def yX7_undo : MethodName := ⟨RX7, "undo", "(II)I"⟩
abbrev cX7_approve : ByteArray := prog_9_method_30_code
def yX7_approve : MethodName := ⟨RX7, "approve", "(II)Z"⟩
abbrev cX7_lock : ByteArray := prog_9_method_31_code
def yX7_lock : MethodName := ⟨RX7, "lock", "(III)I"⟩
abbrev cX7_setRank : ByteArray := prog_9_method_32_code
def yX7_setRank : MethodName := ⟨RX7, "setRank", "(II)I"⟩
abbrev cX7_version : ByteArray := prog_9_method_33_code
def yX7_version : MethodName := ⟨RX7, "version", "(I)I"⟩
abbrev cX7_rankOf : ByteArray := prog_9_method_34_code
def yX7_rankOf : MethodName := ⟨RX7, "rankOf", "(I)I"⟩
abbrev cX7_force : ByteArray := prog_9_method_35_code
def yX7_force : MethodName := ⟨RX7, "force", "(I)I"⟩
abbrev cX7_reaches : ByteArray := prog_9_method_36_code
def yX7_reaches : MethodName := ⟨RX7, "reaches", "(I)I"⟩
abbrev cX7_extent : ByteArray := prog_9_method_37_code
def yX7_extent : MethodName := ⟨RX7, "extent", "(I)I"⟩
abbrev cX7_shows : ByteArray := prog_9_method_38_code
def yX7_shows : MethodName := ⟨RX7, "shows", "(III)V"⟩
abbrev cX7_behind : ByteArray := prog_9_method_39_code
def yX7_behind : MethodName := ⟨RX7, "behind", "(II)I"⟩
abbrev cX7_lays : ByteArray := prog_9_method_40_code
def yX7_lays : MethodName := ⟨RX7, "lays", "(II)V"⟩
abbrev cX7_isShown : ByteArray := prog_9_method_41_code
def yX7_isShown : MethodName := ⟨RX7, "isShown", "(III)Z"⟩
abbrev cX7_items : ByteArray := prog_9_method_42_code
def yX7_items : MethodName := ⟨RX7, "items", "(II)I"⟩
abbrev cX7_sortAt : ByteArray := prog_9_method_43_code
def yX7_sortAt : MethodName := ⟨RX7, "sortAt", "(III)I"⟩
abbrev cX7_itemAt : ByteArray := prog_9_method_44_code
def yX7_itemAt : MethodName := ⟨RX7, "itemAt", "(III)I"⟩
abbrev cX7_itemAnew : ByteArray := prog_9_method_45_code
def yX7_itemAnew : MethodName := ⟨RX7, "itemAnew", "(III)I"⟩
abbrev cX7_sourceAt : ByteArray := prog_9_method_46_code
def yX7_sourceAt : MethodName := ⟨RX7, "sourceAt", "(III)I"⟩
abbrev cX7_stands : ByteArray := prog_9_method_47_code
def yX7_stands : MethodName := ⟨RX7, "stands", "(I)I"⟩
abbrev cX7_standsFor : ByteArray := prog_9_method_48_code
def yX7_standsFor : MethodName := ⟨RX7, "standsFor", "(I)I"⟩
abbrev cX7_showsAnchor : ByteArray := prog_9_method_49_code
def yX7_showsAnchor : MethodName := ⟨RX7, "showsAnchor", "(II)Z"⟩
abbrev cX7_isGood : ByteArray := prog_9_method_50_code
def yX7_isGood : MethodName := ⟨RX7, "isGood", "(I)Z"⟩
abbrev cX7_linkAt : ByteArray := prog_9_method_51_code
def yX7_linkAt : MethodName := ⟨RX7, "linkAt", "(II)I"⟩
abbrev cX7_links : ByteArray := prog_9_method_52_code
def yX7_links : MethodName := ⟨RX7, "links", "(I)I"⟩
abbrev cX7_broken : ByteArray := prog_9_method_53_code
def yX7_broken : MethodName := ⟨RX7, "broken", "(I)I"⟩
abbrev cX7_firstBroken : ByteArray := prog_9_method_54_code
def yX7_firstBroken : MethodName := ⟨RX7, "firstBroken", "(I)I"⟩
abbrev cX7_linkedFrom : ByteArray := prog_9_method_55_code
def yX7_linkedFrom : MethodName := ⟨RX7, "linkedFrom", "(I)I"⟩
abbrev cX7_breachesOf : ByteArray := prog_9_method_56_code
def yX7_breachesOf : MethodName := ⟨RX7, "breachesOf", "(I)I"⟩
abbrev cX7_breaches : ByteArray := prog_9_method_57_code
def yX7_breaches : MethodName := ⟨RX7, "breaches", "(I)I"⟩
abbrev cX7_breached : ByteArray := prog_9_method_58_code
def yX7_breached : MethodName := ⟨RX7, "breached", "()I"⟩
def RJx145de : String := "java/io/Serializable"
def TJx145de : u_T := fun k => match k with
  | _ => ("", "", "", false)
def tyJx145de : Nat → FieldType := fun k => match k with
  | _ => .int
def RJ9 : String := "java/lang/Math"
def TJ9 : u_T := fun k => match k with
  | _ => ("", "", "", false)
def tyJ9 : Nat → FieldType := fun k => match k with
  | _ => .int
abbrev cJ9_max_7cf53 : ByteArray := prog_15_method_65_code
def yJ9_max_7cf53 : MethodName := ⟨RJ9, "max", "(II)I"⟩
abbrev cJ9_min_7cf53 : ByteArray := prog_15_method_69_code
def yJ9_min_7cf53 : MethodName := ⟨RJ9, "min", "(II)I"⟩
def RJ0 : String := "java/lang/String"
def TJ0 : u_T := fun k => match k with
  | _ => ("", "", "", false)
def tyJ0 : Nat → FieldType := fun k => match k with
  | _ => .int
def RL : String := "MacroWikiLaw"
abbrev cL_letter : ByteArray := method_3_code
def yL_letter : MethodName := ⟨RL, "letter", "(LMacroWiki;I[J)I"⟩
abbrev cL_argument : ByteArray := method_4_code
def yL_argument : MethodName := ⟨RL, "argument", "(LMacroWiki;[J)I"⟩
abbrev cL_call : ByteArray := method_5_code
def yL_call : MethodName := ⟨RL, "call", "(LMacroWiki;II[J)I"⟩
abbrev cL_callOn : ByteArray := method_6_code
def yL_callOn : MethodName := ⟨RL, "callOn", "(LMacroWiki;I[J)I"⟩
abbrev cL_when : ByteArray := method_7_code
def yL_when : MethodName := ⟨RL, "when", "(LMacroWiki;I[J)I"⟩
abbrev cL_end : ByteArray := method_8_code
def yL_end : MethodName := ⟨RL, "end", "(LMacroWiki;[J)I"⟩
abbrev cL_anchor : ByteArray := method_9_code
def yL_anchor : MethodName := ⟨RL, "anchor", "(LMacroWiki;I[J)I"⟩
abbrev cL_link : ByteArray := method_10_code
def yL_link : MethodName := ⟨RL, "link", "(LMacroWiki;II[J)I"⟩
abbrev cL_redirect : ByteArray := method_11_code
def yL_redirect : MethodName := ⟨RL, "redirect", "(LMacroWiki;I[J)I"⟩
abbrev cL_edit : ByteArray := method_12_code
def yL_edit : MethodName := ⟨RL, "edit", "(LMacroWiki;II[J)I"⟩
abbrev cL_undo : ByteArray := method_13_code
def yL_undo : MethodName := ⟨RL, "undo", "(LMacroWiki;II[J)I"⟩
abbrev cL_approve : ByteArray := method_14_code
def yL_approve : MethodName := ⟨RL, "approve", "(LMacroWiki;II[J)I"⟩
abbrev cL_lock : ByteArray := method_15_code
def yL_lock : MethodName := ⟨RL, "lock", "(LMacroWiki;III[J)I"⟩
abbrev cL_setRank : ByteArray := method_16_code
def yL_setRank : MethodName := ⟨RL, "setRank", "(LMacroWiki;II[J)I"⟩
abbrev cL_version : ByteArray := method_17_code
def yL_version : MethodName := ⟨RL, "version", "(LMacroWiki;I[J)I"⟩
abbrev cL_rankOf : ByteArray := method_18_code
def yL_rankOf : MethodName := ⟨RL, "rankOf", "(LMacroWiki;I[J)I"⟩
abbrev cL_force : ByteArray := method_19_code
def yL_force : MethodName := ⟨RL, "force", "(LMacroWiki;I[J)I"⟩
abbrev cL_reaches : ByteArray := method_20_code
def yL_reaches : MethodName := ⟨RL, "reaches", "(LMacroWiki;I[J)I"⟩
abbrev cL_extent : ByteArray := method_21_code
def yL_extent : MethodName := ⟨RL, "extent", "(LMacroWiki;I[J)I"⟩
abbrev cL_items : ByteArray := method_22_code
def yL_items : MethodName := ⟨RL, "items", "(LMacroWiki;II[J)I"⟩
abbrev cL_sortAt : ByteArray := method_23_code
def yL_sortAt : MethodName := ⟨RL, "sortAt", "(LMacroWiki;III[J)I"⟩
abbrev cL_itemAt : ByteArray := method_24_code
def yL_itemAt : MethodName := ⟨RL, "itemAt", "(LMacroWiki;III[J)I"⟩
abbrev cL_itemAnew : ByteArray := method_25_code
def yL_itemAnew : MethodName := ⟨RL, "itemAnew", "(LMacroWiki;III[J)I"⟩
abbrev cL_sourceAt : ByteArray := method_26_code
def yL_sourceAt : MethodName := ⟨RL, "sourceAt", "(LMacroWiki;III[J)I"⟩
abbrev cL_standsFor : ByteArray := method_27_code
def yL_standsFor : MethodName := ⟨RL, "standsFor", "(LMacroWiki;I[J)I"⟩
abbrev cL_links : ByteArray := method_28_code
def yL_links : MethodName := ⟨RL, "links", "(LMacroWiki;I[J)I"⟩
abbrev cL_broken : ByteArray := method_29_code
def yL_broken : MethodName := ⟨RL, "broken", "(LMacroWiki;I[J)I"⟩
abbrev cL_firstBroken : ByteArray := method_30_code
def yL_firstBroken : MethodName := ⟨RL, "firstBroken", "(LMacroWiki;I[J)I"⟩
abbrev cL_linkedFrom : ByteArray := method_31_code
def yL_linkedFrom : MethodName := ⟨RL, "linkedFrom", "(LMacroWiki;I[J)I"⟩
abbrev cL_breaches : ByteArray := method_32_code
def yL_breaches : MethodName := ⟨RL, "breaches", "(LMacroWiki;I[J)I"⟩
abbrev cL_law : ByteArray := code
def yL_law : MethodName := ⟨RL, "law", "([I)Z"⟩
abbrev vwCl : List vw_C := [(RX0, TX0, 5), (RX1, TX1, 3), (RX2, TX2, 8), (RX3, TX3, 5), (RX4, TX4, 4), (RX5, TX5, 2), (RX6, TX6, 5), (RX7, TX7, 22)]
