theorem t_69 : .laysFinal RX0 "MacroWiki$Net" "calls" "[I" ∈ gT := gT_of 88 (by decide +kernel) (by decide +kernel)
theorem t_71 : .laysFinal RX0 "MacroWiki$Net" "ownExtents" "[I" ∈ gT := gT_of 90 (by decide +kernel) (by decide +kernel)
theorem t_73 : .laysFinal RX0 "MacroWiki$Net" "reached" "[I" ∈ gT := gT_of 92 (by decide +kernel) (by decide +kernel)
theorem t_75 : .laysFinal RX0 "MacroWiki$Net" "depths" "[I" ∈ gT := gT_of 94 (by decide +kernel) (by decide +kernel)
theorem t_77 : .laysFinal RX0 "MacroWiki$Net" "extents" "[I" ∈ gT := gT_of 96 (by decide +kernel) (by decide +kernel)
theorem inT_X0 : ∀ w ∈ u_ws RX0 TX0 5, w ∈ gT := by
  show ∀ w ∈ [u_lay RX0 TX0 0, u_lay RX0 TX0 1, u_lay RX0 TX0 2, u_lay RX0 TX0 3, u_lay RX0 TX0 4], w ∈ gT
  intro w h
  simp only [List.mem_cons, List.not_mem_nil, or_false] at h
  rcases h with rfl | rfl | rfl | rfl | rfl
  · exact t_69
  · exact t_71
  · exact t_73
  · exact t_75
  · exact t_77
theorem t_150 : .lays RX1 "MacroWiki$Page" "now" "LMacroWiki$Version;" ∈ gT := gT_of 169 (by decide +kernel) (by decide +kernel)
theorem t_152 : .lays RX1 "MacroWiki$Page" "lock" "I" ∈ gT := gT_of 171 (by decide +kernel) (by decide +kernel)
theorem t_154 : .laysFinal RX1 "MacroWiki$Page" "spread" "LMacroWiki$Spread;" ∈ gT := gT_of 173 (by decide +kernel) (by decide +kernel)
theorem inT_X1 : ∀ w ∈ u_ws RX1 TX1 3, w ∈ gT := by
  show ∀ w ∈ [u_lay RX1 TX1 0, u_lay RX1 TX1 1, u_lay RX1 TX1 2], w ∈ gT
  intro w h
  simp only [List.mem_cons, List.not_mem_nil, or_false] at h
  rcases h with rfl | rfl | rfl
  · exact t_150
  · exact t_152
  · exact t_154
theorem t_127 : .laysFinal RX2 "MacroWiki$Spread" "needs" "[I" ∈ gT := gT_of 146 (by decide +kernel) (by decide +kernel)
theorem t_129 : .laysFinal RX2 "MacroWiki$Spread" "sorts" "[I" ∈ gT := gT_of 148 (by decide +kernel) (by decide +kernel)
theorem t_131 : .laysFinal RX2 "MacroWiki$Spread" "values" "[I" ∈ gT := gT_of 150 (by decide +kernel) (by decide +kernel)
theorem t_133 : .laysFinal RX2 "MacroWiki$Spread" "sources" "[I" ∈ gT := gT_of 152 (by decide +kernel) (by decide +kernel)
theorem t_135 : .lays RX2 "MacroWiki$Spread" "size" "I" ∈ gT := gT_of 154 (by decide +kernel) (by decide +kernel)
theorem t_137 : .lays RX2 "MacroWiki$Spread" "anchors" "I" ∈ gT := gT_of 156 (by decide +kernel) (by decide +kernel)
theorem t_139 : .laysFinal RX2 "MacroWiki$Spread" "openNeeds" "[I" ∈ gT := gT_of 158 (by decide +kernel) (by decide +kernel)
theorem t_141 : .lays RX2 "MacroWiki$Spread" "openWhens" "I" ∈ gT := gT_of 160 (by decide +kernel) (by decide +kernel)
theorem inT_X2 : ∀ w ∈ u_ws RX2 TX2 8, w ∈ gT := by
  show ∀ w ∈ [u_lay RX2 TX2 0, u_lay RX2 TX2 1, u_lay RX2 TX2 2, u_lay RX2 TX2 3, u_lay RX2 TX2 4, u_lay RX2 TX2 5, u_lay RX2 TX2 6, u_lay RX2 TX2 7], w ∈ gT
  intro w h
  simp only [List.mem_cons, List.not_mem_nil, or_false] at h
  rcases h with rfl | rfl | rfl | rfl | rfl | rfl | rfl | rfl
  · exact t_127
  · exact t_129
  · exact t_131
  · exact t_133
  · exact t_135
  · exact t_137
  · exact t_139
  · exact t_141
theorem t_46 : .laysFinal RX3 "MacroWiki$Text" "sorts" "[I" ∈ gT := gT_of 65 (by decide +kernel) (by decide +kernel)
theorem t_48 : .laysFinal RX3 "MacroWiki$Text" "pages" "[I" ∈ gT := gT_of 67 (by decide +kernel) (by decide +kernel)
theorem t_50 : .laysFinal RX3 "MacroWiki$Text" "signs" "[I" ∈ gT := gT_of 69 (by decide +kernel) (by decide +kernel)
theorem t_52 : .lays RX3 "MacroWiki$Text" "size" "I" ∈ gT := gT_of 71 (by decide +kernel) (by decide +kernel)
theorem t_54 : .lays RX3 "MacroWiki$Text" "openWhens" "I" ∈ gT := gT_of 73 (by decide +kernel) (by decide +kernel)
theorem inT_X3 : ∀ w ∈ u_ws RX3 TX3 5, w ∈ gT := by
  show ∀ w ∈ [u_lay RX3 TX3 0, u_lay RX3 TX3 1, u_lay RX3 TX3 2, u_lay RX3 TX3 3, u_lay RX3 TX3 4], w ∈ gT
  intro w h
  simp only [List.mem_cons, List.not_mem_nil, or_false] at h
  rcases h with rfl | rfl | rfl | rfl | rfl
  · exact t_46
  · exact t_48
  · exact t_50
  · exact t_52
  · exact t_54
theorem t_103 : .laysFinal RX4 "MacroWiki$Version" "before" "LMacroWiki$Version;" ∈ gT := gT_of 122 (by decide +kernel) (by decide +kernel)
theorem t_105 : .laysFinal RX4 "MacroWiki$Version" "number" "I" ∈ gT := gT_of 124 (by decide +kernel) (by decide +kernel)
theorem t_107 : .laysFinal RX4 "MacroWiki$Version" "text" "LMacroWiki$Text;" ∈ gT := gT_of 126 (by decide +kernel) (by decide +kernel)
theorem t_109 : .lays RX4 "MacroWiki$Version" "rank" "I" ∈ gT := gT_of 128 (by decide +kernel) (by decide +kernel)
theorem inT_X4 : ∀ w ∈ u_ws RX4 TX4 4, w ∈ gT := by
  show ∀ w ∈ [u_lay RX4 TX4 0, u_lay RX4 TX4 1, u_lay RX4 TX4 2, u_lay RX4 TX4 3], w ∈ gT
  intro w h
  simp only [List.mem_cons, List.not_mem_nil, or_false] at h
  rcases h with rfl | rfl | rfl | rfl
  · exact t_103
  · exact t_105
  · exact t_107
  · exact t_109
theorem t_162 : .laysFinal RX6 "MacroWiki" "draft" "LMacroWiki$Text;" ∈ gT := gT_of 181 (by decide +kernel) (by decide +kernel)
theorem t_164 : .laysFinal RX6 "MacroWiki" "pages" "[LMacroWiki$Page;" ∈ gT := gT_of 183 (by decide +kernel) (by decide +kernel)
theorem t_166 : .laysFinal RX6 "MacroWiki" "userRanks" "[I" ∈ gT := gT_of 185 (by decide +kernel) (by decide +kernel)
theorem t_168 : .lays RX6 "MacroWiki" "net" "LMacroWiki$Net;" ∈ gT := gT_of 187 (by decide +kernel) (by decide +kernel)
theorem t_170 : .lays RX6 "MacroWiki" "trial" "LMacroWiki$Net;" ∈ gT := gT_of 189 (by decide +kernel) (by decide +kernel)
theorem inT_X6 : ∀ w ∈ u_ws RX6 TX6 5, w ∈ gT := by
  show ∀ w ∈ [u_lay RX6 TX6 0, u_lay RX6 TX6 1, u_lay RX6 TX6 2, u_lay RX6 TX6 3, u_lay RX6 TX6 4], w ∈ gT
  intro w h
  simp only [List.mem_cons, List.not_mem_nil, or_false] at h
  rcases h with rfl | rfl | rfl | rfl | rfl
  · exact t_162
  · exact t_164
  · exact t_166
  · exact t_168
  · exact t_170
theorem t_39 : .fieldLink RX3 9 "MacroWiki$Text" "sorts" "[I" ∈ gT := gT_of 58 (by decide +kernel) (by decide +kernel)
theorem fk_X3_9 : FLk RX3 9 3 0 (tyX3 0) true := ⟨RX3, TX3, 5, tyX3, rfl, by decide, inT_X3, tyX3_ok, nmX3, rfl, rfl, (fun _ => rfl), Or.inl t_39⟩
theorem f_X3_9 : FLr RX3 9 3 0 := fk_X3_9.r
theorem ff_X3_9 : FLf RX3 9 3 0 (tyX3 0) := ⟨fk_X3_9, RX3, TX3, 5, rfl, t_39⟩
theorem t_40 : .fieldLink RX3 15 "MacroWiki$Text" "pages" "[I" ∈ gT := gT_of 59 (by decide +kernel) (by decide +kernel)
theorem fk_X3_15 : FLk RX3 15 3 1 (tyX3 1) true := ⟨RX3, TX3, 5, tyX3, rfl, by decide, inT_X3, tyX3_ok, nmX3, rfl, rfl, (fun _ => rfl), Or.inl t_40⟩
theorem f_X3_15 : FLr RX3 15 3 1 := fk_X3_15.r
theorem ff_X3_15 : FLf RX3 15 3 1 (tyX3 1) := ⟨fk_X3_15, RX3, TX3, 5, rfl, t_40⟩
theorem t_41 : .fieldLink RX3 18 "MacroWiki$Text" "signs" "[I" ∈ gT := gT_of 60 (by decide +kernel) (by decide +kernel)
theorem fk_X3_18 : FLk RX3 18 3 2 (tyX3 2) true := ⟨RX3, TX3, 5, tyX3, rfl, by decide, inT_X3, tyX3_ok, nmX3, rfl, rfl, (fun _ => rfl), Or.inl t_41⟩
theorem f_X3_18 : FLr RX3 18 3 2 := fk_X3_18.r
theorem ff_X3_18 : FLf RX3 18 3 2 (tyX3 2) := ⟨fk_X3_18, RX3, TX3, 5, rfl, t_41⟩
theorem t_42 : .fieldLink RX3 21 "MacroWiki$Text" "size" "I" ∈ gT := gT_of 61 (by decide +kernel) (by decide +kernel)
theorem fk_X3_21 : FLk RX3 21 3 3 (tyX3 3) false := ⟨RX3, TX3, 5, tyX3, rfl, by decide, inT_X3, tyX3_ok, nmX3, rfl, rfl, (fun h => nomatch h), Or.inl t_42⟩
theorem f_X3_21 : FLr RX3 21 3 3 := fk_X3_21.r
theorem t_n43 : .fieldLinkNest RX0 35 "MacroWiki$Text" "size" "I" "MacroWiki" ∈ gN := gN_of 43 (by decide +kernel) (by decide +kernel)
theorem fk_X0_35 : FLk RX0 35 3 3 (tyX3 3) false := ⟨RX3, TX3, 5, tyX3, rfl, by decide, inT_X3, tyX3_ok, nmX3, rfl, rfl, (fun h => nomatch h), Or.inr ⟨_, t_n43⟩⟩
theorem f_X0_35 : FLr RX0 35 3 3 := fk_X0_35.r
theorem t_n44 : .fieldLinkNest RX6 208 "MacroWiki$Text" "size" "I" "MacroWiki" ∈ gN := gN_of 44 (by decide +kernel) (by decide +kernel)
theorem fk_X6_208 : FLk RX6 208 3 3 (tyX3 3) false := ⟨RX3, TX3, 5, tyX3, rfl, by decide, inT_X3, tyX3_ok, nmX3, rfl, rfl, (fun h => nomatch h), Or.inr ⟨_, t_n44⟩⟩
theorem f_X6_208 : FLr RX6 208 3 3 := fk_X6_208.r
theorem t_45 : .fieldLink RX3 25 "MacroWiki$Text" "openWhens" "I" ∈ gT := gT_of 64 (by decide +kernel) (by decide +kernel)
theorem fk_X3_25 : FLk RX3 25 3 4 (tyX3 4) false := ⟨RX3, TX3, 5, tyX3, rfl, by decide, inT_X3, tyX3_ok, nmX3, rfl, rfl, (fun h => nomatch h), Or.inl t_45⟩
theorem f_X3_25 : FLr RX3 25 3 4 := fk_X3_25.r
theorem t_64 : .fieldLink RX0 9 "MacroWiki$Net" "calls" "[I" ∈ gT := gT_of 83 (by decide +kernel) (by decide +kernel)
theorem fk_X0_9 : FLk RX0 9 0 0 (tyX0 0) true := ⟨RX0, TX0, 5, tyX0, rfl, by decide, inT_X0, tyX0_ok, nmX0, rfl, rfl, (fun _ => rfl), Or.inl t_64⟩
theorem f_X0_9 : FLr RX0 9 0 0 := fk_X0_9.r
theorem ff_X0_9 : FLf RX0 9 0 0 (tyX0 0) := ⟨fk_X0_9, RX0, TX0, 5, rfl, t_64⟩
theorem t_65 : .fieldLink RX0 15 "MacroWiki$Net" "ownExtents" "[I" ∈ gT := gT_of 84 (by decide +kernel) (by decide +kernel)
theorem fk_X0_15 : FLk RX0 15 0 1 (tyX0 1) true := ⟨RX0, TX0, 5, tyX0, rfl, by decide, inT_X0, tyX0_ok, nmX0, rfl, rfl, (fun _ => rfl), Or.inl t_65⟩
theorem f_X0_15 : FLr RX0 15 0 1 := fk_X0_15.r
theorem ff_X0_15 : FLf RX0 15 0 1 (tyX0 1) := ⟨fk_X0_15, RX0, TX0, 5, rfl, t_65⟩
theorem t_66 : .fieldLink RX0 18 "MacroWiki$Net" "reached" "[I" ∈ gT := gT_of 85 (by decide +kernel) (by decide +kernel)
theorem fk_X0_18 : FLk RX0 18 0 2 (tyX0 2) true := ⟨RX0, TX0, 5, tyX0, rfl, by decide, inT_X0, tyX0_ok, nmX0, rfl, rfl, (fun _ => rfl), Or.inl t_66⟩
theorem f_X0_18 : FLr RX0 18 0 2 := fk_X0_18.r
theorem ff_X0_18 : FLf RX0 18 0 2 (tyX0 2) := ⟨fk_X0_18, RX0, TX0, 5, rfl, t_66⟩
theorem t_67 : .fieldLink RX0 21 "MacroWiki$Net" "depths" "[I" ∈ gT := gT_of 86 (by decide +kernel) (by decide +kernel)
theorem fk_X0_21 : FLk RX0 21 0 3 (tyX0 3) true := ⟨RX0, TX0, 5, tyX0, rfl, by decide, inT_X0, tyX0_ok, nmX0, rfl, rfl, (fun _ => rfl), Or.inl t_67⟩
theorem f_X0_21 : FLr RX0 21 0 3 := fk_X0_21.r
theorem ff_X0_21 : FLf RX0 21 0 3 (tyX0 3) := ⟨fk_X0_21, RX0, TX0, 5, rfl, t_67⟩
theorem t_68 : .fieldLink RX0 24 "MacroWiki$Net" "extents" "[I" ∈ gT := gT_of 87 (by decide +kernel) (by decide +kernel)
theorem fk_X0_24 : FLk RX0 24 0 4 (tyX0 4) true := ⟨RX0, TX0, 5, tyX0, rfl, by decide, inT_X0, tyX0_ok, nmX0, rfl, rfl, (fun _ => rfl), Or.inl t_68⟩
theorem f_X0_24 : FLr RX0 24 0 4 := fk_X0_24.r
theorem ff_X0_24 : FLf RX0 24 0 4 (tyX0 4) := ⟨fk_X0_24, RX0, TX0, 5, rfl, t_68⟩
theorem t_95 : .fieldLink RX4 7 "MacroWiki$Version" "before" "LMacroWiki$Version;" ∈ gT := gT_of 114 (by decide +kernel) (by decide +kernel)
theorem fk_X4_7 : FLk RX4 7 4 0 (tyX4 0) true := ⟨RX4, TX4, 4, tyX4, rfl, by decide, inT_X4, tyX4_ok, nmX4, rfl, rfl, (fun _ => rfl), Or.inl t_95⟩
theorem f_X4_7 : FLr RX4 7 4 0 := fk_X4_7.r
theorem ff_X4_7 : FLf RX4 7 4 0 (tyX4 0) := ⟨fk_X4_7, RX4, TX4, 4, rfl, t_95⟩
theorem t_n96 : .fieldLinkNest RX6 105 "MacroWiki$Version" "before" "LMacroWiki$Version;" "MacroWiki" ∈ gN := gN_of 96 (by decide +kernel) (by decide +kernel)
theorem f_X6_105 : FLr RX6 105 4 0 := ⟨RX4, TX4, 4, rfl, by decide, inT_X4, Or.inr ⟨_, t_n96⟩⟩
theorem t_97 : .fieldLink RX4 13 "MacroWiki$Version" "number" "I" ∈ gT := gT_of 116 (by decide +kernel) (by decide +kernel)
theorem fk_X4_13 : FLk RX4 13 4 1 (tyX4 1) true := ⟨RX4, TX4, 4, tyX4, rfl, by decide, inT_X4, tyX4_ok, nmX4, rfl, rfl, (fun _ => rfl), Or.inl t_97⟩
theorem f_X4_13 : FLr RX4 13 4 1 := fk_X4_13.r
theorem ff_X4_13 : FLf RX4 13 4 1 (tyX4 1) := ⟨fk_X4_13, RX4, TX4, 4, rfl, t_97⟩
theorem t_n98 : .fieldLinkNest RX6 77 "MacroWiki$Version" "number" "I" "MacroWiki" ∈ gN := gN_of 98 (by decide +kernel) (by decide +kernel)
theorem f_X6_77 : FLr RX6 77 4 1 := ⟨RX4, TX4, 4, rfl, by decide, inT_X4, Or.inr ⟨_, t_n98⟩⟩
theorem t_99 : .fieldLink RX4 17 "MacroWiki$Version" "text" "LMacroWiki$Text;" ∈ gT := gT_of 118 (by decide +kernel) (by decide +kernel)
theorem fk_X4_17 : FLk RX4 17 4 2 (tyX4 2) true := ⟨RX4, TX4, 4, tyX4, rfl, by decide, inT_X4, tyX4_ok, nmX4, rfl, rfl, (fun _ => rfl), Or.inl t_99⟩
theorem f_X4_17 : FLr RX4 17 4 2 := fk_X4_17.r
theorem ff_X4_17 : FLf RX4 17 4 2 (tyX4 2) := ⟨fk_X4_17, RX4, TX4, 4, rfl, t_99⟩
theorem t_n100 : .fieldLinkNest RX6 113 "MacroWiki$Version" "text" "LMacroWiki$Text;" "MacroWiki" ∈ gN := gN_of 100 (by decide +kernel) (by decide +kernel)
theorem f_X6_113 : FLr RX6 113 4 2 := ⟨RX4, TX4, 4, rfl, by decide, inT_X4, Or.inr ⟨_, t_n100⟩⟩
theorem t_101 : .fieldLink RX4 21 "MacroWiki$Version" "rank" "I" ∈ gT := gT_of 120 (by decide +kernel) (by decide +kernel)
theorem fk_X4_21 : FLk RX4 21 4 3 (tyX4 3) false := ⟨RX4, TX4, 4, tyX4, rfl, by decide, inT_X4, tyX4_ok, nmX4, rfl, rfl, (fun h => nomatch h), Or.inl t_101⟩
theorem f_X4_21 : FLr RX4 21 4 3 := fk_X4_21.r
theorem t_n102 : .fieldLinkNest RX6 110 "MacroWiki$Version" "rank" "I" "MacroWiki" ∈ gN := gN_of 102 (by decide +kernel) (by decide +kernel)
theorem fk_X6_110 : FLk RX6 110 4 3 (tyX4 3) false := ⟨RX4, TX4, 4, tyX4, rfl, by decide, inT_X4, tyX4_ok, nmX4, rfl, rfl, (fun h => nomatch h), Or.inr ⟨_, t_n102⟩⟩
theorem f_X6_110 : FLr RX6 110 4 3 := fk_X6_110.r
theorem t_118 : .fieldLink RX2 9 "MacroWiki$Spread" "needs" "[I" ∈ gT := gT_of 137 (by decide +kernel) (by decide +kernel)
theorem fk_X2_9 : FLk RX2 9 2 0 (tyX2 0) true := ⟨RX2, TX2, 8, tyX2, rfl, by decide, inT_X2, tyX2_ok, nmX2, rfl, rfl, (fun _ => rfl), Or.inl t_118⟩
theorem f_X2_9 : FLr RX2 9 2 0 := fk_X2_9.r
theorem ff_X2_9 : FLf RX2 9 2 0 (tyX2 0) := ⟨fk_X2_9, RX2, TX2, 8, rfl, t_118⟩
theorem t_119 : .fieldLink RX2 15 "MacroWiki$Spread" "sorts" "[I" ∈ gT := gT_of 138 (by decide +kernel) (by decide +kernel)
theorem fk_X2_15 : FLk RX2 15 2 1 (tyX2 1) true := ⟨RX2, TX2, 8, tyX2, rfl, by decide, inT_X2, tyX2_ok, nmX2, rfl, rfl, (fun _ => rfl), Or.inl t_119⟩
theorem f_X2_15 : FLr RX2 15 2 1 := fk_X2_15.r
theorem ff_X2_15 : FLf RX2 15 2 1 (tyX2 1) := ⟨fk_X2_15, RX2, TX2, 8, rfl, t_119⟩
theorem t_120 : .fieldLink RX2 18 "MacroWiki$Spread" "values" "[I" ∈ gT := gT_of 139 (by decide +kernel) (by decide +kernel)
theorem fk_X2_18 : FLk RX2 18 2 2 (tyX2 2) true := ⟨RX2, TX2, 8, tyX2, rfl, by decide, inT_X2, tyX2_ok, nmX2, rfl, rfl, (fun _ => rfl), Or.inl t_120⟩
theorem f_X2_18 : FLr RX2 18 2 2 := fk_X2_18.r
theorem ff_X2_18 : FLf RX2 18 2 2 (tyX2 2) := ⟨fk_X2_18, RX2, TX2, 8, rfl, t_120⟩
theorem t_121 : .fieldLink RX2 21 "MacroWiki$Spread" "sources" "[I" ∈ gT := gT_of 140 (by decide +kernel) (by decide +kernel)
theorem fk_X2_21 : FLk RX2 21 2 3 (tyX2 3) true := ⟨RX2, TX2, 8, tyX2, rfl, by decide, inT_X2, tyX2_ok, nmX2, rfl, rfl, (fun _ => rfl), Or.inl t_121⟩
theorem f_X2_21 : FLr RX2 21 2 3 := fk_X2_21.r
theorem ff_X2_21 : FLf RX2 21 2 3 (tyX2 3) := ⟨fk_X2_21, RX2, TX2, 8, rfl, t_121⟩
theorem t_122 : .fieldLink RX2 24 "MacroWiki$Spread" "size" "I" ∈ gT := gT_of 141 (by decide +kernel) (by decide +kernel)
theorem fk_X2_24 : FLk RX2 24 2 4 (tyX2 4) false := ⟨RX2, TX2, 8, tyX2, rfl, by decide, inT_X2, tyX2_ok, nmX2, rfl, rfl, (fun h => nomatch h), Or.inl t_122⟩
theorem f_X2_24 : FLr RX2 24 2 4 := fk_X2_24.r
theorem t_n123 : .fieldLinkNest RX6 171 "MacroWiki$Spread" "size" "I" "MacroWiki" ∈ gN := gN_of 123 (by decide +kernel) (by decide +kernel)
theorem fk_X6_171 : FLk RX6 171 2 4 (tyX2 4) false := ⟨RX2, TX2, 8, tyX2, rfl, by decide, inT_X2, tyX2_ok, nmX2, rfl, rfl, (fun h => nomatch h), Or.inr ⟨_, t_n123⟩⟩
theorem f_X6_171 : FLr RX6 171 2 4 := fk_X6_171.r
theorem t_124 : .fieldLink RX2 28 "MacroWiki$Spread" "anchors" "I" ∈ gT := gT_of 143 (by decide +kernel) (by decide +kernel)
theorem fk_X2_28 : FLk RX2 28 2 5 (tyX2 5) false := ⟨RX2, TX2, 8, tyX2, rfl, by decide, inT_X2, tyX2_ok, nmX2, rfl, rfl, (fun h => nomatch h), Or.inl t_124⟩
theorem f_X2_28 : FLr RX2 28 2 5 := fk_X2_28.r
theorem t_125 : .fieldLink RX2 31 "MacroWiki$Spread" "openNeeds" "[I" ∈ gT := gT_of 144 (by decide +kernel) (by decide +kernel)
theorem fk_X2_31 : FLk RX2 31 2 6 (tyX2 6) true := ⟨RX2, TX2, 8, tyX2, rfl, by decide, inT_X2, tyX2_ok, nmX2, rfl, rfl, (fun _ => rfl), Or.inl t_125⟩
theorem f_X2_31 : FLr RX2 31 2 6 := fk_X2_31.r
theorem ff_X2_31 : FLf RX2 31 2 6 (tyX2 6) := ⟨fk_X2_31, RX2, TX2, 8, rfl, t_125⟩
theorem t_126 : .fieldLink RX2 34 "MacroWiki$Spread" "openWhens" "I" ∈ gT := gT_of 145 (by decide +kernel) (by decide +kernel)
theorem fk_X2_34 : FLk RX2 34 2 7 (tyX2 7) false := ⟨RX2, TX2, 8, tyX2, rfl, by decide, inT_X2, tyX2_ok, nmX2, rfl, rfl, (fun h => nomatch h), Or.inl t_126⟩
theorem f_X2_34 : FLr RX2 34 2 7 := fk_X2_34.r
theorem t_144 : .fieldLink RX1 17 "MacroWiki$Page" "now" "LMacroWiki$Version;" ∈ gT := gT_of 163 (by decide +kernel) (by decide +kernel)
theorem fk_X1_17 : FLk RX1 17 1 0 (tyX1 0) false := ⟨RX1, TX1, 3, tyX1, rfl, by decide, inT_X1, tyX1_ok, nmX1, rfl, rfl, (fun h => nomatch h), Or.inl t_144⟩
theorem f_X1_17 : FLr RX1 17 1 0 := fk_X1_17.r
theorem t_n145 : .fieldLinkNest RX6 73 "MacroWiki$Page" "now" "LMacroWiki$Version;" "MacroWiki" ∈ gN := gN_of 145 (by decide +kernel) (by decide +kernel)
theorem fk_X6_73 : FLk RX6 73 1 0 (tyX1 0) false := ⟨RX1, TX1, 3, tyX1, rfl, by decide, inT_X1, tyX1_ok, nmX1, rfl, rfl, (fun h => nomatch h), Or.inr ⟨_, t_n145⟩⟩
theorem f_X6_73 : FLr RX6 73 1 0 := fk_X6_73.r
theorem t_146 : .fieldLink RX1 23 "MacroWiki$Page" "lock" "I" ∈ gT := gT_of 165 (by decide +kernel) (by decide +kernel)
theorem fk_X1_23 : FLk RX1 23 1 1 (tyX1 1) false := ⟨RX1, TX1, 3, tyX1, rfl, by decide, inT_X1, tyX1_ok, nmX1, rfl, rfl, (fun h => nomatch h), Or.inl t_146⟩
theorem f_X1_23 : FLr RX1 23 1 1 := fk_X1_23.r
theorem t_n147 : .fieldLinkNest RX6 116 "MacroWiki$Page" "lock" "I" "MacroWiki" ∈ gN := gN_of 147 (by decide +kernel) (by decide +kernel)
theorem fk_X6_116 : FLk RX6 116 1 1 (tyX1 1) false := ⟨RX1, TX1, 3, tyX1, rfl, by decide, inT_X1, tyX1_ok, nmX1, rfl, rfl, (fun h => nomatch h), Or.inr ⟨_, t_n147⟩⟩
theorem f_X6_116 : FLr RX6 116 1 1 := fk_X6_116.r
theorem t_148 : .fieldLink RX1 30 "MacroWiki$Page" "spread" "LMacroWiki$Spread;" ∈ gT := gT_of 167 (by decide +kernel) (by decide +kernel)
theorem fk_X1_30 : FLk RX1 30 1 2 (tyX1 2) true := ⟨RX1, TX1, 3, tyX1, rfl, by decide, inT_X1, tyX1_ok, nmX1, rfl, rfl, (fun _ => rfl), Or.inl t_148⟩
theorem f_X1_30 : FLr RX1 30 1 2 := fk_X1_30.r
theorem ff_X1_30 : FLf RX1 30 1 2 (tyX1 2) := ⟨fk_X1_30, RX1, TX1, 3, rfl, t_148⟩
theorem t_n149 : .fieldLinkNest RX6 129 "MacroWiki$Page" "spread" "LMacroWiki$Spread;" "MacroWiki" ∈ gN := gN_of 149 (by decide +kernel) (by decide +kernel)
theorem f_X6_129 : FLr RX6 129 1 2 := ⟨RX1, TX1, 3, rfl, by decide, inT_X1, Or.inr ⟨_, t_n149⟩⟩
theorem t_157 : .fieldLink RX6 12 "MacroWiki" "draft" "LMacroWiki$Text;" ∈ gT := gT_of 176 (by decide +kernel) (by decide +kernel)
theorem fk_X6_12 : FLk RX6 12 6 0 (tyX6 0) true := ⟨RX6, TX6, 5, tyX6, rfl, by decide, inT_X6, tyX6_ok, nmX6, rfl, rfl, (fun _ => rfl), Or.inl t_157⟩
theorem f_X6_12 : FLr RX6 12 6 0 := fk_X6_12.r
theorem ff_X6_12 : FLf RX6 12 6 0 (tyX6 0) := ⟨fk_X6_12, RX6, TX6, 5, rfl, t_157⟩
theorem t_158 : .fieldLink RX6 32 "MacroWiki" "pages" "[LMacroWiki$Page;" ∈ gT := gT_of 177 (by decide +kernel) (by decide +kernel)
theorem fk_X6_32 : FLk RX6 32 6 1 (tyX6 1) true := ⟨RX6, TX6, 5, tyX6, rfl, by decide, inT_X6, tyX6_ok, nmX6, rfl, rfl, (fun _ => rfl), Or.inl t_158⟩
theorem f_X6_32 : FLr RX6 32 6 1 := fk_X6_32.r
theorem ff_X6_32 : FLf RX6 32 6 1 (tyX6 1) := ⟨fk_X6_32, RX6, TX6, 5, rfl, t_158⟩
theorem t_159 : .fieldLink RX6 16 "MacroWiki" "userRanks" "[I" ∈ gT := gT_of 178 (by decide +kernel) (by decide +kernel)
theorem fk_X6_16 : FLk RX6 16 6 2 (tyX6 2) true := ⟨RX6, TX6, 5, tyX6, rfl, by decide, inT_X6, tyX6_ok, nmX6, rfl, rfl, (fun _ => rfl), Or.inl t_159⟩
theorem f_X6_16 : FLr RX6 16 6 2 := fk_X6_16.r
theorem ff_X6_16 : FLf RX6 16 6 2 (tyX6 2) := ⟨fk_X6_16, RX6, TX6, 5, rfl, t_159⟩
theorem t_160 : .fieldLink RX6 23 "MacroWiki" "net" "LMacroWiki$Net;" ∈ gT := gT_of 179 (by decide +kernel) (by decide +kernel)
theorem fk_X6_23 : FLk RX6 23 6 3 (tyX6 3) false := ⟨RX6, TX6, 5, tyX6, rfl, by decide, inT_X6, tyX6_ok, nmX6, rfl, rfl, (fun h => nomatch h), Or.inl t_160⟩
theorem f_X6_23 : FLr RX6 23 6 3 := fk_X6_23.r
theorem t_161 : .fieldLink RX6 27 "MacroWiki" "trial" "LMacroWiki$Net;" ∈ gT := gT_of 180 (by decide +kernel) (by decide +kernel)
theorem fk_X6_27 : FLk RX6 27 6 4 (tyX6 4) false := ⟨RX6, TX6, 5, tyX6, rfl, by decide, inT_X6, tyX6_ok, nmX6, rfl, rfl, (fun h => nomatch h), Or.inl t_161⟩
theorem f_X6_27 : FLr RX6 27 6 4 := fk_X6_27.r
theorem t_15 : .methodLink RL 195 yL_isHeld ∈ gT := gT_of 34 (by decide +kernel) (by decide +kernel)
theorem t_0 : .initialized RL ∈ gT := gT_of 19 (by decide +kernel) (by decide +kernel)
theorem t_17 : .codeWith yL_isHeld cL_isHeld 2 (some .boolean) [(0, 4, 5, 191), (0, 4, 8, 193), (0, 4, 11, 139), (0, 4, 14, 50)] ∈ gT := gT_of 36 (by decide +kernel) (by decide +kernel)
theorem t_16 : .static yL_isHeld ∈ gT := gT_of 35 (by decide +kernel) (by decide +kernel)
theorem lk_L_195 : LkH RL 195 yL_isHeld cL_isHeld 2 (some .boolean) [(0, 4, 5, 191), (0, 4, 8, 193), (0, 4, 11, 139), (0, 4, 14, 50)] 1 := ⟨t_15, t_16, t_0, t_17, ⟨by decide +kernel, by decide +kernel, by decide +kernel⟩⟩
theorem t_22 : .methodLink RL 187 yL_holds ∈ gT := gT_of 41 (by decide +kernel) (by decide +kernel)
theorem t_24 : .code yL_holds cL_holds 8 (some .boolean) ∈ gT := gT_of 43 (by decide +kernel) (by decide +kernel)
theorem t_23 : .static yL_holds ∈ gT := gT_of 42 (by decide +kernel) (by decide +kernel)
theorem lk_L_187 : LkS RL 187 yL_holds cL_holds 8 (some .boolean) 1 := ⟨t_22, t_23, t_0, t_24, ⟨by decide +kernel, by decide +kernel, by decide +kernel⟩⟩
theorem t_27 : .methodLink RL 174 yX6_init ∈ gT := gT_of 46 (by decide +kernel) (by decide +kernel)
theorem t_1 : .initialized RX6 ∈ gT := gT_of 20 (by decide +kernel) (by decide +kernel)
theorem t_29 : .code yX6_init cX6_init 2 none ∈ gT := gT_of 48 (by decide +kernel) (by decide +kernel)
theorem t_28 : .instanceMethod yX6_init ∈ gT := gT_of 47 (by decide +kernel) (by decide +kernel)
theorem lk_L_174 : LkI RL 174 yX6_init cX6_init 2 0 := ⟨Or.inl t_27, rfl, t_28, t_1, t_29, ⟨by decide +kernel, by decide +kernel, by decide +kernel⟩⟩
theorem t_30 : .methodLink RX6 3 objectInit ∈ gT := gT_of 49 (by decide +kernel) (by decide +kernel)
theorem t_31 : .instanceMethod objectInit ∈ gT := gT_of 50 (by decide +kernel) (by decide +kernel)
theorem t_32 : .code objectInit ⟨#[0xb1]⟩ 1 none ∈ gT := gT_of 51 (by decide +kernel) (by decide +kernel)
theorem lk_X6_3 : gObj RX6 3 := ⟨t_30, t_31, t_32⟩
theorem t_n35 : .methodLinkNest RX6 11 yX3_init "MacroWiki" ∈ gN := gN_of 35 (by decide +kernel) (by decide +kernel)
theorem t_2 : .initialized RX3 ∈ gT := gT_of 21 (by decide +kernel) (by decide +kernel)
theorem t_37 : .code yX3_init cX3_init 1 none ∈ gT := gT_of 56 (by decide +kernel) (by decide +kernel)
theorem t_36 : .instanceMethod yX3_init ∈ gT := gT_of 55 (by decide +kernel) (by decide +kernel)
theorem lk_X6_11 : LkI RX6 11 yX3_init cX3_init 1 0 := ⟨Or.inr ⟨_, t_n35⟩, rfl, t_36, t_2, t_37, ⟨by decide +kernel, by decide +kernel, by decide +kernel⟩⟩
theorem t_38 : .methodLink RX3 3 objectInit ∈ gT := gT_of 57 (by decide +kernel) (by decide +kernel)
theorem lk_X3_3 : gObj RX3 3 := ⟨t_38, t_31, t_32⟩
theorem t_n60 : .methodLinkNest RX6 22 yX0_init "MacroWiki" ∈ gN := gN_of 60 (by decide +kernel) (by decide +kernel)
theorem t_3 : .initialized RX0 ∈ gT := gT_of 22 (by decide +kernel) (by decide +kernel)
theorem t_62 : .code yX0_init cX0_init 1 none ∈ gT := gT_of 81 (by decide +kernel) (by decide +kernel)
theorem t_61 : .instanceMethod yX0_init ∈ gT := gT_of 80 (by decide +kernel) (by decide +kernel)
theorem lk_X6_22 : LkI RX6 22 yX0_init cX0_init 1 0 := ⟨Or.inr ⟨_, t_n60⟩, rfl, t_61, t_3, t_62, ⟨by decide +kernel, by decide +kernel, by decide +kernel⟩⟩
theorem t_63 : .methodLink RX0 3 objectInit ∈ gT := gT_of 82 (by decide +kernel) (by decide +kernel)
theorem lk_X0_3 : gObj RX0 3 := ⟨t_63, t_31, t_32⟩
theorem t_n83 : .methodLinkNest RX6 36 yX1_init "MacroWiki" ∈ gN := gN_of 83 (by decide +kernel) (by decide +kernel)
theorem t_4 : .initialized RX1 ∈ gT := gT_of 23 (by decide +kernel) (by decide +kernel)
theorem t_85 : .code yX1_init cX1_init 1 none ∈ gT := gT_of 104 (by decide +kernel) (by decide +kernel)
theorem t_84 : .instanceMethod yX1_init ∈ gT := gT_of 103 (by decide +kernel) (by decide +kernel)
theorem lk_X6_36 : LkI RX6 36 yX1_init cX1_init 1 0 := ⟨Or.inr ⟨_, t_n83⟩, rfl, t_84, t_4, t_85, ⟨by decide +kernel, by decide +kernel, by decide +kernel⟩⟩
theorem t_86 : .methodLink RX1 3 objectInit ∈ gT := gT_of 105 (by decide +kernel) (by decide +kernel)
theorem lk_X1_3 : gObj RX1 3 := ⟨t_86, t_31, t_32⟩
theorem t_n90 : .methodLinkNest RX1 13 yX3_init "MacroWiki" ∈ gN := gN_of 90 (by decide +kernel) (by decide +kernel)
theorem lk_X1_13 : LkI RX1 13 yX3_init cX3_init 1 0 := ⟨Or.inr ⟨_, t_n90⟩, rfl, t_36, t_2, t_37, ⟨by decide +kernel, by decide +kernel, by decide +kernel⟩⟩
theorem t_91 : .methodLink RX1 14 yX4_init ∈ gT := gT_of 110 (by decide +kernel) (by decide +kernel)
theorem t_5 : .initialized RX4 ∈ gT := gT_of 24 (by decide +kernel) (by decide +kernel)
theorem t_93 : .code yX4_init cX4_init 5 none ∈ gT := gT_of 112 (by decide +kernel) (by decide +kernel)
theorem t_92 : .instanceMethod yX4_init ∈ gT := gT_of 111 (by decide +kernel) (by decide +kernel)
theorem lk_X1_14 : LkI RX1 14 yX4_init cX4_init 5 4 := ⟨Or.inl t_91, rfl, t_92, t_5, t_93, ⟨by decide +kernel, by decide +kernel, by decide +kernel⟩⟩
theorem t_94 : .methodLink RX4 1 objectInit ∈ gT := gT_of 113 (by decide +kernel) (by decide +kernel)
theorem lk_X4_1 : gObj RX4 1 := ⟨t_94, t_31, t_32⟩
theorem t_n114 : .methodLinkNest RX1 29 yX2_init "MacroWiki" ∈ gN := gN_of 114 (by decide +kernel) (by decide +kernel)
theorem t_6 : .initialized RX2 ∈ gT := gT_of 25 (by decide +kernel) (by decide +kernel)
theorem t_116 : .code yX2_init cX2_init 1 none ∈ gT := gT_of 135 (by decide +kernel) (by decide +kernel)
theorem t_115 : .instanceMethod yX2_init ∈ gT := gT_of 134 (by decide +kernel) (by decide +kernel)
theorem lk_X1_29 : LkI RX1 29 yX2_init cX2_init 1 0 := ⟨Or.inr ⟨_, t_n114⟩, rfl, t_115, t_6, t_116, ⟨by decide +kernel, by decide +kernel, by decide +kernel⟩⟩
theorem t_117 : .methodLink RX2 3 objectInit ∈ gT := gT_of 136 (by decide +kernel) (by decide +kernel)
theorem lk_X2_3 : gObj RX2 3 := ⟨t_117, t_31, t_32⟩
theorem t_173 : .methodLink RL 141 yL_from ∈ gT := gT_of 192 (by decide +kernel) (by decide +kernel)
theorem t_175 : .code yL_from cL_from 4 (some .int) ∈ gT := gT_of 194 (by decide +kernel) (by decide +kernel)
theorem t_174 : .static yL_from ∈ gT := gT_of 193 (by decide +kernel) (by decide +kernel)
theorem lk_L_141 : LkS RL 141 yL_from cL_from 4 (some .int) 3 := ⟨t_173, t_174, t_0, t_175, ⟨by decide +kernel, by decide +kernel, by decide +kernel⟩⟩
theorem t_179 : .methodLink RL 176 yL_acts ∈ gT := gT_of 198 (by decide +kernel) (by decide +kernel)
theorem t_181 : .code yL_acts cL_acts 14 (some .boolean) ∈ gT := gT_of 200 (by decide +kernel) (by decide +kernel)
theorem t_180 : .static yL_acts ∈ gT := gT_of 199 (by decide +kernel) (by decide +kernel)
theorem lk_L_176 : LkS RL 176 yL_acts cL_acts 14 (some .boolean) 9 := ⟨t_179, t_180, t_0, t_181, ⟨by decide +kernel, by decide +kernel, by decide +kernel⟩⟩
theorem t_182 : .methodLink RL 156 yL_isEdited ∈ gT := gT_of 201 (by decide +kernel) (by decide +kernel)
theorem t_184 : .code yL_isEdited cL_isEdited 18 (some .boolean) ∈ gT := gT_of 203 (by decide +kernel) (by decide +kernel)
theorem t_183 : .static yL_isEdited ∈ gT := gT_of 202 (by decide +kernel) (by decide +kernel)
theorem lk_L_156 : LkS RL 156 yL_isEdited cL_isEdited 18 (some .boolean) 9 := ⟨t_182, t_183, t_0, t_184, ⟨by decide +kernel, by decide +kernel, by decide +kernel⟩⟩
theorem t_185 : .methodLink RL 145 yL_added ∈ gT := gT_of 204 (by decide +kernel) (by decide +kernel)
theorem t_187 : .code yL_added cL_added 2 (some .int) ∈ gT := gT_of 206 (by decide +kernel) (by decide +kernel)
theorem t_186 : .static yL_added ∈ gT := gT_of 205 (by decide +kernel) (by decide +kernel)
theorem lk_L_145 : LkS RL 145 yL_added cL_added 2 (some .int) 2 := ⟨t_185, t_186, t_0, t_187, ⟨by decide +kernel, by decide +kernel, by decide +kernel⟩⟩
theorem t_188 : .methodLink RL 109 yX6_letter ∈ gT := gT_of 207 (by decide +kernel) (by decide +kernel)
theorem t_191 : .code yX6_letter cX6_letter 2 (some .int) ∈ gT := gT_of 210 (by decide +kernel) (by decide +kernel)
theorem t_189 : .instanceMethod yX6_letter ∈ gT := gT_of 208 (by decide +kernel) (by decide +kernel)
theorem t_190 : .selects RX6 yX6_letter yX6_letter ∈ gT := gT_of 209 (by decide +kernel) (by decide +kernel)
theorem lk_L_109 : LkV RL 109 yX6_letter cX6_letter 2 (some .int) 1 := ⟨t_188, t_189, t_190, t_1, t_191, ⟨by decide +kernel, by decide +kernel, by decide +kernel⟩⟩
theorem t_192 : .methodLink RX6 37 yX6_requireBelow ∈ gT := gT_of 211 (by decide +kernel) (by decide +kernel)
theorem t_194 : .code yX6_requireBelow cX6_requireBelow 2 none ∈ gT := gT_of 213 (by decide +kernel) (by decide +kernel)
theorem t_193 : .static yX6_requireBelow ∈ gT := gT_of 212 (by decide +kernel) (by decide +kernel)
theorem lk_X6_37 : LkS RX6 37 yX6_requireBelow cX6_requireBelow 2 none 2 := ⟨t_192, t_193, t_1, t_194, ⟨by decide +kernel, by decide +kernel, by decide +kernel⟩⟩
theorem t_265 : .methodLink RX6 41 yX6_addPiece ∈ gT := gT_of 284 (by decide +kernel) (by decide +kernel)
theorem t_268 : .code yX6_addPiece cX6_addPiece 4 (some .int) ∈ gT := gT_of 287 (by decide +kernel) (by decide +kernel)
theorem t_267 : .instanceMethod yX6_addPiece ∈ gT := gT_of 286 (by decide +kernel) (by decide +kernel)
theorem ts_1 : .selects RX6 yX6_addPiece yX6_addPiece ∈ gT := gT_of 1 (by decide +kernel) (by decide +kernel)
theorem lk_X6_41 : LkV RX6 41 yX6_addPiece cX6_addPiece 4 (some .int) 3 := ⟨t_265, t_267, ts_1, t_1, t_268, ⟨by decide +kernel, by decide +kernel, by decide +kernel⟩⟩
theorem t_285 : .methodLink RX6 211 yX3_add ∈ gT := gT_of 304 (by decide +kernel) (by decide +kernel)
theorem t_288 : .code yX3_add cX3_add 4 none ∈ gT := gT_of 307 (by decide +kernel) (by decide +kernel)
theorem t_286 : .instanceMethod yX3_add ∈ gT := gT_of 305 (by decide +kernel) (by decide +kernel)
theorem t_287 : .selects RX3 yX3_add yX3_add ∈ gT := gT_of 306 (by decide +kernel) (by decide +kernel)
theorem lk_X6_211 : LkV RX6 211 yX3_add cX3_add 4 none 3 := ⟨t_285, t_286, t_287, t_2, t_288, ⟨by decide +kernel, by decide +kernel, by decide +kernel⟩⟩
theorem t_n289 : .methodLinkNest RX3 28 yX6_put "MacroWiki" ∈ gN := gN_of 289 (by decide +kernel) (by decide +kernel)
theorem t_291 : .code yX6_put cX6_put 3 none ∈ gT := gT_of 310 (by decide +kernel) (by decide +kernel)
theorem t_290 : .static yX6_put ∈ gT := gT_of 309 (by decide +kernel) (by decide +kernel)
theorem lk_X3_28 : LkN RX3 28 yX6_put cX6_put 3 none 3 := ⟨⟨_, t_n289⟩, t_290, t_1, t_291, ⟨by decide +kernel, by decide +kernel, by decide +kernel⟩⟩
theorem t_292 : .methodLink RL 112 yX6_argument ∈ gT := gT_of 311 (by decide +kernel) (by decide +kernel)
theorem t_295 : .code yX6_argument cX6_argument 1 (some .int) ∈ gT := gT_of 314 (by decide +kernel) (by decide +kernel)
theorem t_293 : .instanceMethod yX6_argument ∈ gT := gT_of 312 (by decide +kernel) (by decide +kernel)
theorem t_294 : .selects RX6 yX6_argument yX6_argument ∈ gT := gT_of 313 (by decide +kernel) (by decide +kernel)
theorem lk_L_112 : LkV RL 112 yX6_argument cX6_argument 1 (some .int) 0 := ⟨t_292, t_293, t_294, t_1, t_295, ⟨by decide +kernel, by decide +kernel, by decide +kernel⟩⟩
theorem t_296 : .methodLink RL 115 yX6_call ∈ gT := gT_of 315 (by decide +kernel) (by decide +kernel)
theorem t_299 : .code yX6_call cX6_call 3 (some .int) ∈ gT := gT_of 318 (by decide +kernel) (by decide +kernel)
theorem t_297 : .instanceMethod yX6_call ∈ gT := gT_of 316 (by decide +kernel) (by decide +kernel)
theorem t_298 : .selects RX6 yX6_call yX6_call ∈ gT := gT_of 317 (by decide +kernel) (by decide +kernel)
theorem lk_L_115 : LkV RL 115 yX6_call cX6_call 3 (some .int) 2 := ⟨t_296, t_297, t_298, t_1, t_299, ⟨by decide +kernel, by decide +kernel, by decide +kernel⟩⟩
theorem t_300 : .methodLink RX6 45 yX6_requirePage ∈ gT := gT_of 319 (by decide +kernel) (by decide +kernel)
theorem t_302 : .code yX6_requirePage cX6_requirePage 1 none ∈ gT := gT_of 321 (by decide +kernel) (by decide +kernel)
theorem t_301 : .static yX6_requirePage ∈ gT := gT_of 320 (by decide +kernel) (by decide +kernel)
theorem lk_X6_45 : LkS RX6 45 yX6_requirePage cX6_requirePage 1 none 1 := ⟨t_300, t_301, t_1, t_302, ⟨by decide +kernel, by decide +kernel, by decide +kernel⟩⟩
theorem t_319 : .methodLink RX6 49 yX6_requireArgument ∈ gT := gT_of 338 (by decide +kernel) (by decide +kernel)
theorem t_321 : .code yX6_requireArgument cX6_requireArgument 1 none ∈ gT := gT_of 340 (by decide +kernel) (by decide +kernel)
theorem t_320 : .static yX6_requireArgument ∈ gT := gT_of 339 (by decide +kernel) (by decide +kernel)
theorem lk_X6_49 : LkS RX6 49 yX6_requireArgument cX6_requireArgument 1 none 1 := ⟨t_319, t_320, t_1, t_321, ⟨by decide +kernel, by decide +kernel, by decide +kernel⟩⟩
theorem t_322 : .methodLink RL 118 yX6_callOn ∈ gT := gT_of 341 (by decide +kernel) (by decide +kernel)
theorem t_325 : .code yX6_callOn cX6_callOn 2 (some .int) ∈ gT := gT_of 344 (by decide +kernel) (by decide +kernel)
theorem t_323 : .instanceMethod yX6_callOn ∈ gT := gT_of 342 (by decide +kernel) (by decide +kernel)
theorem t_324 : .selects RX6 yX6_callOn yX6_callOn ∈ gT := gT_of 343 (by decide +kernel) (by decide +kernel)
theorem lk_L_118 : LkV RL 118 yX6_callOn cX6_callOn 2 (some .int) 1 := ⟨t_322, t_323, t_324, t_1, t_325, ⟨by decide +kernel, by decide +kernel, by decide +kernel⟩⟩
theorem t_326 : .methodLink RL 121 yX6_when ∈ gT := gT_of 345 (by decide +kernel) (by decide +kernel)
theorem t_329 : .code yX6_when cX6_when 2 (some .int) ∈ gT := gT_of 348 (by decide +kernel) (by decide +kernel)
theorem t_327 : .instanceMethod yX6_when ∈ gT := gT_of 346 (by decide +kernel) (by decide +kernel)
theorem t_328 : .selects RX6 yX6_when yX6_when ∈ gT := gT_of 347 (by decide +kernel) (by decide +kernel)
theorem lk_L_121 : LkV RL 121 yX6_when cX6_when 2 (some .int) 1 := ⟨t_326, t_327, t_328, t_1, t_329, ⟨by decide +kernel, by decide +kernel, by decide +kernel⟩⟩
theorem t_330 : .methodLink RL 124 yX6_end ∈ gT := gT_of 349 (by decide +kernel) (by decide +kernel)
theorem t_333 : .code yX6_end cX6_end 1 (some .int) ∈ gT := gT_of 352 (by decide +kernel) (by decide +kernel)
theorem t_331 : .instanceMethod yX6_end ∈ gT := gT_of 350 (by decide +kernel) (by decide +kernel)
theorem t_332 : .selects RX6 yX6_end yX6_end ∈ gT := gT_of 351 (by decide +kernel) (by decide +kernel)
theorem lk_L_124 : LkV RL 124 yX6_end cX6_end 1 (some .int) 0 := ⟨t_330, t_331, t_332, t_1, t_333, ⟨by decide +kernel, by decide +kernel, by decide +kernel⟩⟩
theorem t_334 : .methodLink RX6 52 yX3_hasOpenWhen ∈ gT := gT_of 353 (by decide +kernel) (by decide +kernel)
theorem t_337 : .code yX3_hasOpenWhen cX3_hasOpenWhen 1 (some .boolean) ∈ gT := gT_of 356 (by decide +kernel) (by decide +kernel)
theorem t_335 : .instanceMethod yX3_hasOpenWhen ∈ gT := gT_of 354 (by decide +kernel) (by decide +kernel)
theorem t_336 : .selects RX3 yX3_hasOpenWhen yX3_hasOpenWhen ∈ gT := gT_of 355 (by decide +kernel) (by decide +kernel)
theorem lk_X6_52 : LkV RX6 52 yX3_hasOpenWhen cX3_hasOpenWhen 1 (some .boolean) 0 := ⟨t_334, t_335, t_336, t_2, t_337, ⟨by decide +kernel, by decide +kernel, by decide +kernel⟩⟩
theorem t_339 : .methodLink RL 127 yX6_anchor ∈ gT := gT_of 358 (by decide +kernel) (by decide +kernel)
theorem t_342 : .code yX6_anchor cX6_anchor 2 (some .int) ∈ gT := gT_of 361 (by decide +kernel) (by decide +kernel)
theorem t_340 : .instanceMethod yX6_anchor ∈ gT := gT_of 359 (by decide +kernel) (by decide +kernel)
theorem t_341 : .selects RX6 yX6_anchor yX6_anchor ∈ gT := gT_of 360 (by decide +kernel) (by decide +kernel)
theorem lk_L_127 : LkV RL 127 yX6_anchor cX6_anchor 2 (some .int) 1 := ⟨t_339, t_340, t_341, t_1, t_342, ⟨by decide +kernel, by decide +kernel, by decide +kernel⟩⟩
theorem t_343 : .methodLink RL 130 yX6_link ∈ gT := gT_of 362 (by decide +kernel) (by decide +kernel)
theorem t_346 : .code yX6_link cX6_link 3 (some .int) ∈ gT := gT_of 365 (by decide +kernel) (by decide +kernel)
theorem t_344 : .instanceMethod yX6_link ∈ gT := gT_of 363 (by decide +kernel) (by decide +kernel)
theorem t_345 : .selects RX6 yX6_link yX6_link ∈ gT := gT_of 364 (by decide +kernel) (by decide +kernel)
theorem lk_L_130 : LkV RL 130 yX6_link cX6_link 3 (some .int) 2 := ⟨t_343, t_344, t_345, t_1, t_346, ⟨by decide +kernel, by decide +kernel, by decide +kernel⟩⟩
theorem t_347 : .methodLink RL 133 yX6_redirect ∈ gT := gT_of 366 (by decide +kernel) (by decide +kernel)
theorem t_350 : .code yX6_redirect cX6_redirect 2 (some .int) ∈ gT := gT_of 369 (by decide +kernel) (by decide +kernel)
theorem t_348 : .instanceMethod yX6_redirect ∈ gT := gT_of 367 (by decide +kernel) (by decide +kernel)
theorem t_349 : .selects RX6 yX6_redirect yX6_redirect ∈ gT := gT_of 368 (by decide +kernel) (by decide +kernel)
theorem lk_L_133 : LkV RL 133 yX6_redirect cX6_redirect 2 (some .int) 1 := ⟨t_347, t_348, t_349, t_1, t_350, ⟨by decide +kernel, by decide +kernel, by decide +kernel⟩⟩
theorem t_351 : .methodLink RL 149 yL_refusal ∈ gT := gT_of 370 (by decide +kernel) (by decide +kernel)
theorem t_353 : .code yL_refusal cL_refusal 15 (some .int) ∈ gT := gT_of 372 (by decide +kernel) (by decide +kernel)
theorem t_352 : .static yL_refusal ∈ gT := gT_of 371 (by decide +kernel) (by decide +kernel)
theorem lk_L_149 : LkS RL 149 yL_refusal cL_refusal 15 (some .int) 9 := ⟨t_351, t_352, t_0, t_353, ⟨by decide +kernel, by decide +kernel, by decide +kernel⟩⟩
theorem t_354 : .methodLink RL 32 yL_force ∈ gT := gT_of 373 (by decide +kernel) (by decide +kernel)
theorem t_356 : .code yL_force cL_force 7 (some .int) ∈ gT := gT_of 375 (by decide +kernel) (by decide +kernel)
theorem t_355 : .static yL_force ∈ gT := gT_of 374 (by decide +kernel) (by decide +kernel)
theorem lk_L_32 : LkS RL 32 yL_force cL_force 7 (some .int) 4 := ⟨t_354, t_355, t_0, t_356, ⟨by decide +kernel, by decide +kernel, by decide +kernel⟩⟩
theorem t_357 : .methodLink RL 28 yL_reach ∈ gT := gT_of 376 (by decide +kernel) (by decide +kernel)
theorem t_359 : .code yL_reach cL_reach 11 (some .int) ∈ gT := gT_of 378 (by decide +kernel) (by decide +kernel)
theorem t_358 : .static yL_reach ∈ gT := gT_of 377 (by decide +kernel) (by decide +kernel)
theorem lk_L_28 : LkS RL 28 yL_reach cL_reach 11 (some .int) 7 := ⟨t_357, t_358, t_0, t_359, ⟨by decide +kernel, by decide +kernel, by decide +kernel⟩⟩
theorem t_360 : .methodLink RL 21 yL_calls ∈ gT := gT_of 379 (by decide +kernel) (by decide +kernel)
theorem t_362 : .code yL_calls cL_calls 5 (some .int) ∈ gT := gT_of 381 (by decide +kernel) (by decide +kernel)
theorem t_361 : .static yL_calls ∈ gT := gT_of 380 (by decide +kernel) (by decide +kernel)
theorem lk_L_21 : LkS RL 21 yL_calls cL_calls 5 (some .int) 2 := ⟨t_360, t_361, t_0, t_362, ⟨by decide +kernel, by decide +kernel, by decide +kernel⟩⟩
theorem t_363 : .methodLink RL 11 yL_piece ∈ gT := gT_of 382 (by decide +kernel) (by decide +kernel)
theorem t_365 : .code yL_piece cL_piece 3 (some .int) ∈ gT := gT_of 384 (by decide +kernel) (by decide +kernel)
theorem t_364 : .static yL_piece ∈ gT := gT_of 383 (by decide +kernel) (by decide +kernel)
theorem lk_L_11 : LkS RL 11 yL_piece cL_piece 3 (some .int) 2 := ⟨t_363, t_364, t_0, t_365, ⟨by decide +kernel, by decide +kernel, by decide +kernel⟩⟩
theorem t_367 : .methodLink RL 17 yL_called ∈ gT := gT_of 386 (by decide +kernel) (by decide +kernel)
theorem t_369 : .code yL_called cL_called 1 (some .int) ∈ gT := gT_of 388 (by decide +kernel) (by decide +kernel)
theorem t_368 : .static yL_called ∈ gT := gT_of 387 (by decide +kernel) (by decide +kernel)
theorem lk_L_17 : LkS RL 17 yL_called cL_called 1 (some .int) 1 := ⟨t_367, t_368, t_0, t_369, ⟨by decide +kernel, by decide +kernel, by decide +kernel⟩⟩
theorem t_370 : .methodLink RL 24 yL_now ∈ gT := gT_of 389 (by decide +kernel) (by decide +kernel)
theorem t_372 : .code yL_now cL_now 2 (some .int) ∈ gT := gT_of 391 (by decide +kernel) (by decide +kernel)
theorem t_371 : .static yL_now ∈ gT := gT_of 390 (by decide +kernel) (by decide +kernel)
theorem lk_L_24 : LkS RL 24 yL_now cL_now 2 (some .int) 2 := ⟨t_370, t_371, t_0, t_372, ⟨by decide +kernel, by decide +kernel, by decide +kernel⟩⟩
theorem t_373 : .methodLink RL 36 yL_extents ∈ gT := gT_of 392 (by decide +kernel) (by decide +kernel)
theorem t_375 : .code yL_extents cL_extents 17 none ∈ gT := gT_of 394 (by decide +kernel) (by decide +kernel)
theorem t_374 : .static yL_extents ∈ gT := gT_of 393 (by decide +kernel) (by decide +kernel)
theorem lk_L_36 : LkS RL 36 yL_extents cL_extents 17 none 7 := ⟨t_373, t_374, t_0, t_375, ⟨by decide +kernel, by decide +kernel, by decide +kernel⟩⟩
theorem t_376 : .methodLink RL 40 yL_depths ∈ gT := gT_of 395 (by decide +kernel) (by decide +kernel)
theorem t_378 : .code yL_depths cL_depths 15 (some .int) ∈ gT := gT_of 397 (by decide +kernel) (by decide +kernel)
theorem t_377 : .static yL_depths ∈ gT := gT_of 396 (by decide +kernel) (by decide +kernel)
theorem lk_L_40 : LkS RL 40 yL_depths cL_depths 15 (some .int) 6 := ⟨t_376, t_377, t_0, t_378, ⟨by decide +kernel, by decide +kernel, by decide +kernel⟩⟩
theorem t_379 : .methodLink RL 153 yX6_edit ∈ gT := gT_of 398 (by decide +kernel) (by decide +kernel)
theorem t_382 : .code yX6_edit cX6_edit 7 (some .int) ∈ gT := gT_of 401 (by decide +kernel) (by decide +kernel)
theorem t_380 : .instanceMethod yX6_edit ∈ gT := gT_of 399 (by decide +kernel) (by decide +kernel)
theorem t_381 : .selects RX6 yX6_edit yX6_edit ∈ gT := gT_of 400 (by decide +kernel) (by decide +kernel)
theorem lk_L_153 : LkV RL 153 yX6_edit cX6_edit 7 (some .int) 2 := ⟨t_379, t_380, t_381, t_1, t_382, ⟨by decide +kernel, by decide +kernel, by decide +kernel⟩⟩
theorem t_383 : .methodLink RX6 63 yX6_rankOfUser ∈ gT := gT_of 402 (by decide +kernel) (by decide +kernel)
theorem t_386 : .code yX6_rankOfUser cX6_rankOfUser 2 (some .int) ∈ gT := gT_of 405 (by decide +kernel) (by decide +kernel)
theorem t_385 : .instanceMethod yX6_rankOfUser ∈ gT := gT_of 404 (by decide +kernel) (by decide +kernel)
theorem ts_2 : .selects RX6 yX6_rankOfUser yX6_rankOfUser ∈ gT := gT_of 2 (by decide +kernel) (by decide +kernel)
theorem lk_X6_63 : LkV RX6 63 yX6_rankOfUser cX6_rankOfUser 2 (some .int) 1 := ⟨t_383, t_385, ts_2, t_1, t_386, ⟨by decide +kernel, by decide +kernel, by decide +kernel⟩⟩
theorem t_388 : .methodLink RX6 201 yX6_at ∈ gT := gT_of 407 (by decide +kernel) (by decide +kernel)
theorem t_390 : .code yX6_at cX6_at 2 (some .int) ∈ gT := gT_of 409 (by decide +kernel) (by decide +kernel)
theorem t_389 : .static yX6_at ∈ gT := gT_of 408 (by decide +kernel) (by decide +kernel)
theorem lk_X6_201 : LkS RX6 201 yX6_at cX6_at 2 (some .int) 2 := ⟨t_388, t_389, t_1, t_390, ⟨by decide +kernel, by decide +kernel, by decide +kernel⟩⟩
theorem t_391 : .methodLink RX6 67 yX6_pageAt ∈ gT := gT_of 410 (by decide +kernel) (by decide +kernel)
theorem t_394 : .code yX6_pageAt cX6_pageAt 3 (some (.object "MacroWiki$Page")) ∈ gT := gT_of 413 (by decide +kernel) (by decide +kernel)
theorem t_393 : .instanceMethod yX6_pageAt ∈ gT := gT_of 412 (by decide +kernel) (by decide +kernel)
theorem ts_3 : .selects RX6 yX6_pageAt yX6_pageAt ∈ gT := gT_of 3 (by decide +kernel) (by decide +kernel)
theorem lk_X6_67 : LkV RX6 67 yX6_pageAt cX6_pageAt 3 (some (.object "MacroWiki$Page")) 1 := ⟨t_391, t_393, ts_3, t_1, t_394, ⟨by decide +kernel, by decide +kernel, by decide +kernel⟩⟩
theorem t_397 : .methodLink RX6 85 yX6_forceOn ∈ gT := gT_of 416 (by decide +kernel) (by decide +kernel)
theorem t_400 : .code yX6_forceOn cX6_forceOn 4 (some .int) ∈ gT := gT_of 419 (by decide +kernel) (by decide +kernel)
theorem t_399 : .instanceMethod yX6_forceOn ∈ gT := gT_of 418 (by decide +kernel) (by decide +kernel)
theorem ts_4 : .selects RX6 yX6_forceOn yX6_forceOn ∈ gT := gT_of 4 (by decide +kernel) (by decide +kernel)
theorem lk_X6_85 : LkV RX6 85 yX6_forceOn cX6_forceOn 4 (some .int) 1 := ⟨t_397, t_399, ts_4, t_1, t_400, ⟨by decide +kernel, by decide +kernel, by decide +kernel⟩⟩
theorem t_401 : .methodLink RX6 123 yX0_reachedFrom ∈ gT := gT_of 420 (by decide +kernel) (by decide +kernel)
theorem t_404 : .code yX0_reachedFrom cX0_reachedFrom 2 (some .int) ∈ gT := gT_of 423 (by decide +kernel) (by decide +kernel)
theorem t_402 : .instanceMethod yX0_reachedFrom ∈ gT := gT_of 421 (by decide +kernel) (by decide +kernel)
theorem t_403 : .selects RX0 yX0_reachedFrom yX0_reachedFrom ∈ gT := gT_of 422 (by decide +kernel) (by decide +kernel)
theorem lk_X6_123 : LkV RX6 123 yX0_reachedFrom cX0_reachedFrom 2 (some .int) 1 := ⟨t_401, t_402, t_403, t_3, t_404, ⟨by decide +kernel, by decide +kernel, by decide +kernel⟩⟩
theorem t_n405 : .methodLinkNest RX0 27 yX6_at "MacroWiki" ∈ gN := gN_of 405 (by decide +kernel) (by decide +kernel)
theorem lk_X0_27 : LkN RX0 27 yX6_at cX6_at 2 (some .int) 2 := ⟨⟨_, t_n405⟩, t_389, t_1, t_390, ⟨by decide +kernel, by decide +kernel, by decide +kernel⟩⟩
theorem t_406 : .methodLink RX6 226 yX6_contains ∈ gT := gT_of 425 (by decide +kernel) (by decide +kernel)
theorem t_408 : .code yX6_contains cX6_contains 2 (some .boolean) ∈ gT := gT_of 427 (by decide +kernel) (by decide +kernel)
theorem t_407 : .static yX6_contains ∈ gT := gT_of 426 (by decide +kernel) (by decide +kernel)
theorem lk_X6_226 : LkS RX6 226 yX6_contains cX6_contains 2 (some .boolean) 2 := ⟨t_406, t_407, t_1, t_408, ⟨by decide +kernel, by decide +kernel, by decide +kernel⟩⟩
theorem t_409 : .methodLink RX6 251 Lib.Math.max.name ∈ gT := gT_of 428 (by decide +kernel) (by decide +kernel)
theorem t_410 : .static Lib.Math.max.name ∈ gT := gT_of 429 (by decide +kernel) (by decide +kernel)
theorem t_13 : .initialized "java/lang/Math" ∈ gT := gT_of 32 (by decide +kernel) (by decide +kernel)
theorem t_411 : .code Lib.Math.max.name Lib.Math.max.code 2 (some .int) ∈ gT := gT_of 430 (by decide +kernel) (by decide +kernel)
theorem lk_X6_251 : gMM RX6 251 Lib.Math.max.name Lib.Math.max.code := ⟨t_409, t_410, t_13, t_411⟩
theorem t_412 : .methodLink RX6 88 yX6_refusalOf ∈ gT := gT_of 431 (by decide +kernel) (by decide +kernel)
theorem t_415 : .code yX6_refusalOf cX6_refusalOf 4 (some .int) ∈ gT := gT_of 434 (by decide +kernel) (by decide +kernel)
theorem t_414 : .instanceMethod yX6_refusalOf ∈ gT := gT_of 433 (by decide +kernel) (by decide +kernel)
theorem ts_5 : .selects RX6 yX6_refusalOf yX6_refusalOf ∈ gT := gT_of 5 (by decide +kernel) (by decide +kernel)
theorem lk_X6_88 : LkV RX6 88 yX6_refusalOf cX6_refusalOf 4 (some .int) 2 := ⟨t_412, t_414, ts_5, t_1, t_415, ⟨by decide +kernel, by decide +kernel, by decide +kernel⟩⟩
theorem t_416 : .methodLink RX6 215 yX0_takeCalls ∈ gT := gT_of 435 (by decide +kernel) (by decide +kernel)
theorem t_419 : .code yX0_takeCalls cX0_takeCalls 3 none ∈ gT := gT_of 438 (by decide +kernel) (by decide +kernel)
theorem t_417 : .instanceMethod yX0_takeCalls ∈ gT := gT_of 436 (by decide +kernel) (by decide +kernel)
theorem t_418 : .selects RX0 yX0_takeCalls yX0_takeCalls ∈ gT := gT_of 437 (by decide +kernel) (by decide +kernel)
theorem lk_X6_215 : LkV RX6 215 yX0_takeCalls cX0_takeCalls 3 none 1 := ⟨t_416, t_417, t_418, t_3, t_419, ⟨by decide +kernel, by decide +kernel, by decide +kernel⟩⟩
theorem t_n420 : .methodLinkNest RX0 31 yX6_put "MacroWiki" ∈ gN := gN_of 420 (by decide +kernel) (by decide +kernel)
theorem lk_X0_31 : LkN RX0 31 yX6_put cX6_put 3 none 3 := ⟨⟨_, t_n420⟩, t_290, t_1, t_291, ⟨by decide +kernel, by decide +kernel, by decide +kernel⟩⟩
theorem t_421 : .methodLink RX6 219 yX0_setCalls ∈ gT := gT_of 440 (by decide +kernel) (by decide +kernel)
theorem t_424 : .code yX0_setCalls cX0_setCalls 6 none ∈ gT := gT_of 443 (by decide +kernel) (by decide +kernel)
theorem t_422 : .instanceMethod yX0_setCalls ∈ gT := gT_of 441 (by decide +kernel) (by decide +kernel)
theorem t_423 : .selects RX0 yX0_setCalls yX0_setCalls ∈ gT := gT_of 442 (by decide +kernel) (by decide +kernel)
theorem lk_X6_219 : LkV RX6 219 yX0_setCalls cX0_setCalls 6 none 2 := ⟨t_421, t_422, t_423, t_3, t_424, ⟨by decide +kernel, by decide +kernel, by decide +kernel⟩⟩
theorem t_425 : .methodLink RX0 41 yX3_sortOf ∈ gT := gT_of 444 (by decide +kernel) (by decide +kernel)
theorem t_428 : .code yX3_sortOf cX3_sortOf 2 (some .int) ∈ gT := gT_of 447 (by decide +kernel) (by decide +kernel)
theorem t_426 : .instanceMethod yX3_sortOf ∈ gT := gT_of 445 (by decide +kernel) (by decide +kernel)
theorem t_427 : .selects RX3 yX3_sortOf yX3_sortOf ∈ gT := gT_of 446 (by decide +kernel) (by decide +kernel)
theorem lk_X0_41 : LkV RX0 41 yX3_sortOf cX3_sortOf 2 (some .int) 1 := ⟨t_425, t_426, t_427, t_2, t_428, ⟨by decide +kernel, by decide +kernel, by decide +kernel⟩⟩
theorem t_n429 : .methodLinkNest RX3 46 yX6_at "MacroWiki" ∈ gN := gN_of 429 (by decide +kernel) (by decide +kernel)
theorem lk_X3_46 : LkN RX3 46 yX6_at cX6_at 2 (some .int) 2 := ⟨⟨_, t_n429⟩, t_389, t_1, t_390, ⟨by decide +kernel, by decide +kernel, by decide +kernel⟩⟩
theorem t_430 : .methodLink RX0 45 yX3_pageOf ∈ gT := gT_of 449 (by decide +kernel) (by decide +kernel)
theorem t_433 : .code yX3_pageOf cX3_pageOf 2 (some .int) ∈ gT := gT_of 452 (by decide +kernel) (by decide +kernel)
theorem t_431 : .instanceMethod yX3_pageOf ∈ gT := gT_of 450 (by decide +kernel) (by decide +kernel)
theorem t_432 : .selects RX3 yX3_pageOf yX3_pageOf ∈ gT := gT_of 451 (by decide +kernel) (by decide +kernel)
theorem lk_X0_45 : LkV RX0 45 yX3_pageOf cX3_pageOf 2 (some .int) 1 := ⟨t_430, t_431, t_432, t_2, t_433, ⟨by decide +kernel, by decide +kernel, by decide +kernel⟩⟩
theorem t_434 : .methodLink RX0 48 yX0_callsOf ∈ gT := gT_of 453 (by decide +kernel) (by decide +kernel)
theorem t_437 : .code yX0_callsOf cX0_callsOf 3 (some .int) ∈ gT := gT_of 456 (by decide +kernel) (by decide +kernel)
theorem t_436 : .instanceMethod yX0_callsOf ∈ gT := gT_of 455 (by decide +kernel) (by decide +kernel)
theorem ts_6 : .selects RX0 yX0_callsOf yX0_callsOf ∈ gT := gT_of 6 (by decide +kernel) (by decide +kernel)
theorem lk_X0_48 : LkV RX0 48 yX0_callsOf cX0_callsOf 3 (some .int) 2 := ⟨t_434, t_436, ts_6, t_3, t_437, ⟨by decide +kernel, by decide +kernel, by decide +kernel⟩⟩
theorem t_438 : .methodLink RX6 223 yX0_findReached ∈ gT := gT_of 457 (by decide +kernel) (by decide +kernel)
theorem t_441 : .code yX0_findReached cX0_findReached 4 none ∈ gT := gT_of 460 (by decide +kernel) (by decide +kernel)
theorem t_439 : .instanceMethod yX0_findReached ∈ gT := gT_of 458 (by decide +kernel) (by decide +kernel)
theorem t_440 : .selects RX0 yX0_findReached yX0_findReached ∈ gT := gT_of 459 (by decide +kernel) (by decide +kernel)
theorem lk_X6_223 : LkV RX6 223 yX0_findReached cX0_findReached 4 none 0 := ⟨t_438, t_439, t_440, t_3, t_441, ⟨by decide +kernel, by decide +kernel, by decide +kernel⟩⟩
theorem t_442 : .methodLink RX0 52 yX0_reachedFrom ∈ gT := gT_of 461 (by decide +kernel) (by decide +kernel)
theorem lk_X0_52 : LkV RX0 52 yX0_reachedFrom cX0_reachedFrom 2 (some .int) 1 := ⟨t_442, t_402, t_403, t_3, t_404, ⟨by decide +kernel, by decide +kernel, by decide +kernel⟩⟩
theorem t_n443 : .methodLinkNest RX0 55 yX6_contains "MacroWiki" ∈ gN := gN_of 443 (by decide +kernel) (by decide +kernel)
theorem lk_X0_55 : LkN RX0 55 yX6_contains cX6_contains 2 (some .boolean) 2 := ⟨⟨_, t_n443⟩, t_407, t_1, t_408, ⟨by decide +kernel, by decide +kernel, by decide +kernel⟩⟩
theorem t_444 : .methodLink RX6 229 yX0_findDepths ∈ gT := gT_of 463 (by decide +kernel) (by decide +kernel)
theorem t_447 : .code yX0_findDepths cX0_findDepths 3 none ∈ gT := gT_of 466 (by decide +kernel) (by decide +kernel)
theorem t_445 : .instanceMethod yX0_findDepths ∈ gT := gT_of 464 (by decide +kernel) (by decide +kernel)
theorem t_446 : .selects RX0 yX0_findDepths yX0_findDepths ∈ gT := gT_of 465 (by decide +kernel) (by decide +kernel)
theorem lk_X6_229 : LkV RX6 229 yX0_findDepths cX0_findDepths 3 none 0 := ⟨t_444, t_445, t_446, t_3, t_447, ⟨by decide +kernel, by decide +kernel, by decide +kernel⟩⟩
theorem t_448 : .methodLink RX0 59 yX0_depthOverCalled ∈ gT := gT_of 467 (by decide +kernel) (by decide +kernel)
theorem t_451 : .code yX0_depthOverCalled cX0_depthOverCalled 4 (some .int) ∈ gT := gT_of 470 (by decide +kernel) (by decide +kernel)
theorem t_450 : .instanceMethod yX0_depthOverCalled ∈ gT := gT_of 469 (by decide +kernel) (by decide +kernel)
theorem ts_7 : .selects RX0 yX0_depthOverCalled yX0_depthOverCalled ∈ gT := gT_of 7 (by decide +kernel) (by decide +kernel)
theorem lk_X0_59 : LkV RX0 59 yX0_depthOverCalled cX0_depthOverCalled 4 (some .int) 1 := ⟨t_448, t_450, ts_7, t_3, t_451, ⟨by decide +kernel, by decide +kernel, by decide +kernel⟩⟩
theorem t_452 : .methodLink RX0 62 yX0_depthOf ∈ gT := gT_of 471 (by decide +kernel) (by decide +kernel)
theorem t_455 : .code yX0_depthOf cX0_depthOf 2 (some .int) ∈ gT := gT_of 474 (by decide +kernel) (by decide +kernel)
theorem t_453 : .instanceMethod yX0_depthOf ∈ gT := gT_of 472 (by decide +kernel) (by decide +kernel)
theorem t_454 : .selects RX0 yX0_depthOf yX0_depthOf ∈ gT := gT_of 473 (by decide +kernel) (by decide +kernel)
theorem lk_X0_62 : LkV RX0 62 yX0_depthOf cX0_depthOf 2 (some .int) 1 := ⟨t_452, t_453, t_454, t_3, t_455, ⟨by decide +kernel, by decide +kernel, by decide +kernel⟩⟩
theorem t_456 : .methodLink RX0 65 Lib.Math.max.name ∈ gT := gT_of 475 (by decide +kernel) (by decide +kernel)
theorem lk_X0_65 : gMM RX0 65 Lib.Math.max.name Lib.Math.max.code := ⟨t_456, t_410, t_13, t_411⟩
theorem t_457 : .methodLink RX6 232 yX0_greatestDepth ∈ gT := gT_of 476 (by decide +kernel) (by decide +kernel)
theorem t_460 : .code yX0_greatestDepth cX0_greatestDepth 1 (some .int) ∈ gT := gT_of 479 (by decide +kernel) (by decide +kernel)
theorem t_458 : .instanceMethod yX0_greatestDepth ∈ gT := gT_of 477 (by decide +kernel) (by decide +kernel)
theorem t_459 : .selects RX0 yX0_greatestDepth yX0_greatestDepth ∈ gT := gT_of 478 (by decide +kernel) (by decide +kernel)
theorem lk_X6_232 : LkV RX6 232 yX0_greatestDepth cX0_greatestDepth 1 (some .int) 0 := ⟨t_457, t_458, t_459, t_3, t_460, ⟨by decide +kernel, by decide +kernel, by decide +kernel⟩⟩
theorem t_n461 : .methodLinkNest RX0 79 yX6_greatest "MacroWiki" ∈ gN := gN_of 461 (by decide +kernel) (by decide +kernel)
theorem t_463 : .code yX6_greatest cX6_greatest 3 (some .int) ∈ gT := gT_of 482 (by decide +kernel) (by decide +kernel)
theorem t_462 : .static yX6_greatest ∈ gT := gT_of 481 (by decide +kernel) (by decide +kernel)
theorem lk_X0_79 : LkN RX0 79 yX6_greatest cX6_greatest 3 (some .int) 1 := ⟨⟨_, t_n461⟩, t_462, t_1, t_463, ⟨by decide +kernel, by decide +kernel, by decide +kernel⟩⟩
theorem t_464 : .methodLink RX6 236 yX0_findExtents ∈ gT := gT_of 483 (by decide +kernel) (by decide +kernel)
theorem t_467 : .code yX0_findExtents cX0_findExtents 3 none ∈ gT := gT_of 486 (by decide +kernel) (by decide +kernel)
theorem t_465 : .instanceMethod yX0_findExtents ∈ gT := gT_of 484 (by decide +kernel) (by decide +kernel)
theorem t_466 : .selects RX0 yX0_findExtents yX0_findExtents ∈ gT := gT_of 485 (by decide +kernel) (by decide +kernel)
theorem lk_X6_236 : LkV RX6 236 yX0_findExtents cX0_findExtents 3 none 0 := ⟨t_464, t_465, t_466, t_3, t_467, ⟨by decide +kernel, by decide +kernel, by decide +kernel⟩⟩
theorem t_468 : .methodLink RX0 70 yX0_extentOverCalled ∈ gT := gT_of 487 (by decide +kernel) (by decide +kernel)
theorem t_471 : .code yX0_extentOverCalled cX0_extentOverCalled 4 (some .int) ∈ gT := gT_of 490 (by decide +kernel) (by decide +kernel)
theorem t_470 : .instanceMethod yX0_extentOverCalled ∈ gT := gT_of 489 (by decide +kernel) (by decide +kernel)
theorem ts_8 : .selects RX0 yX0_extentOverCalled yX0_extentOverCalled ∈ gT := gT_of 8 (by decide +kernel) (by decide +kernel)
theorem lk_X0_70 : LkV RX0 70 yX0_extentOverCalled cX0_extentOverCalled 4 (some .int) 1 := ⟨t_468, t_470, ts_8, t_3, t_471, ⟨by decide +kernel, by decide +kernel, by decide +kernel⟩⟩
theorem t_472 : .methodLink RX0 73 yX0_extentOf ∈ gT := gT_of 491 (by decide +kernel) (by decide +kernel)
theorem t_475 : .code yX0_extentOf cX0_extentOf 2 (some .int) ∈ gT := gT_of 494 (by decide +kernel) (by decide +kernel)
theorem t_473 : .instanceMethod yX0_extentOf ∈ gT := gT_of 492 (by decide +kernel) (by decide +kernel)
theorem t_474 : .selects RX0 yX0_extentOf yX0_extentOf ∈ gT := gT_of 493 (by decide +kernel) (by decide +kernel)
theorem lk_X0_73 : LkV RX0 73 yX0_extentOf cX0_extentOf 2 (some .int) 1 := ⟨t_472, t_473, t_474, t_3, t_475, ⟨by decide +kernel, by decide +kernel, by decide +kernel⟩⟩
theorem t_476 : .methodLink RX0 76 Lib.Math.min.name ∈ gT := gT_of 495 (by decide +kernel) (by decide +kernel)
theorem t_477 : .static Lib.Math.min.name ∈ gT := gT_of 496 (by decide +kernel) (by decide +kernel)
theorem t_478 : .code Lib.Math.min.name Lib.Math.min.code 2 (some .int) ∈ gT := gT_of 497 (by decide +kernel) (by decide +kernel)
theorem lk_X0_76 : gMM RX0 76 Lib.Math.min.name Lib.Math.min.code := ⟨t_476, t_477, t_13, t_478⟩
theorem t_479 : .methodLink RX6 239 yX0_greatestExtent ∈ gT := gT_of 498 (by decide +kernel) (by decide +kernel)
theorem t_482 : .code yX0_greatestExtent cX0_greatestExtent 1 (some .int) ∈ gT := gT_of 501 (by decide +kernel) (by decide +kernel)
theorem t_480 : .instanceMethod yX0_greatestExtent ∈ gT := gT_of 499 (by decide +kernel) (by decide +kernel)
theorem t_481 : .selects RX0 yX0_greatestExtent yX0_greatestExtent ∈ gT := gT_of 500 (by decide +kernel) (by decide +kernel)
theorem lk_X6_239 : LkV RX6 239 yX0_greatestExtent cX0_greatestExtent 1 (some .int) 0 := ⟨t_479, t_480, t_481, t_3, t_482, ⟨by decide +kernel, by decide +kernel, by decide +kernel⟩⟩
theorem t_483 : .methodLink RX6 242 yX6_hasRankBelow ∈ gT := gT_of 502 (by decide +kernel) (by decide +kernel)
theorem t_486 : .code yX6_hasRankBelow cX6_hasRankBelow 4 (some .boolean) ∈ gT := gT_of 505 (by decide +kernel) (by decide +kernel)
theorem t_485 : .instanceMethod yX6_hasRankBelow ∈ gT := gT_of 504 (by decide +kernel) (by decide +kernel)
theorem ts_9 : .selects RX6 yX6_hasRankBelow yX6_hasRankBelow ∈ gT := gT_of 9 (by decide +kernel) (by decide +kernel)
theorem lk_X6_242 : LkV RX6 242 yX6_hasRankBelow cX6_hasRankBelow 4 (some .boolean) 2 := ⟨t_483, t_485, ts_9, t_1, t_486, ⟨by decide +kernel, by decide +kernel, by decide +kernel⟩⟩
theorem t_487 : .methodLink RX6 92 yX3_addAll ∈ gT := gT_of 506 (by decide +kernel) (by decide +kernel)
theorem t_490 : .code yX3_addAll cX3_addAll 3 none ∈ gT := gT_of 509 (by decide +kernel) (by decide +kernel)
theorem t_488 : .instanceMethod yX3_addAll ∈ gT := gT_of 507 (by decide +kernel) (by decide +kernel)
theorem t_489 : .selects RX3 yX3_addAll yX3_addAll ∈ gT := gT_of 508 (by decide +kernel) (by decide +kernel)
theorem lk_X6_92 : LkV RX6 92 yX3_addAll cX3_addAll 3 none 1 := ⟨t_487, t_488, t_489, t_2, t_490, ⟨by decide +kernel, by decide +kernel, by decide +kernel⟩⟩
theorem t_491 : .methodLink RX3 32 yX3_sortOf ∈ gT := gT_of 510 (by decide +kernel) (by decide +kernel)
theorem lk_X3_32 : LkV RX3 32 yX3_sortOf cX3_sortOf 2 (some .int) 1 := ⟨t_491, t_426, t_427, t_2, t_428, ⟨by decide +kernel, by decide +kernel, by decide +kernel⟩⟩
theorem t_492 : .methodLink RX3 36 yX3_pageOf ∈ gT := gT_of 511 (by decide +kernel) (by decide +kernel)
theorem lk_X3_36 : LkV RX3 36 yX3_pageOf cX3_pageOf 2 (some .int) 1 := ⟨t_492, t_431, t_432, t_2, t_433, ⟨by decide +kernel, by decide +kernel, by decide +kernel⟩⟩
theorem t_493 : .methodLink RX3 39 yX3_signOf ∈ gT := gT_of 512 (by decide +kernel) (by decide +kernel)
theorem t_496 : .code yX3_signOf cX3_signOf 2 (some .int) ∈ gT := gT_of 515 (by decide +kernel) (by decide +kernel)
theorem t_494 : .instanceMethod yX3_signOf ∈ gT := gT_of 513 (by decide +kernel) (by decide +kernel)
theorem t_495 : .selects RX3 yX3_signOf yX3_signOf ∈ gT := gT_of 514 (by decide +kernel) (by decide +kernel)
theorem lk_X3_39 : LkV RX3 39 yX3_signOf cX3_signOf 2 (some .int) 1 := ⟨t_493, t_494, t_495, t_2, t_496, ⟨by decide +kernel, by decide +kernel, by decide +kernel⟩⟩
theorem t_497 : .methodLink RX3 42 yX3_add ∈ gT := gT_of 516 (by decide +kernel) (by decide +kernel)
theorem lk_X3_42 : LkV RX3 42 yX3_add cX3_add 4 none 3 := ⟨t_497, t_286, t_287, t_2, t_288, ⟨by decide +kernel, by decide +kernel, by decide +kernel⟩⟩
theorem t_499 : .methodLink RX6 96 yX4_init ∈ gT := gT_of 518 (by decide +kernel) (by decide +kernel)
theorem lk_X6_96 : LkI RX6 96 yX4_init cX4_init 5 4 := ⟨Or.inl t_499, rfl, t_92, t_5, t_93, ⟨by decide +kernel, by decide +kernel, by decide +kernel⟩⟩
theorem t_500 : .methodLink RX6 99 yX6_settle ∈ gT := gT_of 519 (by decide +kernel) (by decide +kernel)
theorem t_503 : .code yX6_settle cX6_settle 4 none ∈ gT := gT_of 522 (by decide +kernel) (by decide +kernel)
theorem t_502 : .instanceMethod yX6_settle ∈ gT := gT_of 521 (by decide +kernel) (by decide +kernel)
theorem ts_10 : .selects RX6 yX6_settle yX6_settle ∈ gT := gT_of 10 (by decide +kernel) (by decide +kernel)
theorem lk_X6_99 : LkV RX6 99 yX6_settle cX6_settle 4 none 0 := ⟨t_500, t_502, ts_10, t_1, t_503, ⟨by decide +kernel, by decide +kernel, by decide +kernel⟩⟩
theorem t_504 : .methodLink RX6 245 yX0_depthOf ∈ gT := gT_of 523 (by decide +kernel) (by decide +kernel)
theorem lk_X6_245 : LkV RX6 245 yX0_depthOf cX0_depthOf 2 (some .int) 1 := ⟨t_504, t_453, t_454, t_3, t_455, ⟨by decide +kernel, by decide +kernel, by decide +kernel⟩⟩
theorem t_505 : .methodLink RX6 248 yX6_spreadPage ∈ gT := gT_of 524 (by decide +kernel) (by decide +kernel)
theorem t_508 : .code yX6_spreadPage cX6_spreadPage 6 none ∈ gT := gT_of 527 (by decide +kernel) (by decide +kernel)
theorem t_507 : .instanceMethod yX6_spreadPage ∈ gT := gT_of 526 (by decide +kernel) (by decide +kernel)
theorem ts_11 : .selects RX6 yX6_spreadPage yX6_spreadPage ∈ gT := gT_of 11 (by decide +kernel) (by decide +kernel)
theorem lk_X6_248 : LkV RX6 248 yX6_spreadPage cX6_spreadPage 6 none 1 := ⟨t_505, t_507, ts_11, t_1, t_508, ⟨by decide +kernel, by decide +kernel, by decide +kernel⟩⟩
theorem t_509 : .methodLink RX6 256 yX2_clear ∈ gT := gT_of 528 (by decide +kernel) (by decide +kernel)
theorem t_512 : .code yX2_clear cX2_clear 1 none ∈ gT := gT_of 531 (by decide +kernel) (by decide +kernel)
theorem t_510 : .instanceMethod yX2_clear ∈ gT := gT_of 529 (by decide +kernel) (by decide +kernel)
theorem t_511 : .selects RX2 yX2_clear yX2_clear ∈ gT := gT_of 530 (by decide +kernel) (by decide +kernel)
theorem lk_X6_256 : LkV RX6 256 yX2_clear cX2_clear 1 none 0 := ⟨t_509, t_510, t_511, t_6, t_512, ⟨by decide +kernel, by decide +kernel, by decide +kernel⟩⟩
theorem t_513 : .methodLink RX6 257 yX6_spreadPiece ∈ gT := gT_of 532 (by decide +kernel) (by decide +kernel)
theorem t_516 : .code yX6_spreadPiece cX6_spreadPiece 6 none ∈ gT := gT_of 535 (by decide +kernel) (by decide +kernel)
theorem t_515 : .instanceMethod yX6_spreadPiece ∈ gT := gT_of 534 (by decide +kernel) (by decide +kernel)
theorem ts_12 : .selects RX6 yX6_spreadPiece yX6_spreadPiece ∈ gT := gT_of 12 (by decide +kernel) (by decide +kernel)
theorem lk_X6_257 : LkV RX6 257 yX6_spreadPiece cX6_spreadPiece 6 none 4 := ⟨t_513, t_515, ts_12, t_1, t_516, ⟨by decide +kernel, by decide +kernel, by decide +kernel⟩⟩
theorem t_517 : .methodLink RX6 261 yX3_sortOf ∈ gT := gT_of 536 (by decide +kernel) (by decide +kernel)
theorem lk_X6_261 : LkV RX6 261 yX3_sortOf cX3_sortOf 2 (some .int) 1 := ⟨t_517, t_426, t_427, t_2, t_428, ⟨by decide +kernel, by decide +kernel, by decide +kernel⟩⟩
theorem t_518 : .methodLink RX6 264 yX3_signOf ∈ gT := gT_of 537 (by decide +kernel) (by decide +kernel)
theorem lk_X6_264 : LkV RX6 264 yX3_signOf cX3_signOf 2 (some .int) 1 := ⟨t_518, t_494, t_495, t_2, t_496, ⟨by decide +kernel, by decide +kernel, by decide +kernel⟩⟩
theorem t_519 : .methodLink RX6 267 yX2_openWhen ∈ gT := gT_of 538 (by decide +kernel) (by decide +kernel)
theorem t_522 : .code yX2_openWhen cX2_openWhen 2 none ∈ gT := gT_of 541 (by decide +kernel) (by decide +kernel)
theorem t_520 : .instanceMethod yX2_openWhen ∈ gT := gT_of 539 (by decide +kernel) (by decide +kernel)
theorem t_521 : .selects RX2 yX2_openWhen yX2_openWhen ∈ gT := gT_of 540 (by decide +kernel) (by decide +kernel)
theorem lk_X6_267 : LkV RX6 267 yX2_openWhen cX2_openWhen 2 none 1 := ⟨t_519, t_520, t_521, t_6, t_522, ⟨by decide +kernel, by decide +kernel, by decide +kernel⟩⟩
theorem t_523 : .methodLink RX2 37 yX2_need ∈ gT := gT_of 542 (by decide +kernel) (by decide +kernel)
theorem t_526 : .code yX2_need cX2_need 1 (some .int) ∈ gT := gT_of 545 (by decide +kernel) (by decide +kernel)
theorem t_524 : .instanceMethod yX2_need ∈ gT := gT_of 543 (by decide +kernel) (by decide +kernel)
theorem t_525 : .selects RX2 yX2_need yX2_need ∈ gT := gT_of 544 (by decide +kernel) (by decide +kernel)
theorem lk_X2_37 : LkV RX2 37 yX2_need cX2_need 1 (some .int) 0 := ⟨t_523, t_524, t_525, t_6, t_526, ⟨by decide +kernel, by decide +kernel, by decide +kernel⟩⟩
theorem t_n527 : .methodLinkNest RX2 49 yX6_at "MacroWiki" ∈ gN := gN_of 527 (by decide +kernel) (by decide +kernel)
theorem lk_X2_49 : LkN RX2 49 yX6_at cX6_at 2 (some .int) 2 := ⟨⟨_, t_n527⟩, t_389, t_1, t_390, ⟨by decide +kernel, by decide +kernel, by decide +kernel⟩⟩
theorem t_528 : .methodLink RX2 41 yX2_together ∈ gT := gT_of 547 (by decide +kernel) (by decide +kernel)
theorem t_530 : .code yX2_together cX2_together 2 (some .int) ∈ gT := gT_of 549 (by decide +kernel) (by decide +kernel)
theorem t_529 : .static yX2_together ∈ gT := gT_of 548 (by decide +kernel) (by decide +kernel)
theorem lk_X2_41 : LkS RX2 41 yX2_together cX2_together 2 (some .int) 2 := ⟨t_528, t_529, t_6, t_530, ⟨by decide +kernel, by decide +kernel, by decide +kernel⟩⟩
theorem t_n531 : .methodLinkNest RX2 45 yX6_put "MacroWiki" ∈ gN := gN_of 531 (by decide +kernel) (by decide +kernel)
theorem lk_X2_45 : LkN RX2 45 yX6_put cX6_put 3 none 3 := ⟨⟨_, t_n531⟩, t_290, t_1, t_291, ⟨by decide +kernel, by decide +kernel, by decide +kernel⟩⟩
theorem t_532 : .methodLink RX6 270 yX2_closeWhen ∈ gT := gT_of 551 (by decide +kernel) (by decide +kernel)
theorem t_535 : .code yX2_closeWhen cX2_closeWhen 1 none ∈ gT := gT_of 554 (by decide +kernel) (by decide +kernel)
theorem t_533 : .instanceMethod yX2_closeWhen ∈ gT := gT_of 552 (by decide +kernel) (by decide +kernel)
theorem t_534 : .selects RX2 yX2_closeWhen yX2_closeWhen ∈ gT := gT_of 553 (by decide +kernel) (by decide +kernel)
theorem lk_X6_270 : LkV RX6 270 yX2_closeWhen cX2_closeWhen 1 none 0 := ⟨t_532, t_533, t_534, t_6, t_535, ⟨by decide +kernel, by decide +kernel, by decide +kernel⟩⟩
theorem t_536 : .methodLink RX6 273 yX3_pageOf ∈ gT := gT_of 555 (by decide +kernel) (by decide +kernel)
theorem lk_X6_273 : LkV RX6 273 yX3_pageOf cX3_pageOf 2 (some .int) 1 := ⟨t_536, t_431, t_432, t_2, t_433, ⟨by decide +kernel, by decide +kernel, by decide +kernel⟩⟩
theorem t_537 : .methodLink RX6 276 yX2_takeCalled ∈ gT := gT_of 556 (by decide +kernel) (by decide +kernel)
theorem t_540 : .code yX2_takeCalled cX2_takeCalled 4 none ∈ gT := gT_of 559 (by decide +kernel) (by decide +kernel)
theorem t_538 : .instanceMethod yX2_takeCalled ∈ gT := gT_of 557 (by decide +kernel) (by decide +kernel)
theorem t_539 : .selects RX2 yX2_takeCalled yX2_takeCalled ∈ gT := gT_of 558 (by decide +kernel) (by decide +kernel)
theorem lk_X6_276 : LkV RX6 276 yX2_takeCalled cX2_takeCalled 4 none 2 := ⟨t_537, t_538, t_539, t_6, t_540, ⟨by decide +kernel, by decide +kernel, by decide +kernel⟩⟩
theorem t_541 : .methodLink RX2 53 yX2_shows ∈ gT := gT_of 560 (by decide +kernel) (by decide +kernel)
theorem t_544 : .code yX2_shows cX2_shows 4 (some .boolean) ∈ gT := gT_of 563 (by decide +kernel) (by decide +kernel)
theorem t_542 : .instanceMethod yX2_shows ∈ gT := gT_of 561 (by decide +kernel) (by decide +kernel)
theorem t_543 : .selects RX2 yX2_shows yX2_shows ∈ gT := gT_of 562 (by decide +kernel) (by decide +kernel)
theorem lk_X2_53 : LkV RX2 53 yX2_shows cX2_shows 4 (some .boolean) 2 := ⟨t_541, t_542, t_543, t_6, t_544, ⟨by decide +kernel, by decide +kernel, by decide +kernel⟩⟩
theorem t_545 : .methodLink RX2 57 yX2_itemSort ∈ gT := gT_of 564 (by decide +kernel) (by decide +kernel)
theorem t_548 : .code yX2_itemSort cX2_itemSort 3 (some .int) ∈ gT := gT_of 567 (by decide +kernel) (by decide +kernel)
theorem t_546 : .instanceMethod yX2_itemSort ∈ gT := gT_of 565 (by decide +kernel) (by decide +kernel)
theorem t_547 : .selects RX2 yX2_itemSort yX2_itemSort ∈ gT := gT_of 566 (by decide +kernel) (by decide +kernel)
theorem lk_X2_57 : LkV RX2 57 yX2_itemSort cX2_itemSort 3 (some .int) 1 := ⟨t_545, t_546, t_547, t_6, t_548, ⟨by decide +kernel, by decide +kernel, by decide +kernel⟩⟩
theorem t_549 : .methodLink RX2 61 yX2_itemWith ∈ gT := gT_of 568 (by decide +kernel) (by decide +kernel)
theorem t_552 : .code yX2_itemWith cX2_itemWith 3 (some .int) ∈ gT := gT_of 571 (by decide +kernel) (by decide +kernel)
theorem t_550 : .instanceMethod yX2_itemWith ∈ gT := gT_of 569 (by decide +kernel) (by decide +kernel)
theorem t_551 : .selects RX2 yX2_itemWith yX2_itemWith ∈ gT := gT_of 570 (by decide +kernel) (by decide +kernel)
theorem lk_X2_61 : LkV RX2 61 yX2_itemWith cX2_itemWith 3 (some .int) 2 := ⟨t_549, t_550, t_551, t_6, t_552, ⟨by decide +kernel, by decide +kernel, by decide +kernel⟩⟩
theorem t_553 : .methodLink RX2 64 yX2_sourceOf ∈ gT := gT_of 572 (by decide +kernel) (by decide +kernel)
theorem t_556 : .code yX2_sourceOf cX2_sourceOf 2 (some .int) ∈ gT := gT_of 575 (by decide +kernel) (by decide +kernel)
theorem t_554 : .instanceMethod yX2_sourceOf ∈ gT := gT_of 573 (by decide +kernel) (by decide +kernel)
theorem t_555 : .selects RX2 yX2_sourceOf yX2_sourceOf ∈ gT := gT_of 574 (by decide +kernel) (by decide +kernel)
theorem lk_X2_64 : LkV RX2 64 yX2_sourceOf cX2_sourceOf 2 (some .int) 1 := ⟨t_553, t_554, t_555, t_6, t_556, ⟨by decide +kernel, by decide +kernel, by decide +kernel⟩⟩
theorem t_557 : .methodLink RX2 67 yX2_add ∈ gT := gT_of 576 (by decide +kernel) (by decide +kernel)
theorem t_560 : .code yX2_add cX2_add 5 none ∈ gT := gT_of 579 (by decide +kernel) (by decide +kernel)
theorem t_558 : .instanceMethod yX2_add ∈ gT := gT_of 577 (by decide +kernel) (by decide +kernel)
theorem t_559 : .selects RX2 yX2_add yX2_add ∈ gT := gT_of 578 (by decide +kernel) (by decide +kernel)
theorem lk_X2_67 : LkV RX2 67 yX2_add cX2_add 5 none 4 := ⟨t_557, t_558, t_559, t_6, t_560, ⟨by decide +kernel, by decide +kernel, by decide +kernel⟩⟩
theorem t_561 : .methodLink RX6 280 yX2_takeCalledOn ∈ gT := gT_of 580 (by decide +kernel) (by decide +kernel)
theorem t_564 : .code yX2_takeCalledOn cX2_takeCalledOn 4 none ∈ gT := gT_of 583 (by decide +kernel) (by decide +kernel)
theorem t_562 : .instanceMethod yX2_takeCalledOn ∈ gT := gT_of 581 (by decide +kernel) (by decide +kernel)
theorem t_563 : .selects RX2 yX2_takeCalledOn yX2_takeCalledOn ∈ gT := gT_of 582 (by decide +kernel) (by decide +kernel)
theorem lk_X6_280 : LkV RX6 280 yX2_takeCalledOn cX2_takeCalledOn 4 none 1 := ⟨t_561, t_562, t_563, t_6, t_564, ⟨by decide +kernel, by decide +kernel, by decide +kernel⟩⟩
theorem t_565 : .methodLink RX6 284 yX2_need ∈ gT := gT_of 584 (by decide +kernel) (by decide +kernel)
theorem lk_X6_284 : LkV RX6 284 yX2_need cX2_need 1 (some .int) 0 := ⟨t_565, t_524, t_525, t_6, t_526, ⟨by decide +kernel, by decide +kernel, by decide +kernel⟩⟩
theorem t_566 : .methodLink RX6 287 yX3_itemOf ∈ gT := gT_of 585 (by decide +kernel) (by decide +kernel)
theorem t_569 : .code yX3_itemOf cX3_itemOf 2 (some .int) ∈ gT := gT_of 588 (by decide +kernel) (by decide +kernel)
theorem t_567 : .instanceMethod yX3_itemOf ∈ gT := gT_of 586 (by decide +kernel) (by decide +kernel)
theorem t_568 : .selects RX3 yX3_itemOf yX3_itemOf ∈ gT := gT_of 587 (by decide +kernel) (by decide +kernel)
theorem lk_X6_287 : LkV RX6 287 yX3_itemOf cX3_itemOf 2 (some .int) 1 := ⟨t_566, t_567, t_568, t_2, t_569, ⟨by decide +kernel, by decide +kernel, by decide +kernel⟩⟩
theorem t_570 : .methodLink RX6 290 yX2_add ∈ gT := gT_of 589 (by decide +kernel) (by decide +kernel)
theorem lk_X6_290 : LkV RX6 290 yX2_add cX2_add 5 none 4 := ⟨t_570, t_558, t_559, t_6, t_560, ⟨by decide +kernel, by decide +kernel, by decide +kernel⟩⟩
theorem t_571 : .methodLink RX6 102 yX3_clear ∈ gT := gT_of 590 (by decide +kernel) (by decide +kernel)
theorem t_574 : .code yX3_clear cX3_clear 1 none ∈ gT := gT_of 593 (by decide +kernel) (by decide +kernel)
theorem t_572 : .instanceMethod yX3_clear ∈ gT := gT_of 591 (by decide +kernel) (by decide +kernel)
theorem t_573 : .selects RX3 yX3_clear yX3_clear ∈ gT := gT_of 592 (by decide +kernel) (by decide +kernel)
theorem lk_X6_102 : LkV RX6 102 yX3_clear cX3_clear 1 none 0 := ⟨t_571, t_572, t_573, t_2, t_574, ⟨by decide +kernel, by decide +kernel, by decide +kernel⟩⟩
theorem t_575 : .methodLink RL 160 yL_undone ∈ gT := gT_of 594 (by decide +kernel) (by decide +kernel)
theorem t_577 : .codeWith yL_undone cL_undone 4 (some .int) [(0, 6, 7, 139)] ∈ gT := gT_of 596 (by decide +kernel) (by decide +kernel)
theorem t_576 : .static yL_undone ∈ gT := gT_of 595 (by decide +kernel) (by decide +kernel)
theorem lk_L_160 : LkH RL 160 yL_undone cL_undone 4 (some .int) [(0, 6, 7, 139)] 3 := ⟨t_575, t_576, t_0, t_577, ⟨by decide +kernel, by decide +kernel, by decide +kernel⟩⟩
theorem t_578 : .methodLink RL 136 yX6_undo ∈ gT := gT_of 597 (by decide +kernel) (by decide +kernel)
theorem t_581 : .code yX6_undo cX6_undo 8 (some .int) ∈ gT := gT_of 600 (by decide +kernel) (by decide +kernel)
theorem t_579 : .instanceMethod yX6_undo ∈ gT := gT_of 598 (by decide +kernel) (by decide +kernel)
theorem t_580 : .selects RX6 yX6_undo yX6_undo ∈ gT := gT_of 599 (by decide +kernel) (by decide +kernel)
theorem lk_L_136 : LkV RL 136 yX6_undo cX6_undo 8 (some .int) 2 := ⟨t_578, t_579, t_580, t_1, t_581, ⟨by decide +kernel, by decide +kernel, by decide +kernel⟩⟩
theorem t_583 : .methodLink RL 164 yX6_approve ∈ gT := gT_of 602 (by decide +kernel) (by decide +kernel)
theorem t_586 : .code yX6_approve cX6_approve 5 (some .boolean) ∈ gT := gT_of 605 (by decide +kernel) (by decide +kernel)
theorem t_584 : .instanceMethod yX6_approve ∈ gT := gT_of 603 (by decide +kernel) (by decide +kernel)
theorem t_585 : .selects RX6 yX6_approve yX6_approve ∈ gT := gT_of 604 (by decide +kernel) (by decide +kernel)
theorem lk_L_164 : LkV RL 164 yX6_approve cX6_approve 5 (some .boolean) 2 := ⟨t_583, t_584, t_585, t_1, t_586, ⟨by decide +kernel, by decide +kernel, by decide +kernel⟩⟩
theorem t_587 : .methodLink RL 168 yX6_lock ∈ gT := gT_of 606 (by decide +kernel) (by decide +kernel)
theorem t_590 : .code yX6_lock cX6_lock 7 (some .int) ∈ gT := gT_of 609 (by decide +kernel) (by decide +kernel)
theorem t_588 : .instanceMethod yX6_lock ∈ gT := gT_of 607 (by decide +kernel) (by decide +kernel)
theorem t_589 : .selects RX6 yX6_lock yX6_lock ∈ gT := gT_of 608 (by decide +kernel) (by decide +kernel)
theorem lk_L_168 : LkV RL 168 yX6_lock cX6_lock 7 (some .int) 3 := ⟨t_587, t_588, t_589, t_1, t_590, ⟨by decide +kernel, by decide +kernel, by decide +kernel⟩⟩
theorem t_591 : .methodLink RL 171 yX6_setRank ∈ gT := gT_of 610 (by decide +kernel) (by decide +kernel)
theorem t_594 : .code yX6_setRank cX6_setRank 4 (some .int) ∈ gT := gT_of 613 (by decide +kernel) (by decide +kernel)
theorem t_592 : .instanceMethod yX6_setRank ∈ gT := gT_of 611 (by decide +kernel) (by decide +kernel)
theorem t_593 : .selects RX6 yX6_setRank yX6_setRank ∈ gT := gT_of 612 (by decide +kernel) (by decide +kernel)
theorem lk_L_171 : LkV RL 171 yX6_setRank cX6_setRank 4 (some .int) 2 := ⟨t_591, t_592, t_593, t_1, t_594, ⟨by decide +kernel, by decide +kernel, by decide +kernel⟩⟩
theorem t_595 : .methodLink RX6 119 yX6_put ∈ gT := gT_of 614 (by decide +kernel) (by decide +kernel)
theorem lk_X6_119 : LkS RX6 119 yX6_put cX6_put 3 none 3 := ⟨t_595, t_290, t_1, t_291, ⟨by decide +kernel, by decide +kernel, by decide +kernel⟩⟩
theorem t_596 : .methodLink RL 179 yL_arePages ∈ gT := gT_of 615 (by decide +kernel) (by decide +kernel)
theorem t_598 : .code yL_arePages cL_arePages 12 (some .boolean) ∈ gT := gT_of 617 (by decide +kernel) (by decide +kernel)
theorem t_597 : .static yL_arePages ∈ gT := gT_of 616 (by decide +kernel) (by decide +kernel)
theorem lk_L_179 : LkS RL 179 yL_arePages cL_arePages 12 (some .boolean) 6 := ⟨t_596, t_597, t_0, t_598, ⟨by decide +kernel, by decide +kernel, by decide +kernel⟩⟩
theorem t_599 : .methodLink RL 62 yL_walk ∈ gT := gT_of 618 (by decide +kernel) (by decide +kernel)
theorem t_601 : .code yL_walk cL_walk 21 (some .int) ∈ gT := gT_of 620 (by decide +kernel) (by decide +kernel)
theorem t_600 : .static yL_walk ∈ gT := gT_of 619 (by decide +kernel) (by decide +kernel)
theorem lk_L_62 : LkS RL 62 yL_walk cL_walk 21 (some .int) 9 := ⟨t_599, t_600, t_0, t_601, ⟨by decide +kernel, by decide +kernel, by decide +kernel⟩⟩
theorem t_602 : .methodLink RL 52 yL_sort ∈ gT := gT_of 621 (by decide +kernel) (by decide +kernel)
theorem t_604 : .codeWith yL_sort cL_sort 5 (some .int) [(0, 7, 8, 50)] ∈ gT := gT_of 623 (by decide +kernel) (by decide +kernel)
theorem t_603 : .static yL_sort ∈ gT := gT_of 622 (by decide +kernel) (by decide +kernel)
theorem lk_L_52 : LkH RL 52 yL_sort cL_sort 5 (some .int) [(0, 7, 8, 50)] 4 := ⟨t_602, t_603, t_0, t_604, ⟨by decide +kernel, by decide +kernel, by decide +kernel⟩⟩
theorem t_605 : .methodLink RL 44 yX6_sortAt ∈ gT := gT_of 624 (by decide +kernel) (by decide +kernel)
theorem t_608 : .code yX6_sortAt cX6_sortAt 5 (some .int) ∈ gT := gT_of 627 (by decide +kernel) (by decide +kernel)
theorem t_606 : .instanceMethod yX6_sortAt ∈ gT := gT_of 625 (by decide +kernel) (by decide +kernel)
theorem t_607 : .selects RX6 yX6_sortAt yX6_sortAt ∈ gT := gT_of 626 (by decide +kernel) (by decide +kernel)
theorem lk_L_44 : LkV RL 44 yX6_sortAt cX6_sortAt 5 (some .int) 3 := ⟨t_605, t_606, t_607, t_1, t_608, ⟨by decide +kernel, by decide +kernel, by decide +kernel⟩⟩
theorem t_609 : .methodLink RX6 138 yX6_indexOf ∈ gT := gT_of 628 (by decide +kernel) (by decide +kernel)
theorem t_611 : .code yX6_indexOf cX6_indexOf 4 (some .int) ∈ gT := gT_of 630 (by decide +kernel) (by decide +kernel)
theorem t_610 : .static yX6_indexOf ∈ gT := gT_of 629 (by decide +kernel) (by decide +kernel)
theorem lk_X6_138 : LkS RX6 138 yX6_indexOf cX6_indexOf 4 (some .int) 3 := ⟨t_609, t_610, t_1, t_611, ⟨by decide +kernel, by decide +kernel, by decide +kernel⟩⟩
theorem t_612 : .methodLink RX6 205 yX2_find ∈ gT := gT_of 631 (by decide +kernel) (by decide +kernel)
theorem t_615 : .code yX2_find cX2_find 5 (some .int) ∈ gT := gT_of 634 (by decide +kernel) (by decide +kernel)
theorem t_613 : .instanceMethod yX2_find ∈ gT := gT_of 632 (by decide +kernel) (by decide +kernel)
theorem t_614 : .selects RX2 yX2_find yX2_find ∈ gT := gT_of 633 (by decide +kernel) (by decide +kernel)
theorem lk_X6_205 : LkV RX6 205 yX2_find cX2_find 5 (some .int) 2 := ⟨t_612, t_613, t_614, t_6, t_615, ⟨by decide +kernel, by decide +kernel, by decide +kernel⟩⟩
theorem t_632 : .methodLink RX6 142 yX2_itemSort ∈ gT := gT_of 651 (by decide +kernel) (by decide +kernel)
theorem lk_X6_142 : LkV RX6 142 yX2_itemSort cX2_itemSort 3 (some .int) 1 := ⟨t_632, t_546, t_547, t_6, t_548, ⟨by decide +kernel, by decide +kernel, by decide +kernel⟩⟩
theorem t_633 : .methodLink RL 56 yX6_itemAt ∈ gT := gT_of 652 (by decide +kernel) (by decide +kernel)
theorem t_636 : .code yX6_itemAt cX6_itemAt 5 (some .int) ∈ gT := gT_of 655 (by decide +kernel) (by decide +kernel)
theorem t_634 : .instanceMethod yX6_itemAt ∈ gT := gT_of 653 (by decide +kernel) (by decide +kernel)
theorem t_635 : .selects RX6 yX6_itemAt yX6_itemAt ∈ gT := gT_of 654 (by decide +kernel) (by decide +kernel)
theorem lk_L_56 : LkV RL 56 yX6_itemAt cX6_itemAt 5 (some .int) 3 := ⟨t_633, t_634, t_635, t_1, t_636, ⟨by decide +kernel, by decide +kernel, by decide +kernel⟩⟩
theorem t_637 : .methodLink RX6 145 yX2_itemWith ∈ gT := gT_of 656 (by decide +kernel) (by decide +kernel)
theorem lk_X6_145 : LkV RX6 145 yX2_itemWith cX2_itemWith 3 (some .int) 2 := ⟨t_637, t_550, t_551, t_6, t_552, ⟨by decide +kernel, by decide +kernel, by decide +kernel⟩⟩
theorem t_638 : .methodLink RL 59 yX6_sourceAt ∈ gT := gT_of 657 (by decide +kernel) (by decide +kernel)
theorem t_641 : .code yX6_sourceAt cX6_sourceAt 5 (some .int) ∈ gT := gT_of 660 (by decide +kernel) (by decide +kernel)
theorem t_639 : .instanceMethod yX6_sourceAt ∈ gT := gT_of 658 (by decide +kernel) (by decide +kernel)
theorem t_640 : .selects RX6 yX6_sourceAt yX6_sourceAt ∈ gT := gT_of 659 (by decide +kernel) (by decide +kernel)
theorem lk_L_59 : LkV RL 59 yX6_sourceAt cX6_sourceAt 5 (some .int) 3 := ⟨t_638, t_639, t_640, t_1, t_641, ⟨by decide +kernel, by decide +kernel, by decide +kernel⟩⟩
theorem t_642 : .methodLink RX6 165 yX2_sourceOf ∈ gT := gT_of 661 (by decide +kernel) (by decide +kernel)
theorem lk_X6_165 : LkV RX6 165 yX2_sourceOf cX2_sourceOf 2 (some .int) 1 := ⟨t_642, t_554, t_555, t_6, t_556, ⟨by decide +kernel, by decide +kernel, by decide +kernel⟩⟩
theorem t_643 : .methodLink RL 66 yX6_version ∈ gT := gT_of 662 (by decide +kernel) (by decide +kernel)
theorem t_646 : .code yX6_version cX6_version 2 (some .int) ∈ gT := gT_of 665 (by decide +kernel) (by decide +kernel)
theorem t_644 : .instanceMethod yX6_version ∈ gT := gT_of 663 (by decide +kernel) (by decide +kernel)
theorem t_645 : .selects RX6 yX6_version yX6_version ∈ gT := gT_of 664 (by decide +kernel) (by decide +kernel)
theorem lk_L_66 : LkV RL 66 yX6_version cX6_version 2 (some .int) 1 := ⟨t_643, t_644, t_645, t_1, t_646, ⟨by decide +kernel, by decide +kernel, by decide +kernel⟩⟩
theorem t_647 : .methodLink RL 69 yX6_rankOf ∈ gT := gT_of 666 (by decide +kernel) (by decide +kernel)
theorem t_650 : .code yX6_rankOf cX6_rankOf 2 (some .int) ∈ gT := gT_of 669 (by decide +kernel) (by decide +kernel)
theorem t_648 : .instanceMethod yX6_rankOf ∈ gT := gT_of 667 (by decide +kernel) (by decide +kernel)
theorem t_649 : .selects RX6 yX6_rankOf yX6_rankOf ∈ gT := gT_of 668 (by decide +kernel) (by decide +kernel)
theorem lk_L_69 : LkV RL 69 yX6_rankOf cX6_rankOf 2 (some .int) 1 := ⟨t_647, t_648, t_649, t_1, t_650, ⟨by decide +kernel, by decide +kernel, by decide +kernel⟩⟩
theorem t_651 : .methodLink RL 72 yX6_force ∈ gT := gT_of 670 (by decide +kernel) (by decide +kernel)
theorem t_654 : .code yX6_force cX6_force 2 (some .int) ∈ gT := gT_of 673 (by decide +kernel) (by decide +kernel)
theorem t_652 : .instanceMethod yX6_force ∈ gT := gT_of 671 (by decide +kernel) (by decide +kernel)
theorem t_653 : .selects RX6 yX6_force yX6_force ∈ gT := gT_of 672 (by decide +kernel) (by decide +kernel)
theorem lk_L_72 : LkV RL 72 yX6_force cX6_force 2 (some .int) 1 := ⟨t_651, t_652, t_653, t_1, t_654, ⟨by decide +kernel, by decide +kernel, by decide +kernel⟩⟩
theorem t_655 : .methodLink RL 74 yX6_reaches ∈ gT := gT_of 674 (by decide +kernel) (by decide +kernel)
theorem t_658 : .code yX6_reaches cX6_reaches 2 (some .int) ∈ gT := gT_of 677 (by decide +kernel) (by decide +kernel)
theorem t_656 : .instanceMethod yX6_reaches ∈ gT := gT_of 675 (by decide +kernel) (by decide +kernel)
theorem t_657 : .selects RX6 yX6_reaches yX6_reaches ∈ gT := gT_of 676 (by decide +kernel) (by decide +kernel)
theorem lk_L_74 : LkV RL 74 yX6_reaches cX6_reaches 2 (some .int) 1 := ⟨t_655, t_656, t_657, t_1, t_658, ⟨by decide +kernel, by decide +kernel, by decide +kernel⟩⟩
theorem t_659 : .methodLink RL 77 yX6_extent ∈ gT := gT_of 678 (by decide +kernel) (by decide +kernel)
theorem t_662 : .code yX6_extent cX6_extent 2 (some .int) ∈ gT := gT_of 681 (by decide +kernel) (by decide +kernel)
theorem t_660 : .instanceMethod yX6_extent ∈ gT := gT_of 679 (by decide +kernel) (by decide +kernel)
theorem t_661 : .selects RX6 yX6_extent yX6_extent ∈ gT := gT_of 680 (by decide +kernel) (by decide +kernel)
theorem lk_L_77 : LkV RL 77 yX6_extent cX6_extent 2 (some .int) 1 := ⟨t_659, t_660, t_661, t_1, t_662, ⟨by decide +kernel, by decide +kernel, by decide +kernel⟩⟩
theorem t_663 : .methodLink RX6 126 yX0_extentOf ∈ gT := gT_of 682 (by decide +kernel) (by decide +kernel)
theorem lk_X6_126 : LkV RX6 126 yX0_extentOf cX0_extentOf 2 (some .int) 1 := ⟨t_663, t_473, t_474, t_3, t_475, ⟨by decide +kernel, by decide +kernel, by decide +kernel⟩⟩
theorem t_664 : .methodLink RL 80 yX6_items ∈ gT := gT_of 683 (by decide +kernel) (by decide +kernel)
theorem t_667 : .code yX6_items cX6_items 4 (some .int) ∈ gT := gT_of 686 (by decide +kernel) (by decide +kernel)
theorem t_665 : .instanceMethod yX6_items ∈ gT := gT_of 684 (by decide +kernel) (by decide +kernel)
theorem t_666 : .selects RX6 yX6_items yX6_items ∈ gT := gT_of 685 (by decide +kernel) (by decide +kernel)
theorem lk_L_80 : LkV RL 80 yX6_items cX6_items 4 (some .int) 2 := ⟨t_664, t_665, t_666, t_1, t_667, ⟨by decide +kernel, by decide +kernel, by decide +kernel⟩⟩
theorem t_668 : .methodLink RX6 133 yX2_count ∈ gT := gT_of 687 (by decide +kernel) (by decide +kernel)
theorem t_671 : .code yX2_count cX2_count 4 (some .int) ∈ gT := gT_of 690 (by decide +kernel) (by decide +kernel)
theorem t_669 : .instanceMethod yX2_count ∈ gT := gT_of 688 (by decide +kernel) (by decide +kernel)
theorem t_670 : .selects RX2 yX2_count yX2_count ∈ gT := gT_of 689 (by decide +kernel) (by decide +kernel)
theorem lk_X6_133 : LkV RX6 133 yX2_count cX2_count 4 (some .int) 1 := ⟨t_668, t_669, t_670, t_6, t_671, ⟨by decide +kernel, by decide +kernel, by decide +kernel⟩⟩
theorem t_672 : .methodLink RL 84 yX6_breaches ∈ gT := gT_of 691 (by decide +kernel) (by decide +kernel)
theorem t_675 : .code yX6_breaches cX6_breaches 2 (some .int) ∈ gT := gT_of 694 (by decide +kernel) (by decide +kernel)
theorem t_673 : .instanceMethod yX6_breaches ∈ gT := gT_of 692 (by decide +kernel) (by decide +kernel)
theorem t_674 : .selects RX6 yX6_breaches yX6_breaches ∈ gT := gT_of 693 (by decide +kernel) (by decide +kernel)
theorem lk_L_84 : LkV RL 84 yX6_breaches cX6_breaches 2 (some .int) 1 := ⟨t_672, t_673, t_674, t_1, t_675, ⟨by decide +kernel, by decide +kernel, by decide +kernel⟩⟩
theorem t_676 : .methodLink RX6 185 yX6_countBreaches ∈ gT := gT_of 695 (by decide +kernel) (by decide +kernel)
theorem t_679 : .code yX6_countBreaches cX6_countBreaches 5 (some .int) ∈ gT := gT_of 698 (by decide +kernel) (by decide +kernel)
theorem t_678 : .instanceMethod yX6_countBreaches ∈ gT := gT_of 697 (by decide +kernel) (by decide +kernel)
theorem ts_13 : .selects RX6 yX6_countBreaches yX6_countBreaches ∈ gT := gT_of 13 (by decide +kernel) (by decide +kernel)
theorem lk_X6_185 : LkV RX6 185 yX6_countBreaches cX6_countBreaches 5 (some .int) 1 := ⟨t_676, t_678, ts_13, t_1, t_679, ⟨by decide +kernel, by decide +kernel, by decide +kernel⟩⟩
theorem t_680 : .methodLink RX6 316 yX2_shows ∈ gT := gT_of 699 (by decide +kernel) (by decide +kernel)
theorem lk_X6_316 : LkV RX6 316 yX2_shows cX2_shows 4 (some .boolean) 2 := ⟨t_680, t_542, t_543, t_6, t_544, ⟨by decide +kernel, by decide +kernel, by decide +kernel⟩⟩
theorem t_681 : .methodLink RL 87 yX6_standsFor ∈ gT := gT_of 700 (by decide +kernel) (by decide +kernel)
theorem t_684 : .code yX6_standsFor cX6_standsFor 2 (some .int) ∈ gT := gT_of 703 (by decide +kernel) (by decide +kernel)
theorem t_682 : .instanceMethod yX6_standsFor ∈ gT := gT_of 701 (by decide +kernel) (by decide +kernel)
theorem t_683 : .selects RX6 yX6_standsFor yX6_standsFor ∈ gT := gT_of 702 (by decide +kernel) (by decide +kernel)
theorem lk_L_87 : LkV RL 87 yX6_standsFor cX6_standsFor 2 (some .int) 1 := ⟨t_681, t_682, t_683, t_1, t_684, ⟨by decide +kernel, by decide +kernel, by decide +kernel⟩⟩
theorem t_685 : .methodLink RX6 168 yX6_behindRedirects ∈ gT := gT_of 704 (by decide +kernel) (by decide +kernel)
theorem t_688 : .code yX6_behindRedirects cX6_behindRedirects 5 (some .int) ∈ gT := gT_of 707 (by decide +kernel) (by decide +kernel)
theorem t_687 : .instanceMethod yX6_behindRedirects ∈ gT := gT_of 706 (by decide +kernel) (by decide +kernel)
theorem ts_14 : .selects RX6 yX6_behindRedirects yX6_behindRedirects ∈ gT := gT_of 14 (by decide +kernel) (by decide +kernel)
theorem lk_X6_168 : LkV RX6 168 yX6_behindRedirects cX6_behindRedirects 5 (some .int) 1 := ⟨t_685, t_687, ts_14, t_1, t_688, ⟨by decide +kernel, by decide +kernel, by decide +kernel⟩⟩
theorem t_689 : .methodLink RX6 303 yX3_isRedirectAlone ∈ gT := gT_of 708 (by decide +kernel) (by decide +kernel)
theorem t_692 : .code yX3_isRedirectAlone cX3_isRedirectAlone 1 (some .boolean) ∈ gT := gT_of 711 (by decide +kernel) (by decide +kernel)
theorem t_690 : .instanceMethod yX3_isRedirectAlone ∈ gT := gT_of 709 (by decide +kernel) (by decide +kernel)
theorem t_691 : .selects RX3 yX3_isRedirectAlone yX3_isRedirectAlone ∈ gT := gT_of 710 (by decide +kernel) (by decide +kernel)
theorem lk_X6_303 : LkV RX6 303 yX3_isRedirectAlone cX3_isRedirectAlone 1 (some .boolean) 0 := ⟨t_689, t_690, t_691, t_2, t_692, ⟨by decide +kernel, by decide +kernel, by decide +kernel⟩⟩
theorem t_693 : .methodLink RL 90 yL_stands ∈ gT := gT_of 712 (by decide +kernel) (by decide +kernel)
theorem t_695 : .code yL_stands cL_stands 7 (some .int) ∈ gT := gT_of 714 (by decide +kernel) (by decide +kernel)
theorem t_694 : .static yL_stands ∈ gT := gT_of 713 (by decide +kernel) (by decide +kernel)
theorem lk_L_90 : LkS RL 90 yL_stands cL_stands 7 (some .int) 4 := ⟨t_693, t_694, t_0, t_695, ⟨by decide +kernel, by decide +kernel, by decide +kernel⟩⟩
theorem t_696 : .methodLink RL 93 yX6_links ∈ gT := gT_of 715 (by decide +kernel) (by decide +kernel)
theorem t_699 : .code yX6_links cX6_links 5 (some .int) ∈ gT := gT_of 718 (by decide +kernel) (by decide +kernel)
theorem t_697 : .instanceMethod yX6_links ∈ gT := gT_of 716 (by decide +kernel) (by decide +kernel)
theorem t_698 : .selects RX6 yX6_links yX6_links ∈ gT := gT_of 717 (by decide +kernel) (by decide +kernel)
theorem lk_L_93 : LkV RL 93 yX6_links cX6_links 5 (some .int) 1 := ⟨t_696, t_697, t_698, t_1, t_699, ⟨by decide +kernel, by decide +kernel, by decide +kernel⟩⟩
theorem t_700 : .methodLink RX6 174 yX2_showsSort ∈ gT := gT_of 719 (by decide +kernel) (by decide +kernel)
theorem t_703 : .code yX2_showsSort cX2_showsSort 3 (some .boolean) ∈ gT := gT_of 722 (by decide +kernel) (by decide +kernel)
theorem t_701 : .instanceMethod yX2_showsSort ∈ gT := gT_of 720 (by decide +kernel) (by decide +kernel)
theorem t_702 : .selects RX2 yX2_showsSort yX2_showsSort ∈ gT := gT_of 721 (by decide +kernel) (by decide +kernel)
theorem lk_X6_174 : LkV RX6 174 yX2_showsSort cX2_showsSort 3 (some .boolean) 2 := ⟨t_700, t_701, t_702, t_6, t_703, ⟨by decide +kernel, by decide +kernel, by decide +kernel⟩⟩
theorem t_704 : .methodLink RL 96 yX6_breached ∈ gT := gT_of 723 (by decide +kernel) (by decide +kernel)
theorem t_707 : .code yX6_breached cX6_breached 3 (some .int) ∈ gT := gT_of 726 (by decide +kernel) (by decide +kernel)
theorem t_705 : .instanceMethod yX6_breached ∈ gT := gT_of 724 (by decide +kernel) (by decide +kernel)
theorem t_706 : .selects RX6 yX6_breached yX6_breached ∈ gT := gT_of 725 (by decide +kernel) (by decide +kernel)
theorem lk_L_96 : LkV RL 96 yX6_breached cX6_breached 3 (some .int) 0 := ⟨t_704, t_705, t_706, t_1, t_707, ⟨by decide +kernel, by decide +kernel, by decide +kernel⟩⟩
theorem t_708 : .methodLink RL 183 yL_areLinks ∈ gT := gT_of 727 (by decide +kernel) (by decide +kernel)
theorem t_710 : .code yL_areLinks cL_areLinks 15 (some .boolean) ∈ gT := gT_of 729 (by decide +kernel) (by decide +kernel)
theorem t_709 : .static yL_areLinks ∈ gT := gT_of 728 (by decide +kernel) (by decide +kernel)
theorem lk_L_183 : LkS RL 183 yL_areLinks cL_areLinks 15 (some .boolean) 5 := ⟨t_708, t_709, t_0, t_710, ⟨by decide +kernel, by decide +kernel, by decide +kernel⟩⟩
theorem t_711 : .methodLink RL 100 yX6_broken ∈ gT := gT_of 730 (by decide +kernel) (by decide +kernel)
theorem t_714 : .code yX6_broken cX6_broken 5 (some .int) ∈ gT := gT_of 733 (by decide +kernel) (by decide +kernel)
theorem t_712 : .instanceMethod yX6_broken ∈ gT := gT_of 731 (by decide +kernel) (by decide +kernel)
theorem t_713 : .selects RX6 yX6_broken yX6_broken ∈ gT := gT_of 732 (by decide +kernel) (by decide +kernel)
theorem lk_L_100 : LkV RL 100 yX6_broken cX6_broken 5 (some .int) 1 := ⟨t_711, t_712, t_713, t_1, t_714, ⟨by decide +kernel, by decide +kernel, by decide +kernel⟩⟩
theorem t_715 : .methodLink RX6 178 yX6_isBroken ∈ gT := gT_of 734 (by decide +kernel) (by decide +kernel)
theorem t_718 : .code yX6_isBroken cX6_isBroken 3 (some .boolean) ∈ gT := gT_of 737 (by decide +kernel) (by decide +kernel)
theorem t_717 : .instanceMethod yX6_isBroken ∈ gT := gT_of 736 (by decide +kernel) (by decide +kernel)
theorem ts_15 : .selects RX6 yX6_isBroken yX6_isBroken ∈ gT := gT_of 15 (by decide +kernel) (by decide +kernel)
theorem lk_X6_178 : LkV RX6 178 yX6_isBroken cX6_isBroken 3 (some .boolean) 2 := ⟨t_715, t_717, ts_15, t_1, t_718, ⟨by decide +kernel, by decide +kernel, by decide +kernel⟩⟩
theorem t_719 : .methodLink RX6 306 yX6_isGood ∈ gT := gT_of 738 (by decide +kernel) (by decide +kernel)
theorem t_722 : .code yX6_isGood cX6_isGood 3 (some .boolean) ∈ gT := gT_of 741 (by decide +kernel) (by decide +kernel)
theorem t_721 : .instanceMethod yX6_isGood ∈ gT := gT_of 740 (by decide +kernel) (by decide +kernel)
theorem ts_16 : .selects RX6 yX6_isGood yX6_isGood ∈ gT := gT_of 16 (by decide +kernel) (by decide +kernel)
theorem lk_X6_306 : LkV RX6 306 yX6_isGood cX6_isGood 3 (some .boolean) 1 := ⟨t_719, t_721, ts_16, t_1, t_722, ⟨by decide +kernel, by decide +kernel, by decide +kernel⟩⟩
theorem t_723 : .methodLink RX6 310 yX2_hasAnchor ∈ gT := gT_of 742 (by decide +kernel) (by decide +kernel)
theorem t_726 : .code yX2_hasAnchor cX2_hasAnchor 2 (some .boolean) ∈ gT := gT_of 745 (by decide +kernel) (by decide +kernel)
theorem t_724 : .instanceMethod yX2_hasAnchor ∈ gT := gT_of 743 (by decide +kernel) (by decide +kernel)
theorem t_725 : .selects RX2 yX2_hasAnchor yX2_hasAnchor ∈ gT := gT_of 744 (by decide +kernel) (by decide +kernel)
theorem lk_X6_310 : LkV RX6 310 yX2_hasAnchor cX2_hasAnchor 2 (some .boolean) 1 := ⟨t_723, t_724, t_725, t_6, t_726, ⟨by decide +kernel, by decide +kernel, by decide +kernel⟩⟩
theorem t_n727 : .methodLinkNest RX2 71 yX6_contains "MacroWiki" ∈ gN := gN_of 727 (by decide +kernel) (by decide +kernel)
theorem lk_X2_71 : LkN RX2 71 yX6_contains cX6_contains 2 (some .boolean) 2 := ⟨⟨_, t_n727⟩, t_407, t_1, t_408, ⟨by decide +kernel, by decide +kernel, by decide +kernel⟩⟩
theorem t_728 : .methodLink RL 103 yX6_firstBroken ∈ gT := gT_of 747 (by decide +kernel) (by decide +kernel)
theorem t_731 : .code yX6_firstBroken cX6_firstBroken 4 (some .int) ∈ gT := gT_of 750 (by decide +kernel) (by decide +kernel)
theorem t_729 : .instanceMethod yX6_firstBroken ∈ gT := gT_of 748 (by decide +kernel) (by decide +kernel)
theorem t_730 : .selects RX6 yX6_firstBroken yX6_firstBroken ∈ gT := gT_of 749 (by decide +kernel) (by decide +kernel)
theorem lk_L_103 : LkV RL 103 yX6_firstBroken cX6_firstBroken 4 (some .int) 1 := ⟨t_728, t_729, t_730, t_1, t_731, ⟨by decide +kernel, by decide +kernel, by decide +kernel⟩⟩
theorem t_732 : .methodLink RL 106 yX6_linkedFrom ∈ gT := gT_of 751 (by decide +kernel) (by decide +kernel)
theorem t_735 : .code yX6_linkedFrom cX6_linkedFrom 4 (some .int) ∈ gT := gT_of 754 (by decide +kernel) (by decide +kernel)
theorem t_733 : .instanceMethod yX6_linkedFrom ∈ gT := gT_of 752 (by decide +kernel) (by decide +kernel)
theorem t_734 : .selects RX6 yX6_linkedFrom yX6_linkedFrom ∈ gT := gT_of 753 (by decide +kernel) (by decide +kernel)
theorem lk_L_106 : LkV RL 106 yX6_linkedFrom cX6_linkedFrom 4 (some .int) 1 := ⟨t_732, t_733, t_734, t_1, t_735, ⟨by decide +kernel, by decide +kernel, by decide +kernel⟩⟩
theorem t_736 : .methodLink RX6 182 yX6_hasGoodLink ∈ gT := gT_of 755 (by decide +kernel) (by decide +kernel)
theorem t_739 : .code yX6_hasGoodLink cX6_hasGoodLink 6 (some .boolean) ∈ gT := gT_of 758 (by decide +kernel) (by decide +kernel)
theorem t_738 : .instanceMethod yX6_hasGoodLink ∈ gT := gT_of 757 (by decide +kernel) (by decide +kernel)
theorem ts_17 : .selects RX6 yX6_hasGoodLink yX6_hasGoodLink ∈ gT := gT_of 17 (by decide +kernel) (by decide +kernel)
theorem lk_X6_182 : LkV RX6 182 yX6_hasGoodLink cX6_hasGoodLink 6 (some .boolean) 2 := ⟨t_736, t_738, ts_17, t_1, t_739, ⟨by decide +kernel, by decide +kernel, by decide +kernel⟩⟩
theorem t_740 : .methodLink RX6 313 yX6_leadsTo ∈ gT := gT_of 759 (by decide +kernel) (by decide +kernel)
theorem t_743 : .code yX6_leadsTo cX6_leadsTo 4 (some .boolean) ∈ gT := gT_of 762 (by decide +kernel) (by decide +kernel)
theorem t_742 : .instanceMethod yX6_leadsTo ∈ gT := gT_of 761 (by decide +kernel) (by decide +kernel)
theorem ts_18 : .selects RX6 yX6_leadsTo yX6_leadsTo ∈ gT := gT_of 18 (by decide +kernel) (by decide +kernel)
theorem lk_X6_313 : LkV RX6 313 yX6_leadsTo cX6_leadsTo 4 (some .boolean) 2 := ⟨t_740, t_742, ts_18, t_1, t_743, ⟨by decide +kernel, by decide +kernel, by decide +kernel⟩⟩
theorem t_25 : .classLink RL 45 RX6 ∈ gT := gT_of 44 (by decide +kernel) (by decide +kernel)
theorem t_26 : .instantiable RX6 5 ∈ gT := gT_of 45 (by decide +kernel) (by decide +kernel)
theorem nw_L_45 : NWk RL 45 6 [.null, .null, .null, .null, .null] := ⟨RX6, TX6, 5, tyX6, rfl, rfl, inT_X6, tyX6_ok, (by intro j hj; rcases (show j = 0 ∨ j = 1 ∨ j = 2 ∨ j = 3 ∨ j = 4 by omega) with rfl | rfl | rfl | rfl | rfl <;> rfl), t_25, t_26, t_1⟩
theorem t_33 : .classLink RX6 9 RX3 ∈ gT := gT_of 52 (by decide +kernel) (by decide +kernel)
theorem t_34 : .instantiable RX3 5 ∈ gT := gT_of 53 (by decide +kernel) (by decide +kernel)
theorem nw_X6_9 : NWk RX6 9 3 [.null, .null, .null, .int 0, .int 0] := ⟨RX3, TX3, 5, tyX3, rfl, rfl, inT_X3, tyX3_ok, (by intro j hj; rcases (show j = 0 ∨ j = 1 ∨ j = 2 ∨ j = 3 ∨ j = 4 by omega) with rfl | rfl | rfl | rfl | rfl <;> rfl), t_33, t_34, t_2⟩
theorem t_58 : .classLink RX6 20 RX0 ∈ gT := gT_of 77 (by decide +kernel) (by decide +kernel)
theorem t_59 : .instantiable RX0 5 ∈ gT := gT_of 78 (by decide +kernel) (by decide +kernel)
theorem nw_X6_20 : NWk RX6 20 0 [.null, .null, .null, .null, .null] := ⟨RX0, TX0, 5, tyX0, rfl, rfl, inT_X0, tyX0_ok, (by intro j hj; rcases (show j = 0 ∨ j = 1 ∨ j = 2 ∨ j = 3 ∨ j = 4 by omega) with rfl | rfl | rfl | rfl | rfl <;> rfl), t_58, t_59, t_3⟩
theorem t_80 : .classLink RX6 30 RX1 ∈ gT := gT_of 99 (by decide +kernel) (by decide +kernel)
theorem t_82 : .instantiable RX1 3 ∈ gT := gT_of 101 (by decide +kernel) (by decide +kernel)
theorem nw_X6_30 : NWk RX6 30 1 [.null, .int 0, .null] := ⟨RX1, TX1, 3, tyX1, rfl, rfl, inT_X1, tyX1_ok, (by intro j hj; rcases (show j = 0 ∨ j = 1 ∨ j = 2 by omega) with rfl | rfl | rfl <;> rfl), t_80, t_82, t_4⟩
theorem t_87 : .classLink RX1 9 RX4 ∈ gT := gT_of 106 (by decide +kernel) (by decide +kernel)
theorem t_88 : .instantiable RX4 4 ∈ gT := gT_of 107 (by decide +kernel) (by decide +kernel)
theorem nw_X1_9 : NWk RX1 9 4 [.null, .int 0, .null, .int 0] := ⟨RX4, TX4, 4, tyX4, rfl, rfl, inT_X4, tyX4_ok, (by intro j hj; rcases (show j = 0 ∨ j = 1 ∨ j = 2 ∨ j = 3 by omega) with rfl | rfl | rfl | rfl <;> rfl), t_87, t_88, t_5⟩
theorem t_89 : .classLink RX1 11 RX3 ∈ gT := gT_of 108 (by decide +kernel) (by decide +kernel)
theorem nw_X1_11 : NWk RX1 11 3 [.null, .null, .null, .int 0, .int 0] := ⟨RX3, TX3, 5, tyX3, rfl, rfl, inT_X3, tyX3_ok, (by intro j hj; rcases (show j = 0 ∨ j = 1 ∨ j = 2 ∨ j = 3 ∨ j = 4 by omega) with rfl | rfl | rfl | rfl | rfl <;> rfl), t_89, t_34, t_2⟩
theorem t_112 : .classLink RX1 27 RX2 ∈ gT := gT_of 131 (by decide +kernel) (by decide +kernel)
theorem t_113 : .instantiable RX2 8 ∈ gT := gT_of 132 (by decide +kernel) (by decide +kernel)
theorem nw_X1_27 : NWk RX1 27 2 [.null, .null, .null, .null, .int 0, .int 0, .null, .int 0] := ⟨RX2, TX2, 8, tyX2, rfl, rfl, inT_X2, tyX2_ok, (by intro j hj; rcases (show j = 0 ∨ j = 1 ∨ j = 2 ∨ j = 3 ∨ j = 4 ∨ j = 5 ∨ j = 6 ∨ j = 7 by omega) with rfl | rfl | rfl | rfl | rfl | rfl | rfl | rfl <;> rfl), t_112, t_113, t_6⟩
theorem t_498 : .classLink RX6 78 RX4 ∈ gT := gT_of 517 (by decide +kernel) (by decide +kernel)
theorem nw_X6_78 : NWk RX6 78 4 [.null, .int 0, .null, .int 0] := ⟨RX4, TX4, 4, tyX4, rfl, rfl, inT_X4, tyX4_ok, (by intro j hj; rcases (show j = 0 ∨ j = 1 ∨ j = 2 ∨ j = 3 by omega) with rfl | rfl | rfl | rfl <;> rfl), t_498, t_88, t_5⟩
theorem ta_int : Cond.arrayClass .int ∈ gT := gT_of 76 (by decide +kernel) (by decide +kernel)
theorem ta_long : Cond.arrayClass .long ∈ gT := gT_of 282 (by decide +kernel) (by decide +kernel)
theorem k_L_7 : .constant RL 7 (Z32 224737) ∈ gT := gT_of 195 (by decide +kernel) (by decide +kernel)
theorem k_L_8 : .constant RL 8 (Z32 2147483647) ∈ gT := gT_of 196 (by decide +kernel) (by decide +kernel)
theorem k_L_175 : .constant RL 175 (Z32 1000000) ∈ gT := gT_of 197 (by decide +kernel) (by decide +kernel)
theorem k_L_9 : .constantLong RL 9 63 ∈ gT := gT_of 385 (by decide +kernel) (by decide +kernel)
