theorem t_61 : .laysFinal RX0 "MacroWiki$Net" "calls" "[I" ∈ gT := gT_of 102 (by decide +kernel) (by decide +kernel)
theorem t_63 : .laysFinal RX0 "MacroWiki$Net" "ownExtents" "[I" ∈ gT := gT_of 104 (by decide +kernel) (by decide +kernel)
theorem t_65 : .laysFinal RX0 "MacroWiki$Net" "reached" "[I" ∈ gT := gT_of 106 (by decide +kernel) (by decide +kernel)
theorem t_67 : .laysFinal RX0 "MacroWiki$Net" "depths" "[I" ∈ gT := gT_of 108 (by decide +kernel) (by decide +kernel)
theorem t_69 : .laysFinal RX0 "MacroWiki$Net" "extents" "[I" ∈ gT := gT_of 110 (by decide +kernel) (by decide +kernel)
theorem inT_X0 : ∀ w ∈ u_ws RX0 TX0 5, w ∈ gT := by
  show ∀ w ∈ [u_lay RX0 TX0 0, u_lay RX0 TX0 1, u_lay RX0 TX0 2, u_lay RX0 TX0 3, u_lay RX0 TX0 4], w ∈ gT
  intro w h
  simp only [List.mem_cons, List.not_mem_nil, or_false] at h
  rcases h with rfl | rfl | rfl | rfl | rfl
  · exact t_61
  · exact t_63
  · exact t_65
  · exact t_67
  · exact t_69
theorem t_142 : .lays RX1 "MacroWiki$Page" "now" "LMacroWiki$Version;" ∈ gT := gT_of 183 (by decide +kernel) (by decide +kernel)
theorem t_144 : .lays RX1 "MacroWiki$Page" "lock" "I" ∈ gT := gT_of 185 (by decide +kernel) (by decide +kernel)
theorem t_146 : .laysFinal RX1 "MacroWiki$Page" "spread" "LMacroWiki$Spread;" ∈ gT := gT_of 187 (by decide +kernel) (by decide +kernel)
theorem inT_X1 : ∀ w ∈ u_ws RX1 TX1 3, w ∈ gT := by
  show ∀ w ∈ [u_lay RX1 TX1 0, u_lay RX1 TX1 1, u_lay RX1 TX1 2], w ∈ gT
  intro w h
  simp only [List.mem_cons, List.not_mem_nil, or_false] at h
  rcases h with rfl | rfl | rfl
  · exact t_142
  · exact t_144
  · exact t_146
theorem t_119 : .laysFinal RX2 "MacroWiki$Spread" "needs" "[I" ∈ gT := gT_of 160 (by decide +kernel) (by decide +kernel)
theorem t_121 : .laysFinal RX2 "MacroWiki$Spread" "sorts" "[I" ∈ gT := gT_of 162 (by decide +kernel) (by decide +kernel)
theorem t_123 : .laysFinal RX2 "MacroWiki$Spread" "values" "[I" ∈ gT := gT_of 164 (by decide +kernel) (by decide +kernel)
theorem t_125 : .laysFinal RX2 "MacroWiki$Spread" "sources" "[I" ∈ gT := gT_of 166 (by decide +kernel) (by decide +kernel)
theorem t_127 : .lays RX2 "MacroWiki$Spread" "size" "I" ∈ gT := gT_of 168 (by decide +kernel) (by decide +kernel)
theorem t_129 : .lays RX2 "MacroWiki$Spread" "anchors" "I" ∈ gT := gT_of 170 (by decide +kernel) (by decide +kernel)
theorem t_131 : .laysFinal RX2 "MacroWiki$Spread" "openNeeds" "[I" ∈ gT := gT_of 172 (by decide +kernel) (by decide +kernel)
theorem t_133 : .lays RX2 "MacroWiki$Spread" "openWhens" "I" ∈ gT := gT_of 174 (by decide +kernel) (by decide +kernel)
theorem inT_X2 : ∀ w ∈ u_ws RX2 TX2 8, w ∈ gT := by
  show ∀ w ∈ [u_lay RX2 TX2 0, u_lay RX2 TX2 1, u_lay RX2 TX2 2, u_lay RX2 TX2 3, u_lay RX2 TX2 4, u_lay RX2 TX2 5, u_lay RX2 TX2 6, u_lay RX2 TX2 7], w ∈ gT
  intro w h
  simp only [List.mem_cons, List.not_mem_nil, or_false] at h
  rcases h with rfl | rfl | rfl | rfl | rfl | rfl | rfl | rfl
  · exact t_119
  · exact t_121
  · exact t_123
  · exact t_125
  · exact t_127
  · exact t_129
  · exact t_131
  · exact t_133
theorem t_38 : .laysFinal RX3 "MacroWiki$Text" "sorts" "[I" ∈ gT := gT_of 79 (by decide +kernel) (by decide +kernel)
theorem t_40 : .laysFinal RX3 "MacroWiki$Text" "pages" "[I" ∈ gT := gT_of 81 (by decide +kernel) (by decide +kernel)
theorem t_42 : .laysFinal RX3 "MacroWiki$Text" "signs" "[I" ∈ gT := gT_of 83 (by decide +kernel) (by decide +kernel)
theorem t_44 : .lays RX3 "MacroWiki$Text" "size" "I" ∈ gT := gT_of 85 (by decide +kernel) (by decide +kernel)
theorem t_46 : .lays RX3 "MacroWiki$Text" "openWhens" "I" ∈ gT := gT_of 87 (by decide +kernel) (by decide +kernel)
theorem inT_X3 : ∀ w ∈ u_ws RX3 TX3 5, w ∈ gT := by
  show ∀ w ∈ [u_lay RX3 TX3 0, u_lay RX3 TX3 1, u_lay RX3 TX3 2, u_lay RX3 TX3 3, u_lay RX3 TX3 4], w ∈ gT
  intro w h
  simp only [List.mem_cons, List.not_mem_nil, or_false] at h
  rcases h with rfl | rfl | rfl | rfl | rfl
  · exact t_38
  · exact t_40
  · exact t_42
  · exact t_44
  · exact t_46
theorem t_95 : .laysFinal RX4 "MacroWiki$Version" "before" "LMacroWiki$Version;" ∈ gT := gT_of 136 (by decide +kernel) (by decide +kernel)
theorem t_97 : .laysFinal RX4 "MacroWiki$Version" "number" "I" ∈ gT := gT_of 138 (by decide +kernel) (by decide +kernel)
theorem t_99 : .laysFinal RX4 "MacroWiki$Version" "text" "LMacroWiki$Text;" ∈ gT := gT_of 140 (by decide +kernel) (by decide +kernel)
theorem t_101 : .lays RX4 "MacroWiki$Version" "rank" "I" ∈ gT := gT_of 142 (by decide +kernel) (by decide +kernel)
theorem inT_X4 : ∀ w ∈ u_ws RX4 TX4 4, w ∈ gT := by
  show ∀ w ∈ [u_lay RX4 TX4 0, u_lay RX4 TX4 1, u_lay RX4 TX4 2, u_lay RX4 TX4 3], w ∈ gT
  intro w h
  simp only [List.mem_cons, List.not_mem_nil, or_false] at h
  rcases h with rfl | rfl | rfl | rfl
  · exact t_95
  · exact t_97
  · exact t_99
  · exact t_101
theorem t_699 : .lays RX5 "MacroWiki$Walk" "toGo" "I" ∈ gT := gT_of 740 (by decide +kernel) (by decide +kernel)
theorem t_701 : .lays RX5 "MacroWiki$Walk" "found" "I" ∈ gT := gT_of 742 (by decide +kernel) (by decide +kernel)
theorem inT_X5 : ∀ w ∈ u_ws RX5 TX5 2, w ∈ gT := by
  show ∀ w ∈ [u_lay RX5 TX5 0, u_lay RX5 TX5 1], w ∈ gT
  intro w h
  simp only [List.mem_cons, List.not_mem_nil, or_false] at h
  rcases h with rfl | rfl
  · exact t_699
  · exact t_701
theorem t_154 : .laysFinal RX6 "MacroWiki" "draft" "LMacroWiki$Text;" ∈ gT := gT_of 195 (by decide +kernel) (by decide +kernel)
theorem t_156 : .laysFinal RX6 "MacroWiki" "pages" "[LMacroWiki$Page;" ∈ gT := gT_of 197 (by decide +kernel) (by decide +kernel)
theorem t_158 : .laysFinal RX6 "MacroWiki" "userRanks" "[I" ∈ gT := gT_of 199 (by decide +kernel) (by decide +kernel)
theorem t_160 : .lays RX6 "MacroWiki" "net" "LMacroWiki$Net;" ∈ gT := gT_of 201 (by decide +kernel) (by decide +kernel)
theorem t_162 : .lays RX6 "MacroWiki" "trial" "LMacroWiki$Net;" ∈ gT := gT_of 203 (by decide +kernel) (by decide +kernel)
theorem inT_X6 : ∀ w ∈ u_ws RX6 TX6 5, w ∈ gT := by
  show ∀ w ∈ [u_lay RX6 TX6 0, u_lay RX6 TX6 1, u_lay RX6 TX6 2, u_lay RX6 TX6 3, u_lay RX6 TX6 4], w ∈ gT
  intro w h
  simp only [List.mem_cons, List.not_mem_nil, or_false] at h
  rcases h with rfl | rfl | rfl | rfl | rfl
  · exact t_154
  · exact t_156
  · exact t_158
  · exact t_160
  · exact t_162
theorem t_830 : .laysFinal RX7 "MacroWikiModel" "draft" "[I" ∈ gT := gT_of 871 (by decide +kernel) (by decide +kernel)
theorem t_832 : .lays RX7 "MacroWikiModel" "drafted" "I" ∈ gT := gT_of 873 (by decide +kernel) (by decide +kernel)
theorem t_834 : .lays RX7 "MacroWikiModel" "open" "I" ∈ gT := gT_of 875 (by decide +kernel) (by decide +kernel)
theorem t_836 : .laysFinal RX7 "MacroWikiModel" "texts" "[I" ∈ gT := gT_of 877 (by decide +kernel) (by decide +kernel)
theorem t_838 : .laysFinal RX7 "MacroWikiModel" "sizes" "[I" ∈ gT := gT_of 879 (by decide +kernel) (by decide +kernel)
theorem t_840 : .laysFinal RX7 "MacroWikiModel" "ranks" "[I" ∈ gT := gT_of 881 (by decide +kernel) (by decide +kernel)
theorem t_842 : .laysFinal RX7 "MacroWikiModel" "versions" "[I" ∈ gT := gT_of 883 (by decide +kernel) (by decide +kernel)
theorem t_844 : .laysFinal RX7 "MacroWikiModel" "locks" "[I" ∈ gT := gT_of 885 (by decide +kernel) (by decide +kernel)
theorem t_846 : .laysFinal RX7 "MacroWikiModel" "userRanks" "[I" ∈ gT := gT_of 887 (by decide +kernel) (by decide +kernel)
theorem t_848 : .laysFinal RX7 "MacroWikiModel" "calls" "[I" ∈ gT := gT_of 889 (by decide +kernel) (by decide +kernel)
theorem t_850 : .laysFinal RX7 "MacroWikiModel" "own" "[I" ∈ gT := gT_of 891 (by decide +kernel) (by decide +kernel)
theorem t_852 : .laysFinal RX7 "MacroWikiModel" "reached" "[I" ∈ gT := gT_of 893 (by decide +kernel) (by decide +kernel)
theorem t_854 : .laysFinal RX7 "MacroWikiModel" "depths" "[I" ∈ gT := gT_of 895 (by decide +kernel) (by decide +kernel)
theorem t_856 : .laysFinal RX7 "MacroWikiModel" "extents" "[I" ∈ gT := gT_of 897 (by decide +kernel) (by decide +kernel)
theorem t_858 : .laysFinal RX7 "MacroWikiModel" "sorts" "[I" ∈ gT := gT_of 899 (by decide +kernel) (by decide +kernel)
theorem t_860 : .laysFinal RX7 "MacroWikiModel" "values" "[I" ∈ gT := gT_of 901 (by decide +kernel) (by decide +kernel)
theorem t_862 : .laysFinal RX7 "MacroWikiModel" "sources" "[I" ∈ gT := gT_of 903 (by decide +kernel) (by decide +kernel)
theorem t_864 : .lays RX7 "MacroWikiModel" "shown" "I" ∈ gT := gT_of 905 (by decide +kernel) (by decide +kernel)
theorem t_866 : .laysFinal RX7 "MacroWikiModel" "pages" "[I" ∈ gT := gT_of 907 (by decide +kernel) (by decide +kernel)
theorem t_868 : .laysFinal RX7 "MacroWikiModel" "places" "[I" ∈ gT := gT_of 909 (by decide +kernel) (by decide +kernel)
theorem t_870 : .laysFinal RX7 "MacroWikiModel" "arguments" "[I" ∈ gT := gT_of 911 (by decide +kernel) (by decide +kernel)
theorem t_872 : .lays RX7 "MacroWikiModel" "last" "I" ∈ gT := gT_of 913 (by decide +kernel) (by decide +kernel)
theorem inT_X7 : ∀ w ∈ u_ws RX7 TX7 22, w ∈ gT := by
  show ∀ w ∈ [u_lay RX7 TX7 0, u_lay RX7 TX7 1, u_lay RX7 TX7 2, u_lay RX7 TX7 3, u_lay RX7 TX7 4, u_lay RX7 TX7 5, u_lay RX7 TX7 6, u_lay RX7 TX7 7, u_lay RX7 TX7 8, u_lay RX7 TX7 9, u_lay RX7 TX7 10, u_lay RX7 TX7 11, u_lay RX7 TX7 12, u_lay RX7 TX7 13, u_lay RX7 TX7 14, u_lay RX7 TX7 15, u_lay RX7 TX7 16, u_lay RX7 TX7 17, u_lay RX7 TX7 18, u_lay RX7 TX7 19, u_lay RX7 TX7 20, u_lay RX7 TX7 21], w ∈ gT
  intro w h
  simp only [List.mem_cons, List.not_mem_nil, or_false] at h
  rcases h with rfl | rfl | rfl | rfl | rfl | rfl | rfl | rfl | rfl | rfl | rfl | rfl | rfl | rfl | rfl | rfl | rfl | rfl | rfl | rfl | rfl | rfl
  · exact t_830
  · exact t_832
  · exact t_834
  · exact t_836
  · exact t_838
  · exact t_840
  · exact t_842
  · exact t_844
  · exact t_846
  · exact t_848
  · exact t_850
  · exact t_852
  · exact t_854
  · exact t_856
  · exact t_858
  · exact t_860
  · exact t_862
  · exact t_864
  · exact t_866
  · exact t_868
  · exact t_870
  · exact t_872
theorem t_31 : .fieldLink RX3 9 "MacroWiki$Text" "sorts" "[I" ∈ gT := gT_of 72 (by decide +kernel) (by decide +kernel)
theorem fk_X3_9 : FLk RX3 9 3 0 (tyX3 0) true := ⟨RX3, TX3, 5, tyX3, rfl, by decide, inT_X3, tyX3_ok, nmX3, rfl, rfl, (fun _ => rfl), Or.inl t_31⟩
theorem f_X3_9 : FLr RX3 9 3 0 := fk_X3_9.r
theorem ff_X3_9 : FLf RX3 9 3 0 (tyX3 0) := ⟨fk_X3_9, RX3, TX3, 5, rfl, t_31⟩
theorem t_32 : .fieldLink RX3 15 "MacroWiki$Text" "pages" "[I" ∈ gT := gT_of 73 (by decide +kernel) (by decide +kernel)
theorem fk_X3_15 : FLk RX3 15 3 1 (tyX3 1) true := ⟨RX3, TX3, 5, tyX3, rfl, by decide, inT_X3, tyX3_ok, nmX3, rfl, rfl, (fun _ => rfl), Or.inl t_32⟩
theorem f_X3_15 : FLr RX3 15 3 1 := fk_X3_15.r
theorem ff_X3_15 : FLf RX3 15 3 1 (tyX3 1) := ⟨fk_X3_15, RX3, TX3, 5, rfl, t_32⟩
theorem t_33 : .fieldLink RX3 18 "MacroWiki$Text" "signs" "[I" ∈ gT := gT_of 74 (by decide +kernel) (by decide +kernel)
theorem fk_X3_18 : FLk RX3 18 3 2 (tyX3 2) true := ⟨RX3, TX3, 5, tyX3, rfl, by decide, inT_X3, tyX3_ok, nmX3, rfl, rfl, (fun _ => rfl), Or.inl t_33⟩
theorem f_X3_18 : FLr RX3 18 3 2 := fk_X3_18.r
theorem ff_X3_18 : FLf RX3 18 3 2 (tyX3 2) := ⟨fk_X3_18, RX3, TX3, 5, rfl, t_33⟩
theorem t_34 : .fieldLink RX3 21 "MacroWiki$Text" "size" "I" ∈ gT := gT_of 75 (by decide +kernel) (by decide +kernel)
theorem fk_X3_21 : FLk RX3 21 3 3 (tyX3 3) false := ⟨RX3, TX3, 5, tyX3, rfl, by decide, inT_X3, tyX3_ok, nmX3, rfl, rfl, (fun h => nomatch h), Or.inl t_34⟩
theorem f_X3_21 : FLr RX3 21 3 3 := fk_X3_21.r
theorem t_n35 : .fieldLinkNest RX0 35 "MacroWiki$Text" "size" "I" "MacroWiki" ∈ gN := gN_of 35 (by decide +kernel) (by decide +kernel)
theorem fk_X0_35 : FLk RX0 35 3 3 (tyX3 3) false := ⟨RX3, TX3, 5, tyX3, rfl, by decide, inT_X3, tyX3_ok, nmX3, rfl, rfl, (fun h => nomatch h), Or.inr ⟨_, t_n35⟩⟩
theorem f_X0_35 : FLr RX0 35 3 3 := fk_X0_35.r
theorem t_n36 : .fieldLinkNest RX6 208 "MacroWiki$Text" "size" "I" "MacroWiki" ∈ gN := gN_of 36 (by decide +kernel) (by decide +kernel)
theorem fk_X6_208 : FLk RX6 208 3 3 (tyX3 3) false := ⟨RX3, TX3, 5, tyX3, rfl, by decide, inT_X3, tyX3_ok, nmX3, rfl, rfl, (fun h => nomatch h), Or.inr ⟨_, t_n36⟩⟩
theorem f_X6_208 : FLr RX6 208 3 3 := fk_X6_208.r
theorem t_37 : .fieldLink RX3 25 "MacroWiki$Text" "openWhens" "I" ∈ gT := gT_of 78 (by decide +kernel) (by decide +kernel)
theorem fk_X3_25 : FLk RX3 25 3 4 (tyX3 4) false := ⟨RX3, TX3, 5, tyX3, rfl, by decide, inT_X3, tyX3_ok, nmX3, rfl, rfl, (fun h => nomatch h), Or.inl t_37⟩
theorem f_X3_25 : FLr RX3 25 3 4 := fk_X3_25.r
theorem t_56 : .fieldLink RX0 9 "MacroWiki$Net" "calls" "[I" ∈ gT := gT_of 97 (by decide +kernel) (by decide +kernel)
theorem fk_X0_9 : FLk RX0 9 0 0 (tyX0 0) true := ⟨RX0, TX0, 5, tyX0, rfl, by decide, inT_X0, tyX0_ok, nmX0, rfl, rfl, (fun _ => rfl), Or.inl t_56⟩
theorem f_X0_9 : FLr RX0 9 0 0 := fk_X0_9.r
theorem ff_X0_9 : FLf RX0 9 0 0 (tyX0 0) := ⟨fk_X0_9, RX0, TX0, 5, rfl, t_56⟩
theorem t_57 : .fieldLink RX0 15 "MacroWiki$Net" "ownExtents" "[I" ∈ gT := gT_of 98 (by decide +kernel) (by decide +kernel)
theorem fk_X0_15 : FLk RX0 15 0 1 (tyX0 1) true := ⟨RX0, TX0, 5, tyX0, rfl, by decide, inT_X0, tyX0_ok, nmX0, rfl, rfl, (fun _ => rfl), Or.inl t_57⟩
theorem f_X0_15 : FLr RX0 15 0 1 := fk_X0_15.r
theorem ff_X0_15 : FLf RX0 15 0 1 (tyX0 1) := ⟨fk_X0_15, RX0, TX0, 5, rfl, t_57⟩
theorem t_58 : .fieldLink RX0 18 "MacroWiki$Net" "reached" "[I" ∈ gT := gT_of 99 (by decide +kernel) (by decide +kernel)
theorem fk_X0_18 : FLk RX0 18 0 2 (tyX0 2) true := ⟨RX0, TX0, 5, tyX0, rfl, by decide, inT_X0, tyX0_ok, nmX0, rfl, rfl, (fun _ => rfl), Or.inl t_58⟩
theorem f_X0_18 : FLr RX0 18 0 2 := fk_X0_18.r
theorem ff_X0_18 : FLf RX0 18 0 2 (tyX0 2) := ⟨fk_X0_18, RX0, TX0, 5, rfl, t_58⟩
theorem t_59 : .fieldLink RX0 21 "MacroWiki$Net" "depths" "[I" ∈ gT := gT_of 100 (by decide +kernel) (by decide +kernel)
theorem fk_X0_21 : FLk RX0 21 0 3 (tyX0 3) true := ⟨RX0, TX0, 5, tyX0, rfl, by decide, inT_X0, tyX0_ok, nmX0, rfl, rfl, (fun _ => rfl), Or.inl t_59⟩
theorem f_X0_21 : FLr RX0 21 0 3 := fk_X0_21.r
theorem ff_X0_21 : FLf RX0 21 0 3 (tyX0 3) := ⟨fk_X0_21, RX0, TX0, 5, rfl, t_59⟩
theorem t_60 : .fieldLink RX0 24 "MacroWiki$Net" "extents" "[I" ∈ gT := gT_of 101 (by decide +kernel) (by decide +kernel)
theorem fk_X0_24 : FLk RX0 24 0 4 (tyX0 4) true := ⟨RX0, TX0, 5, tyX0, rfl, by decide, inT_X0, tyX0_ok, nmX0, rfl, rfl, (fun _ => rfl), Or.inl t_60⟩
theorem f_X0_24 : FLr RX0 24 0 4 := fk_X0_24.r
theorem ff_X0_24 : FLf RX0 24 0 4 (tyX0 4) := ⟨fk_X0_24, RX0, TX0, 5, rfl, t_60⟩
theorem t_87 : .fieldLink RX4 7 "MacroWiki$Version" "before" "LMacroWiki$Version;" ∈ gT := gT_of 128 (by decide +kernel) (by decide +kernel)
theorem fk_X4_7 : FLk RX4 7 4 0 (tyX4 0) true := ⟨RX4, TX4, 4, tyX4, rfl, by decide, inT_X4, tyX4_ok, nmX4, rfl, rfl, (fun _ => rfl), Or.inl t_87⟩
theorem f_X4_7 : FLr RX4 7 4 0 := fk_X4_7.r
theorem ff_X4_7 : FLf RX4 7 4 0 (tyX4 0) := ⟨fk_X4_7, RX4, TX4, 4, rfl, t_87⟩
theorem t_n88 : .fieldLinkNest RX6 105 "MacroWiki$Version" "before" "LMacroWiki$Version;" "MacroWiki" ∈ gN := gN_of 88 (by decide +kernel) (by decide +kernel)
theorem f_X6_105 : FLr RX6 105 4 0 := ⟨RX4, TX4, 4, rfl, by decide, inT_X4, Or.inr ⟨_, t_n88⟩⟩
theorem t_89 : .fieldLink RX4 13 "MacroWiki$Version" "number" "I" ∈ gT := gT_of 130 (by decide +kernel) (by decide +kernel)
theorem fk_X4_13 : FLk RX4 13 4 1 (tyX4 1) true := ⟨RX4, TX4, 4, tyX4, rfl, by decide, inT_X4, tyX4_ok, nmX4, rfl, rfl, (fun _ => rfl), Or.inl t_89⟩
theorem f_X4_13 : FLr RX4 13 4 1 := fk_X4_13.r
theorem ff_X4_13 : FLf RX4 13 4 1 (tyX4 1) := ⟨fk_X4_13, RX4, TX4, 4, rfl, t_89⟩
theorem t_n90 : .fieldLinkNest RX6 77 "MacroWiki$Version" "number" "I" "MacroWiki" ∈ gN := gN_of 90 (by decide +kernel) (by decide +kernel)
theorem f_X6_77 : FLr RX6 77 4 1 := ⟨RX4, TX4, 4, rfl, by decide, inT_X4, Or.inr ⟨_, t_n90⟩⟩
theorem t_91 : .fieldLink RX4 17 "MacroWiki$Version" "text" "LMacroWiki$Text;" ∈ gT := gT_of 132 (by decide +kernel) (by decide +kernel)
theorem fk_X4_17 : FLk RX4 17 4 2 (tyX4 2) true := ⟨RX4, TX4, 4, tyX4, rfl, by decide, inT_X4, tyX4_ok, nmX4, rfl, rfl, (fun _ => rfl), Or.inl t_91⟩
theorem f_X4_17 : FLr RX4 17 4 2 := fk_X4_17.r
theorem ff_X4_17 : FLf RX4 17 4 2 (tyX4 2) := ⟨fk_X4_17, RX4, TX4, 4, rfl, t_91⟩
theorem t_n92 : .fieldLinkNest RX6 113 "MacroWiki$Version" "text" "LMacroWiki$Text;" "MacroWiki" ∈ gN := gN_of 92 (by decide +kernel) (by decide +kernel)
theorem f_X6_113 : FLr RX6 113 4 2 := ⟨RX4, TX4, 4, rfl, by decide, inT_X4, Or.inr ⟨_, t_n92⟩⟩
theorem t_93 : .fieldLink RX4 21 "MacroWiki$Version" "rank" "I" ∈ gT := gT_of 134 (by decide +kernel) (by decide +kernel)
theorem fk_X4_21 : FLk RX4 21 4 3 (tyX4 3) false := ⟨RX4, TX4, 4, tyX4, rfl, by decide, inT_X4, tyX4_ok, nmX4, rfl, rfl, (fun h => nomatch h), Or.inl t_93⟩
theorem f_X4_21 : FLr RX4 21 4 3 := fk_X4_21.r
theorem t_n94 : .fieldLinkNest RX6 110 "MacroWiki$Version" "rank" "I" "MacroWiki" ∈ gN := gN_of 94 (by decide +kernel) (by decide +kernel)
theorem fk_X6_110 : FLk RX6 110 4 3 (tyX4 3) false := ⟨RX4, TX4, 4, tyX4, rfl, by decide, inT_X4, tyX4_ok, nmX4, rfl, rfl, (fun h => nomatch h), Or.inr ⟨_, t_n94⟩⟩
theorem f_X6_110 : FLr RX6 110 4 3 := fk_X6_110.r
theorem t_110 : .fieldLink RX2 9 "MacroWiki$Spread" "needs" "[I" ∈ gT := gT_of 151 (by decide +kernel) (by decide +kernel)
theorem fk_X2_9 : FLk RX2 9 2 0 (tyX2 0) true := ⟨RX2, TX2, 8, tyX2, rfl, by decide, inT_X2, tyX2_ok, nmX2, rfl, rfl, (fun _ => rfl), Or.inl t_110⟩
theorem f_X2_9 : FLr RX2 9 2 0 := fk_X2_9.r
theorem ff_X2_9 : FLf RX2 9 2 0 (tyX2 0) := ⟨fk_X2_9, RX2, TX2, 8, rfl, t_110⟩
theorem t_111 : .fieldLink RX2 15 "MacroWiki$Spread" "sorts" "[I" ∈ gT := gT_of 152 (by decide +kernel) (by decide +kernel)
theorem fk_X2_15 : FLk RX2 15 2 1 (tyX2 1) true := ⟨RX2, TX2, 8, tyX2, rfl, by decide, inT_X2, tyX2_ok, nmX2, rfl, rfl, (fun _ => rfl), Or.inl t_111⟩
theorem f_X2_15 : FLr RX2 15 2 1 := fk_X2_15.r
theorem ff_X2_15 : FLf RX2 15 2 1 (tyX2 1) := ⟨fk_X2_15, RX2, TX2, 8, rfl, t_111⟩
theorem t_112 : .fieldLink RX2 18 "MacroWiki$Spread" "values" "[I" ∈ gT := gT_of 153 (by decide +kernel) (by decide +kernel)
theorem fk_X2_18 : FLk RX2 18 2 2 (tyX2 2) true := ⟨RX2, TX2, 8, tyX2, rfl, by decide, inT_X2, tyX2_ok, nmX2, rfl, rfl, (fun _ => rfl), Or.inl t_112⟩
theorem f_X2_18 : FLr RX2 18 2 2 := fk_X2_18.r
theorem ff_X2_18 : FLf RX2 18 2 2 (tyX2 2) := ⟨fk_X2_18, RX2, TX2, 8, rfl, t_112⟩
theorem t_113 : .fieldLink RX2 21 "MacroWiki$Spread" "sources" "[I" ∈ gT := gT_of 154 (by decide +kernel) (by decide +kernel)
theorem fk_X2_21 : FLk RX2 21 2 3 (tyX2 3) true := ⟨RX2, TX2, 8, tyX2, rfl, by decide, inT_X2, tyX2_ok, nmX2, rfl, rfl, (fun _ => rfl), Or.inl t_113⟩
theorem f_X2_21 : FLr RX2 21 2 3 := fk_X2_21.r
theorem ff_X2_21 : FLf RX2 21 2 3 (tyX2 3) := ⟨fk_X2_21, RX2, TX2, 8, rfl, t_113⟩
theorem t_114 : .fieldLink RX2 24 "MacroWiki$Spread" "size" "I" ∈ gT := gT_of 155 (by decide +kernel) (by decide +kernel)
theorem fk_X2_24 : FLk RX2 24 2 4 (tyX2 4) false := ⟨RX2, TX2, 8, tyX2, rfl, by decide, inT_X2, tyX2_ok, nmX2, rfl, rfl, (fun h => nomatch h), Or.inl t_114⟩
theorem f_X2_24 : FLr RX2 24 2 4 := fk_X2_24.r
theorem t_n115 : .fieldLinkNest RX6 171 "MacroWiki$Spread" "size" "I" "MacroWiki" ∈ gN := gN_of 115 (by decide +kernel) (by decide +kernel)
theorem fk_X6_171 : FLk RX6 171 2 4 (tyX2 4) false := ⟨RX2, TX2, 8, tyX2, rfl, by decide, inT_X2, tyX2_ok, nmX2, rfl, rfl, (fun h => nomatch h), Or.inr ⟨_, t_n115⟩⟩
theorem f_X6_171 : FLr RX6 171 2 4 := fk_X6_171.r
theorem t_116 : .fieldLink RX2 28 "MacroWiki$Spread" "anchors" "I" ∈ gT := gT_of 157 (by decide +kernel) (by decide +kernel)
theorem fk_X2_28 : FLk RX2 28 2 5 (tyX2 5) false := ⟨RX2, TX2, 8, tyX2, rfl, by decide, inT_X2, tyX2_ok, nmX2, rfl, rfl, (fun h => nomatch h), Or.inl t_116⟩
theorem f_X2_28 : FLr RX2 28 2 5 := fk_X2_28.r
theorem t_117 : .fieldLink RX2 31 "MacroWiki$Spread" "openNeeds" "[I" ∈ gT := gT_of 158 (by decide +kernel) (by decide +kernel)
theorem fk_X2_31 : FLk RX2 31 2 6 (tyX2 6) true := ⟨RX2, TX2, 8, tyX2, rfl, by decide, inT_X2, tyX2_ok, nmX2, rfl, rfl, (fun _ => rfl), Or.inl t_117⟩
theorem f_X2_31 : FLr RX2 31 2 6 := fk_X2_31.r
theorem ff_X2_31 : FLf RX2 31 2 6 (tyX2 6) := ⟨fk_X2_31, RX2, TX2, 8, rfl, t_117⟩
theorem t_118 : .fieldLink RX2 34 "MacroWiki$Spread" "openWhens" "I" ∈ gT := gT_of 159 (by decide +kernel) (by decide +kernel)
theorem fk_X2_34 : FLk RX2 34 2 7 (tyX2 7) false := ⟨RX2, TX2, 8, tyX2, rfl, by decide, inT_X2, tyX2_ok, nmX2, rfl, rfl, (fun h => nomatch h), Or.inl t_118⟩
theorem f_X2_34 : FLr RX2 34 2 7 := fk_X2_34.r
theorem t_136 : .fieldLink RX1 17 "MacroWiki$Page" "now" "LMacroWiki$Version;" ∈ gT := gT_of 177 (by decide +kernel) (by decide +kernel)
theorem fk_X1_17 : FLk RX1 17 1 0 (tyX1 0) false := ⟨RX1, TX1, 3, tyX1, rfl, by decide, inT_X1, tyX1_ok, nmX1, rfl, rfl, (fun h => nomatch h), Or.inl t_136⟩
theorem f_X1_17 : FLr RX1 17 1 0 := fk_X1_17.r
theorem t_n137 : .fieldLinkNest RX6 73 "MacroWiki$Page" "now" "LMacroWiki$Version;" "MacroWiki" ∈ gN := gN_of 137 (by decide +kernel) (by decide +kernel)
theorem fk_X6_73 : FLk RX6 73 1 0 (tyX1 0) false := ⟨RX1, TX1, 3, tyX1, rfl, by decide, inT_X1, tyX1_ok, nmX1, rfl, rfl, (fun h => nomatch h), Or.inr ⟨_, t_n137⟩⟩
theorem f_X6_73 : FLr RX6 73 1 0 := fk_X6_73.r
theorem t_138 : .fieldLink RX1 23 "MacroWiki$Page" "lock" "I" ∈ gT := gT_of 179 (by decide +kernel) (by decide +kernel)
theorem fk_X1_23 : FLk RX1 23 1 1 (tyX1 1) false := ⟨RX1, TX1, 3, tyX1, rfl, by decide, inT_X1, tyX1_ok, nmX1, rfl, rfl, (fun h => nomatch h), Or.inl t_138⟩
theorem f_X1_23 : FLr RX1 23 1 1 := fk_X1_23.r
theorem t_n139 : .fieldLinkNest RX6 116 "MacroWiki$Page" "lock" "I" "MacroWiki" ∈ gN := gN_of 139 (by decide +kernel) (by decide +kernel)
theorem fk_X6_116 : FLk RX6 116 1 1 (tyX1 1) false := ⟨RX1, TX1, 3, tyX1, rfl, by decide, inT_X1, tyX1_ok, nmX1, rfl, rfl, (fun h => nomatch h), Or.inr ⟨_, t_n139⟩⟩
theorem f_X6_116 : FLr RX6 116 1 1 := fk_X6_116.r
theorem t_140 : .fieldLink RX1 30 "MacroWiki$Page" "spread" "LMacroWiki$Spread;" ∈ gT := gT_of 181 (by decide +kernel) (by decide +kernel)
theorem fk_X1_30 : FLk RX1 30 1 2 (tyX1 2) true := ⟨RX1, TX1, 3, tyX1, rfl, by decide, inT_X1, tyX1_ok, nmX1, rfl, rfl, (fun _ => rfl), Or.inl t_140⟩
theorem f_X1_30 : FLr RX1 30 1 2 := fk_X1_30.r
theorem ff_X1_30 : FLf RX1 30 1 2 (tyX1 2) := ⟨fk_X1_30, RX1, TX1, 3, rfl, t_140⟩
theorem t_n141 : .fieldLinkNest RX6 129 "MacroWiki$Page" "spread" "LMacroWiki$Spread;" "MacroWiki" ∈ gN := gN_of 141 (by decide +kernel) (by decide +kernel)
theorem f_X6_129 : FLr RX6 129 1 2 := ⟨RX1, TX1, 3, rfl, by decide, inT_X1, Or.inr ⟨_, t_n141⟩⟩
theorem t_149 : .fieldLink RX6 12 "MacroWiki" "draft" "LMacroWiki$Text;" ∈ gT := gT_of 190 (by decide +kernel) (by decide +kernel)
theorem fk_X6_12 : FLk RX6 12 6 0 (tyX6 0) true := ⟨RX6, TX6, 5, tyX6, rfl, by decide, inT_X6, tyX6_ok, nmX6, rfl, rfl, (fun _ => rfl), Or.inl t_149⟩
theorem f_X6_12 : FLr RX6 12 6 0 := fk_X6_12.r
theorem ff_X6_12 : FLf RX6 12 6 0 (tyX6 0) := ⟨fk_X6_12, RX6, TX6, 5, rfl, t_149⟩
theorem t_150 : .fieldLink RX6 32 "MacroWiki" "pages" "[LMacroWiki$Page;" ∈ gT := gT_of 191 (by decide +kernel) (by decide +kernel)
theorem fk_X6_32 : FLk RX6 32 6 1 (tyX6 1) true := ⟨RX6, TX6, 5, tyX6, rfl, by decide, inT_X6, tyX6_ok, nmX6, rfl, rfl, (fun _ => rfl), Or.inl t_150⟩
theorem f_X6_32 : FLr RX6 32 6 1 := fk_X6_32.r
theorem ff_X6_32 : FLf RX6 32 6 1 (tyX6 1) := ⟨fk_X6_32, RX6, TX6, 5, rfl, t_150⟩
theorem t_151 : .fieldLink RX6 16 "MacroWiki" "userRanks" "[I" ∈ gT := gT_of 192 (by decide +kernel) (by decide +kernel)
theorem fk_X6_16 : FLk RX6 16 6 2 (tyX6 2) true := ⟨RX6, TX6, 5, tyX6, rfl, by decide, inT_X6, tyX6_ok, nmX6, rfl, rfl, (fun _ => rfl), Or.inl t_151⟩
theorem f_X6_16 : FLr RX6 16 6 2 := fk_X6_16.r
theorem ff_X6_16 : FLf RX6 16 6 2 (tyX6 2) := ⟨fk_X6_16, RX6, TX6, 5, rfl, t_151⟩
theorem t_152 : .fieldLink RX6 23 "MacroWiki" "net" "LMacroWiki$Net;" ∈ gT := gT_of 193 (by decide +kernel) (by decide +kernel)
theorem fk_X6_23 : FLk RX6 23 6 3 (tyX6 3) false := ⟨RX6, TX6, 5, tyX6, rfl, by decide, inT_X6, tyX6_ok, nmX6, rfl, rfl, (fun h => nomatch h), Or.inl t_152⟩
theorem f_X6_23 : FLr RX6 23 6 3 := fk_X6_23.r
theorem t_153 : .fieldLink RX6 27 "MacroWiki" "trial" "LMacroWiki$Net;" ∈ gT := gT_of 194 (by decide +kernel) (by decide +kernel)
theorem fk_X6_27 : FLk RX6 27 6 4 (tyX6 4) false := ⟨RX6, TX6, 5, tyX6, rfl, by decide, inT_X6, tyX6_ok, nmX6, rfl, rfl, (fun h => nomatch h), Or.inl t_153⟩
theorem f_X6_27 : FLr RX6 27 6 4 := fk_X6_27.r
theorem t_696 : .fieldLink RX5 15 "MacroWiki$Walk" "toGo" "I" ∈ gT := gT_of 737 (by decide +kernel) (by decide +kernel)
theorem fk_X5_15 : FLk RX5 15 5 0 (tyX5 0) false := ⟨RX5, TX5, 2, tyX5, rfl, by decide, inT_X5, tyX5_ok, nmX5, rfl, rfl, (fun h => nomatch h), Or.inl t_696⟩
theorem f_X5_15 : FLr RX5 15 5 0 := fk_X5_15.r
theorem t_697 : .fieldLink RX5 9 "MacroWiki$Walk" "found" "I" ∈ gT := gT_of 738 (by decide +kernel) (by decide +kernel)
theorem fk_X5_9 : FLk RX5 9 5 1 (tyX5 1) false := ⟨RX5, TX5, 2, tyX5, rfl, by decide, inT_X5, tyX5_ok, nmX5, rfl, rfl, (fun h => nomatch h), Or.inl t_697⟩
theorem f_X5_9 : FLr RX5 9 5 1 := fk_X5_9.r
theorem t_n698 : .fieldLinkNest RX6 157 "MacroWiki$Walk" "found" "I" "MacroWiki" ∈ gN := gN_of 698 (by decide +kernel) (by decide +kernel)
theorem fk_X6_157 : FLk RX6 157 5 1 (tyX5 1) false := ⟨RX5, TX5, 2, tyX5, rfl, by decide, inT_X5, tyX5_ok, nmX5, rfl, rfl, (fun h => nomatch h), Or.inr ⟨_, t_n698⟩⟩
theorem f_X6_157 : FLr RX6 157 5 1 := fk_X6_157.r
theorem t_808 : .fieldLink RX7 7 "MacroWikiModel" "draft" "[I" ∈ gT := gT_of 849 (by decide +kernel) (by decide +kernel)
theorem fk_X7_7 : FLk RX7 7 7 0 (tyX7 0) true := ⟨RX7, TX7, 22, tyX7, rfl, by decide, inT_X7, tyX7_ok, nmX7, rfl, rfl, (fun _ => rfl), Or.inl t_808⟩
theorem f_X7_7 : FLr RX7 7 7 0 := fk_X7_7.r
theorem ff_X7_7 : FLf RX7 7 7 0 (tyX7 0) := ⟨fk_X7_7, RX7, TX7, 22, rfl, t_808⟩
theorem t_809 : .fieldLink RX7 72 "MacroWikiModel" "drafted" "I" ∈ gT := gT_of 850 (by decide +kernel) (by decide +kernel)
theorem fk_X7_72 : FLk RX7 72 7 1 (tyX7 1) false := ⟨RX7, TX7, 22, tyX7, rfl, by decide, inT_X7, tyX7_ok, nmX7, rfl, rfl, (fun h => nomatch h), Or.inl t_809⟩
theorem f_X7_72 : FLr RX7 72 7 1 := fk_X7_72.r
theorem t_810 : .fieldLink RX7 94 "MacroWikiModel" "open" "I" ∈ gT := gT_of 851 (by decide +kernel) (by decide +kernel)
theorem fk_X7_94 : FLk RX7 94 7 2 (tyX7 2) false := ⟨RX7, TX7, 22, tyX7, rfl, by decide, inT_X7, tyX7_ok, nmX7, rfl, rfl, (fun h => nomatch h), Or.inl t_810⟩
theorem f_X7_94 : FLr RX7 94 7 2 := fk_X7_94.r
theorem t_811 : .fieldLink RX7 13 "MacroWikiModel" "texts" "[I" ∈ gT := gT_of 852 (by decide +kernel) (by decide +kernel)
theorem fk_X7_13 : FLk RX7 13 7 3 (tyX7 3) true := ⟨RX7, TX7, 22, tyX7, rfl, by decide, inT_X7, tyX7_ok, nmX7, rfl, rfl, (fun _ => rfl), Or.inl t_811⟩
theorem f_X7_13 : FLr RX7 13 7 3 := fk_X7_13.r
theorem ff_X7_13 : FLf RX7 13 7 3 (tyX7 3) := ⟨fk_X7_13, RX7, TX7, 22, rfl, t_811⟩
theorem t_812 : .fieldLink RX7 16 "MacroWikiModel" "sizes" "[I" ∈ gT := gT_of 853 (by decide +kernel) (by decide +kernel)
theorem fk_X7_16 : FLk RX7 16 7 4 (tyX7 4) true := ⟨RX7, TX7, 22, tyX7, rfl, by decide, inT_X7, tyX7_ok, nmX7, rfl, rfl, (fun _ => rfl), Or.inl t_812⟩
theorem f_X7_16 : FLr RX7 16 7 4 := fk_X7_16.r
theorem ff_X7_16 : FLf RX7 16 7 4 (tyX7 4) := ⟨fk_X7_16, RX7, TX7, 22, rfl, t_812⟩
theorem t_813 : .fieldLink RX7 19 "MacroWikiModel" "ranks" "[I" ∈ gT := gT_of 854 (by decide +kernel) (by decide +kernel)
theorem fk_X7_19 : FLk RX7 19 7 5 (tyX7 5) true := ⟨RX7, TX7, 22, tyX7, rfl, by decide, inT_X7, tyX7_ok, nmX7, rfl, rfl, (fun _ => rfl), Or.inl t_813⟩
theorem f_X7_19 : FLr RX7 19 7 5 := fk_X7_19.r
theorem ff_X7_19 : FLf RX7 19 7 5 (tyX7 5) := ⟨fk_X7_19, RX7, TX7, 22, rfl, t_813⟩
theorem t_814 : .fieldLink RX7 22 "MacroWikiModel" "versions" "[I" ∈ gT := gT_of 855 (by decide +kernel) (by decide +kernel)
theorem fk_X7_22 : FLk RX7 22 7 6 (tyX7 6) true := ⟨RX7, TX7, 22, tyX7, rfl, by decide, inT_X7, tyX7_ok, nmX7, rfl, rfl, (fun _ => rfl), Or.inl t_814⟩
theorem f_X7_22 : FLr RX7 22 7 6 := fk_X7_22.r
theorem ff_X7_22 : FLf RX7 22 7 6 (tyX7 6) := ⟨fk_X7_22, RX7, TX7, 22, rfl, t_814⟩
theorem t_815 : .fieldLink RX7 25 "MacroWikiModel" "locks" "[I" ∈ gT := gT_of 856 (by decide +kernel) (by decide +kernel)
theorem fk_X7_25 : FLk RX7 25 7 7 (tyX7 7) true := ⟨RX7, TX7, 22, tyX7, rfl, by decide, inT_X7, tyX7_ok, nmX7, rfl, rfl, (fun _ => rfl), Or.inl t_815⟩
theorem f_X7_25 : FLr RX7 25 7 7 := fk_X7_25.r
theorem ff_X7_25 : FLf RX7 25 7 7 (tyX7 7) := ⟨fk_X7_25, RX7, TX7, 22, rfl, t_815⟩
theorem t_816 : .fieldLink RX7 28 "MacroWikiModel" "userRanks" "[I" ∈ gT := gT_of 857 (by decide +kernel) (by decide +kernel)
theorem fk_X7_28 : FLk RX7 28 7 8 (tyX7 8) true := ⟨RX7, TX7, 22, tyX7, rfl, by decide, inT_X7, tyX7_ok, nmX7, rfl, rfl, (fun _ => rfl), Or.inl t_816⟩
theorem f_X7_28 : FLr RX7 28 7 8 := fk_X7_28.r
theorem ff_X7_28 : FLf RX7 28 7 8 (tyX7 8) := ⟨fk_X7_28, RX7, TX7, 22, rfl, t_816⟩
theorem t_817 : .fieldLink RX7 31 "MacroWikiModel" "calls" "[I" ∈ gT := gT_of 858 (by decide +kernel) (by decide +kernel)
theorem fk_X7_31 : FLk RX7 31 7 9 (tyX7 9) true := ⟨RX7, TX7, 22, tyX7, rfl, by decide, inT_X7, tyX7_ok, nmX7, rfl, rfl, (fun _ => rfl), Or.inl t_817⟩
theorem f_X7_31 : FLr RX7 31 7 9 := fk_X7_31.r
theorem ff_X7_31 : FLf RX7 31 7 9 (tyX7 9) := ⟨fk_X7_31, RX7, TX7, 22, rfl, t_817⟩
theorem t_818 : .fieldLink RX7 34 "MacroWikiModel" "own" "[I" ∈ gT := gT_of 859 (by decide +kernel) (by decide +kernel)
theorem fk_X7_34 : FLk RX7 34 7 10 (tyX7 10) true := ⟨RX7, TX7, 22, tyX7, rfl, by decide, inT_X7, tyX7_ok, nmX7, rfl, rfl, (fun _ => rfl), Or.inl t_818⟩
theorem f_X7_34 : FLr RX7 34 7 10 := fk_X7_34.r
theorem ff_X7_34 : FLf RX7 34 7 10 (tyX7 10) := ⟨fk_X7_34, RX7, TX7, 22, rfl, t_818⟩
theorem t_819 : .fieldLink RX7 37 "MacroWikiModel" "reached" "[I" ∈ gT := gT_of 860 (by decide +kernel) (by decide +kernel)
theorem fk_X7_37 : FLk RX7 37 7 11 (tyX7 11) true := ⟨RX7, TX7, 22, tyX7, rfl, by decide, inT_X7, tyX7_ok, nmX7, rfl, rfl, (fun _ => rfl), Or.inl t_819⟩
theorem f_X7_37 : FLr RX7 37 7 11 := fk_X7_37.r
theorem ff_X7_37 : FLf RX7 37 7 11 (tyX7 11) := ⟨fk_X7_37, RX7, TX7, 22, rfl, t_819⟩
theorem t_820 : .fieldLink RX7 40 "MacroWikiModel" "depths" "[I" ∈ gT := gT_of 861 (by decide +kernel) (by decide +kernel)
theorem fk_X7_40 : FLk RX7 40 7 12 (tyX7 12) true := ⟨RX7, TX7, 22, tyX7, rfl, by decide, inT_X7, tyX7_ok, nmX7, rfl, rfl, (fun _ => rfl), Or.inl t_820⟩
theorem f_X7_40 : FLr RX7 40 7 12 := fk_X7_40.r
theorem ff_X7_40 : FLf RX7 40 7 12 (tyX7 12) := ⟨fk_X7_40, RX7, TX7, 22, rfl, t_820⟩
theorem t_821 : .fieldLink RX7 43 "MacroWikiModel" "extents" "[I" ∈ gT := gT_of 862 (by decide +kernel) (by decide +kernel)
theorem fk_X7_43 : FLk RX7 43 7 13 (tyX7 13) true := ⟨RX7, TX7, 22, tyX7, rfl, by decide, inT_X7, tyX7_ok, nmX7, rfl, rfl, (fun _ => rfl), Or.inl t_821⟩
theorem f_X7_43 : FLr RX7 43 7 13 := fk_X7_43.r
theorem ff_X7_43 : FLf RX7 43 7 13 (tyX7 13) := ⟨fk_X7_43, RX7, TX7, 22, rfl, t_821⟩
theorem t_822 : .fieldLink RX7 46 "MacroWikiModel" "sorts" "[I" ∈ gT := gT_of 863 (by decide +kernel) (by decide +kernel)
theorem fk_X7_46 : FLk RX7 46 7 14 (tyX7 14) true := ⟨RX7, TX7, 22, tyX7, rfl, by decide, inT_X7, tyX7_ok, nmX7, rfl, rfl, (fun _ => rfl), Or.inl t_822⟩
theorem f_X7_46 : FLr RX7 46 7 14 := fk_X7_46.r
theorem ff_X7_46 : FLf RX7 46 7 14 (tyX7 14) := ⟨fk_X7_46, RX7, TX7, 22, rfl, t_822⟩
theorem t_823 : .fieldLink RX7 49 "MacroWikiModel" "values" "[I" ∈ gT := gT_of 864 (by decide +kernel) (by decide +kernel)
theorem fk_X7_49 : FLk RX7 49 7 15 (tyX7 15) true := ⟨RX7, TX7, 22, tyX7, rfl, by decide, inT_X7, tyX7_ok, nmX7, rfl, rfl, (fun _ => rfl), Or.inl t_823⟩
theorem f_X7_49 : FLr RX7 49 7 15 := fk_X7_49.r
theorem ff_X7_49 : FLf RX7 49 7 15 (tyX7 15) := ⟨fk_X7_49, RX7, TX7, 22, rfl, t_823⟩
theorem t_824 : .fieldLink RX7 52 "MacroWikiModel" "sources" "[I" ∈ gT := gT_of 865 (by decide +kernel) (by decide +kernel)
theorem fk_X7_52 : FLk RX7 52 7 16 (tyX7 16) true := ⟨RX7, TX7, 22, tyX7, rfl, by decide, inT_X7, tyX7_ok, nmX7, rfl, rfl, (fun _ => rfl), Or.inl t_824⟩
theorem f_X7_52 : FLr RX7 52 7 16 := fk_X7_52.r
theorem ff_X7_52 : FLf RX7 52 7 16 (tyX7 16) := ⟨fk_X7_52, RX7, TX7, 22, rfl, t_824⟩
theorem t_825 : .fieldLink RX7 131 "MacroWikiModel" "shown" "I" ∈ gT := gT_of 866 (by decide +kernel) (by decide +kernel)
theorem fk_X7_131 : FLk RX7 131 7 17 (tyX7 17) false := ⟨RX7, TX7, 22, tyX7, rfl, by decide, inT_X7, tyX7_ok, nmX7, rfl, rfl, (fun h => nomatch h), Or.inl t_825⟩
theorem f_X7_131 : FLr RX7 131 7 17 := fk_X7_131.r
theorem t_826 : .fieldLink RX7 55 "MacroWikiModel" "pages" "[I" ∈ gT := gT_of 867 (by decide +kernel) (by decide +kernel)
theorem fk_X7_55 : FLk RX7 55 7 18 (tyX7 18) true := ⟨RX7, TX7, 22, tyX7, rfl, by decide, inT_X7, tyX7_ok, nmX7, rfl, rfl, (fun _ => rfl), Or.inl t_826⟩
theorem f_X7_55 : FLr RX7 55 7 18 := fk_X7_55.r
theorem ff_X7_55 : FLf RX7 55 7 18 (tyX7 18) := ⟨fk_X7_55, RX7, TX7, 22, rfl, t_826⟩
theorem t_827 : .fieldLink RX7 58 "MacroWikiModel" "places" "[I" ∈ gT := gT_of 868 (by decide +kernel) (by decide +kernel)
theorem fk_X7_58 : FLk RX7 58 7 19 (tyX7 19) true := ⟨RX7, TX7, 22, tyX7, rfl, by decide, inT_X7, tyX7_ok, nmX7, rfl, rfl, (fun _ => rfl), Or.inl t_827⟩
theorem f_X7_58 : FLr RX7 58 7 19 := fk_X7_58.r
theorem ff_X7_58 : FLf RX7 58 7 19 (tyX7 19) := ⟨fk_X7_58, RX7, TX7, 22, rfl, t_827⟩
theorem t_828 : .fieldLink RX7 61 "MacroWikiModel" "arguments" "[I" ∈ gT := gT_of 869 (by decide +kernel) (by decide +kernel)
theorem fk_X7_61 : FLk RX7 61 7 20 (tyX7 20) true := ⟨RX7, TX7, 22, tyX7, rfl, by decide, inT_X7, tyX7_ok, nmX7, rfl, rfl, (fun _ => rfl), Or.inl t_828⟩
theorem f_X7_61 : FLr RX7 61 7 20 := fk_X7_61.r
theorem ff_X7_61 : FLf RX7 61 7 20 (tyX7 20) := ⟨fk_X7_61, RX7, TX7, 22, rfl, t_828⟩
theorem t_829 : .fieldLink RX7 64 "MacroWikiModel" "last" "I" ∈ gT := gT_of 870 (by decide +kernel) (by decide +kernel)
theorem fk_X7_64 : FLk RX7 64 7 21 (tyX7 21) false := ⟨RX7, TX7, 22, tyX7, rfl, by decide, inT_X7, tyX7_ok, nmX7, rfl, rfl, (fun h => nomatch h), Or.inl t_829⟩
theorem f_X7_64 : FLr RX7 64 7 21 := fk_X7_64.r
theorem t_19 : .methodLink RL 112 yX6_init ∈ gT := gT_of 60 (by decide +kernel) (by decide +kernel)
theorem t_1 : .initialized RX6 ∈ gT := gT_of 42 (by decide +kernel) (by decide +kernel)
theorem t_21 : .code yX6_init cX6_init 2 none ∈ gT := gT_of 62 (by decide +kernel) (by decide +kernel)
theorem t_20 : .instanceMethod yX6_init ∈ gT := gT_of 61 (by decide +kernel) (by decide +kernel)
theorem lk_L_112 : LkI RL 112 yX6_init cX6_init 2 0 := ⟨Or.inl t_19, rfl, t_20, t_1, t_21, ⟨by decide +kernel, by decide +kernel, by decide +kernel⟩⟩
theorem t_22 : .methodLink RX6 3 objectInit ∈ gT := gT_of 63 (by decide +kernel) (by decide +kernel)
theorem t_23 : .instanceMethod objectInit ∈ gT := gT_of 64 (by decide +kernel) (by decide +kernel)
theorem t_24 : .code objectInit ⟨#[0xb1]⟩ 1 none ∈ gT := gT_of 65 (by decide +kernel) (by decide +kernel)
theorem lk_X6_3 : gObj RX6 3 := ⟨t_22, t_23, t_24⟩
theorem t_n27 : .methodLinkNest RX6 11 yX3_init "MacroWiki" ∈ gN := gN_of 27 (by decide +kernel) (by decide +kernel)
theorem t_2 : .initialized RX3 ∈ gT := gT_of 43 (by decide +kernel) (by decide +kernel)
theorem t_29 : .code yX3_init cX3_init 1 none ∈ gT := gT_of 70 (by decide +kernel) (by decide +kernel)
theorem t_28 : .instanceMethod yX3_init ∈ gT := gT_of 69 (by decide +kernel) (by decide +kernel)
theorem lk_X6_11 : LkI RX6 11 yX3_init cX3_init 1 0 := ⟨Or.inr ⟨_, t_n27⟩, rfl, t_28, t_2, t_29, ⟨by decide +kernel, by decide +kernel, by decide +kernel⟩⟩
theorem t_30 : .methodLink RX3 3 objectInit ∈ gT := gT_of 71 (by decide +kernel) (by decide +kernel)
theorem lk_X3_3 : gObj RX3 3 := ⟨t_30, t_23, t_24⟩
theorem t_n52 : .methodLinkNest RX6 22 yX0_init "MacroWiki" ∈ gN := gN_of 52 (by decide +kernel) (by decide +kernel)
theorem t_3 : .initialized RX0 ∈ gT := gT_of 44 (by decide +kernel) (by decide +kernel)
theorem t_54 : .code yX0_init cX0_init 1 none ∈ gT := gT_of 95 (by decide +kernel) (by decide +kernel)
theorem t_53 : .instanceMethod yX0_init ∈ gT := gT_of 94 (by decide +kernel) (by decide +kernel)
theorem lk_X6_22 : LkI RX6 22 yX0_init cX0_init 1 0 := ⟨Or.inr ⟨_, t_n52⟩, rfl, t_53, t_3, t_54, ⟨by decide +kernel, by decide +kernel, by decide +kernel⟩⟩
theorem t_55 : .methodLink RX0 3 objectInit ∈ gT := gT_of 96 (by decide +kernel) (by decide +kernel)
theorem lk_X0_3 : gObj RX0 3 := ⟨t_55, t_23, t_24⟩
theorem t_n75 : .methodLinkNest RX6 36 yX1_init "MacroWiki" ∈ gN := gN_of 75 (by decide +kernel) (by decide +kernel)
theorem t_4 : .initialized RX1 ∈ gT := gT_of 45 (by decide +kernel) (by decide +kernel)
theorem t_77 : .code yX1_init cX1_init 1 none ∈ gT := gT_of 118 (by decide +kernel) (by decide +kernel)
theorem t_76 : .instanceMethod yX1_init ∈ gT := gT_of 117 (by decide +kernel) (by decide +kernel)
theorem lk_X6_36 : LkI RX6 36 yX1_init cX1_init 1 0 := ⟨Or.inr ⟨_, t_n75⟩, rfl, t_76, t_4, t_77, ⟨by decide +kernel, by decide +kernel, by decide +kernel⟩⟩
theorem t_78 : .methodLink RX1 3 objectInit ∈ gT := gT_of 119 (by decide +kernel) (by decide +kernel)
theorem lk_X1_3 : gObj RX1 3 := ⟨t_78, t_23, t_24⟩
theorem t_n82 : .methodLinkNest RX1 13 yX3_init "MacroWiki" ∈ gN := gN_of 82 (by decide +kernel) (by decide +kernel)
theorem lk_X1_13 : LkI RX1 13 yX3_init cX3_init 1 0 := ⟨Or.inr ⟨_, t_n82⟩, rfl, t_28, t_2, t_29, ⟨by decide +kernel, by decide +kernel, by decide +kernel⟩⟩
theorem t_83 : .methodLink RX1 14 yX4_init ∈ gT := gT_of 124 (by decide +kernel) (by decide +kernel)
theorem t_5 : .initialized RX4 ∈ gT := gT_of 46 (by decide +kernel) (by decide +kernel)
theorem t_85 : .code yX4_init cX4_init 5 none ∈ gT := gT_of 126 (by decide +kernel) (by decide +kernel)
theorem t_84 : .instanceMethod yX4_init ∈ gT := gT_of 125 (by decide +kernel) (by decide +kernel)
theorem lk_X1_14 : LkI RX1 14 yX4_init cX4_init 5 4 := ⟨Or.inl t_83, rfl, t_84, t_5, t_85, ⟨by decide +kernel, by decide +kernel, by decide +kernel⟩⟩
theorem t_86 : .methodLink RX4 1 objectInit ∈ gT := gT_of 127 (by decide +kernel) (by decide +kernel)
theorem lk_X4_1 : gObj RX4 1 := ⟨t_86, t_23, t_24⟩
theorem t_n106 : .methodLinkNest RX1 29 yX2_init "MacroWiki" ∈ gN := gN_of 106 (by decide +kernel) (by decide +kernel)
theorem t_6 : .initialized RX2 ∈ gT := gT_of 47 (by decide +kernel) (by decide +kernel)
theorem t_108 : .code yX2_init cX2_init 1 none ∈ gT := gT_of 149 (by decide +kernel) (by decide +kernel)
theorem t_107 : .instanceMethod yX2_init ∈ gT := gT_of 148 (by decide +kernel) (by decide +kernel)
theorem lk_X1_29 : LkI RX1 29 yX2_init cX2_init 1 0 := ⟨Or.inr ⟨_, t_n106⟩, rfl, t_107, t_6, t_108, ⟨by decide +kernel, by decide +kernel, by decide +kernel⟩⟩
theorem t_109 : .methodLink RX2 3 objectInit ∈ gT := gT_of 150 (by decide +kernel) (by decide +kernel)
theorem lk_X2_3 : gObj RX2 3 := ⟨t_109, t_23, t_24⟩
theorem t_165 : .methodLink RL 215 yX6_breached ∈ gT := gT_of 206 (by decide +kernel) (by decide +kernel)
theorem t_168 : .code yX6_breached cX6_breached 3 (some .int) ∈ gT := gT_of 209 (by decide +kernel) (by decide +kernel)
theorem t_166 : .instanceMethod yX6_breached ∈ gT := gT_of 207 (by decide +kernel) (by decide +kernel)
theorem t_167 : .selects RX6 yX6_breached yX6_breached ∈ gT := gT_of 208 (by decide +kernel) (by decide +kernel)
theorem lk_L_215 : LkV RL 215 yX6_breached cX6_breached 3 (some .int) 0 := ⟨t_165, t_166, t_167, t_1, t_168, ⟨by decide +kernel, by decide +kernel, by decide +kernel⟩⟩
theorem t_169 : .methodLink RX6 67 yX6_pageAt ∈ gT := gT_of 210 (by decide +kernel) (by decide +kernel)
theorem t_172 : .code yX6_pageAt cX6_pageAt 3 (some (.object "MacroWiki$Page")) ∈ gT := gT_of 213 (by decide +kernel) (by decide +kernel)
theorem t_171 : .instanceMethod yX6_pageAt ∈ gT := gT_of 212 (by decide +kernel) (by decide +kernel)
theorem ts_0 : .selects RX6 yX6_pageAt yX6_pageAt ∈ gT := gT_of 0 (by decide +kernel) (by decide +kernel)
theorem lk_X6_67 : LkV RX6 67 yX6_pageAt cX6_pageAt 3 (some (.object "MacroWiki$Page")) 1 := ⟨t_169, t_171, ts_0, t_1, t_172, ⟨by decide +kernel, by decide +kernel, by decide +kernel⟩⟩
theorem t_242 : .methodLink RX6 185 yX6_countBreaches ∈ gT := gT_of 283 (by decide +kernel) (by decide +kernel)
theorem t_245 : .code yX6_countBreaches cX6_countBreaches 5 (some .int) ∈ gT := gT_of 286 (by decide +kernel) (by decide +kernel)
theorem t_244 : .instanceMethod yX6_countBreaches ∈ gT := gT_of 285 (by decide +kernel) (by decide +kernel)
theorem ts_2 : .selects RX6 yX6_countBreaches yX6_countBreaches ∈ gT := gT_of 2 (by decide +kernel) (by decide +kernel)
theorem lk_X6_185 : LkV RX6 185 yX6_countBreaches cX6_countBreaches 5 (some .int) 1 := ⟨t_242, t_244, ts_2, t_1, t_245, ⟨by decide +kernel, by decide +kernel, by decide +kernel⟩⟩
theorem t_246 : .methodLink RX6 316 yX2_shows ∈ gT := gT_of 287 (by decide +kernel) (by decide +kernel)
theorem t_249 : .code yX2_shows cX2_shows 4 (some .boolean) ∈ gT := gT_of 290 (by decide +kernel) (by decide +kernel)
theorem t_247 : .instanceMethod yX2_shows ∈ gT := gT_of 288 (by decide +kernel) (by decide +kernel)
theorem t_248 : .selects RX2 yX2_shows yX2_shows ∈ gT := gT_of 289 (by decide +kernel) (by decide +kernel)
theorem lk_X6_316 : LkV RX6 316 yX2_shows cX2_shows 4 (some .boolean) 2 := ⟨t_246, t_247, t_248, t_6, t_249, ⟨by decide +kernel, by decide +kernel, by decide +kernel⟩⟩
theorem t_n250 : .methodLinkNest RX2 49 yX6_at "MacroWiki" ∈ gN := gN_of 250 (by decide +kernel) (by decide +kernel)
theorem t_252 : .code yX6_at cX6_at 2 (some .int) ∈ gT := gT_of 293 (by decide +kernel) (by decide +kernel)
theorem t_251 : .static yX6_at ∈ gT := gT_of 292 (by decide +kernel) (by decide +kernel)
theorem lk_X2_49 : LkN RX2 49 yX6_at cX6_at 2 (some .int) 2 := ⟨⟨_, t_n250⟩, t_251, t_1, t_252, ⟨by decide +kernel, by decide +kernel, by decide +kernel⟩⟩
theorem t_253 : .methodLink RX6 165 yX2_sourceOf ∈ gT := gT_of 294 (by decide +kernel) (by decide +kernel)
theorem t_256 : .code yX2_sourceOf cX2_sourceOf 2 (some .int) ∈ gT := gT_of 297 (by decide +kernel) (by decide +kernel)
theorem t_254 : .instanceMethod yX2_sourceOf ∈ gT := gT_of 295 (by decide +kernel) (by decide +kernel)
theorem t_255 : .selects RX2 yX2_sourceOf yX2_sourceOf ∈ gT := gT_of 296 (by decide +kernel) (by decide +kernel)
theorem lk_X6_165 : LkV RX6 165 yX2_sourceOf cX2_sourceOf 2 (some .int) 1 := ⟨t_253, t_254, t_255, t_6, t_256, ⟨by decide +kernel, by decide +kernel, by decide +kernel⟩⟩
theorem t_257 : .methodLink RL 116 yL_letter ∈ gT := gT_of 298 (by decide +kernel) (by decide +kernel)
theorem t_0 : .initialized RL ∈ gT := gT_of 41 (by decide +kernel) (by decide +kernel)
theorem t_259 : .codeWith yL_letter cL_letter 4 (some .int) [(0, 9, 12, 13), (0, 9, 15, 15)] ∈ gT := gT_of 300 (by decide +kernel) (by decide +kernel)
theorem t_258 : .static yL_letter ∈ gT := gT_of 299 (by decide +kernel) (by decide +kernel)
theorem lk_L_116 : LkH RL 116 yL_letter cL_letter 4 (some .int) [(0, 9, 12, 13), (0, 9, 15, 15)] 3 := ⟨t_257, t_258, t_0, t_259, ⟨by decide +kernel, by decide +kernel, by decide +kernel⟩⟩
theorem t_262 : .methodLink RL 7 yX6_letter ∈ gT := gT_of 303 (by decide +kernel) (by decide +kernel)
theorem t_265 : .code yX6_letter cX6_letter 2 (some .int) ∈ gT := gT_of 306 (by decide +kernel) (by decide +kernel)
theorem t_263 : .instanceMethod yX6_letter ∈ gT := gT_of 304 (by decide +kernel) (by decide +kernel)
theorem t_264 : .selects RX6 yX6_letter yX6_letter ∈ gT := gT_of 305 (by decide +kernel) (by decide +kernel)
theorem lk_L_7 : LkV RL 7 yX6_letter cX6_letter 2 (some .int) 1 := ⟨t_262, t_263, t_264, t_1, t_265, ⟨by decide +kernel, by decide +kernel, by decide +kernel⟩⟩
theorem t_266 : .methodLink RX6 37 yX6_requireBelow ∈ gT := gT_of 307 (by decide +kernel) (by decide +kernel)
theorem t_268 : .code yX6_requireBelow cX6_requireBelow 2 none ∈ gT := gT_of 309 (by decide +kernel) (by decide +kernel)
theorem t_267 : .static yX6_requireBelow ∈ gT := gT_of 308 (by decide +kernel) (by decide +kernel)
theorem lk_X6_37 : LkS RX6 37 yX6_requireBelow cX6_requireBelow 2 none 2 := ⟨t_266, t_267, t_1, t_268, ⟨by decide +kernel, by decide +kernel, by decide +kernel⟩⟩
theorem t_285 : .methodLink RX6 41 yX6_addPiece ∈ gT := gT_of 326 (by decide +kernel) (by decide +kernel)
theorem t_288 : .code yX6_addPiece cX6_addPiece 4 (some .int) ∈ gT := gT_of 329 (by decide +kernel) (by decide +kernel)
theorem t_287 : .instanceMethod yX6_addPiece ∈ gT := gT_of 328 (by decide +kernel) (by decide +kernel)
theorem ts_3 : .selects RX6 yX6_addPiece yX6_addPiece ∈ gT := gT_of 3 (by decide +kernel) (by decide +kernel)
theorem lk_X6_41 : LkV RX6 41 yX6_addPiece cX6_addPiece 4 (some .int) 3 := ⟨t_285, t_287, ts_3, t_1, t_288, ⟨by decide +kernel, by decide +kernel, by decide +kernel⟩⟩
theorem t_305 : .methodLink RX6 211 yX3_add ∈ gT := gT_of 346 (by decide +kernel) (by decide +kernel)
theorem t_308 : .code yX3_add cX3_add 4 none ∈ gT := gT_of 349 (by decide +kernel) (by decide +kernel)
theorem t_306 : .instanceMethod yX3_add ∈ gT := gT_of 347 (by decide +kernel) (by decide +kernel)
theorem t_307 : .selects RX3 yX3_add yX3_add ∈ gT := gT_of 348 (by decide +kernel) (by decide +kernel)
theorem lk_X6_211 : LkV RX6 211 yX3_add cX3_add 4 none 3 := ⟨t_305, t_306, t_307, t_2, t_308, ⟨by decide +kernel, by decide +kernel, by decide +kernel⟩⟩
theorem t_n309 : .methodLinkNest RX3 28 yX6_put "MacroWiki" ∈ gN := gN_of 309 (by decide +kernel) (by decide +kernel)
theorem t_311 : .code yX6_put cX6_put 3 none ∈ gT := gT_of 352 (by decide +kernel) (by decide +kernel)
theorem t_310 : .static yX6_put ∈ gT := gT_of 351 (by decide +kernel) (by decide +kernel)
theorem lk_X3_28 : LkN RX3 28 yX6_put cX6_put 3 none 3 := ⟨⟨_, t_n309⟩, t_310, t_1, t_311, ⟨by decide +kernel, by decide +kernel, by decide +kernel⟩⟩
theorem t_312 : .methodLink RL 125 yL_argument ∈ gT := gT_of 353 (by decide +kernel) (by decide +kernel)
theorem t_314 : .codeWith yL_argument cL_argument 3 (some .int) [(0, 8, 11, 15)] ∈ gT := gT_of 355 (by decide +kernel) (by decide +kernel)
theorem t_313 : .static yL_argument ∈ gT := gT_of 354 (by decide +kernel) (by decide +kernel)
theorem lk_L_125 : LkH RL 125 yL_argument cL_argument 3 (some .int) [(0, 8, 11, 15)] 2 := ⟨t_312, t_313, t_0, t_314, ⟨by decide +kernel, by decide +kernel, by decide +kernel⟩⟩
theorem t_315 : .methodLink RL 17 yX6_argument ∈ gT := gT_of 356 (by decide +kernel) (by decide +kernel)
theorem t_318 : .code yX6_argument cX6_argument 1 (some .int) ∈ gT := gT_of 359 (by decide +kernel) (by decide +kernel)
theorem t_316 : .instanceMethod yX6_argument ∈ gT := gT_of 357 (by decide +kernel) (by decide +kernel)
theorem t_317 : .selects RX6 yX6_argument yX6_argument ∈ gT := gT_of 358 (by decide +kernel) (by decide +kernel)
theorem lk_L_17 : LkV RL 17 yX6_argument cX6_argument 1 (some .int) 0 := ⟨t_315, t_316, t_317, t_1, t_318, ⟨by decide +kernel, by decide +kernel, by decide +kernel⟩⟩
theorem t_319 : .methodLink RL 129 yL_call ∈ gT := gT_of 360 (by decide +kernel) (by decide +kernel)
theorem t_321 : .codeWith yL_call cL_call 5 (some .int) [(0, 10, 13, 25), (0, 10, 17, 13), (0, 10, 21, 15)] ∈ gT := gT_of 362 (by decide +kernel) (by decide +kernel)
theorem t_320 : .static yL_call ∈ gT := gT_of 361 (by decide +kernel) (by decide +kernel)
theorem lk_L_129 : LkH RL 129 yL_call cL_call 5 (some .int) [(0, 10, 13, 25), (0, 10, 17, 13), (0, 10, 21, 15)] 4 := ⟨t_319, t_320, t_0, t_321, ⟨by decide +kernel, by decide +kernel, by decide +kernel⟩⟩
theorem t_323 : .methodLink RL 21 yX6_call ∈ gT := gT_of 364 (by decide +kernel) (by decide +kernel)
theorem t_326 : .code yX6_call cX6_call 3 (some .int) ∈ gT := gT_of 367 (by decide +kernel) (by decide +kernel)
theorem t_324 : .instanceMethod yX6_call ∈ gT := gT_of 365 (by decide +kernel) (by decide +kernel)
theorem t_325 : .selects RX6 yX6_call yX6_call ∈ gT := gT_of 366 (by decide +kernel) (by decide +kernel)
theorem lk_L_21 : LkV RL 21 yX6_call cX6_call 3 (some .int) 2 := ⟨t_323, t_324, t_325, t_1, t_326, ⟨by decide +kernel, by decide +kernel, by decide +kernel⟩⟩
theorem t_327 : .methodLink RX6 45 yX6_requirePage ∈ gT := gT_of 368 (by decide +kernel) (by decide +kernel)
theorem t_329 : .code yX6_requirePage cX6_requirePage 1 none ∈ gT := gT_of 370 (by decide +kernel) (by decide +kernel)
theorem t_328 : .static yX6_requirePage ∈ gT := gT_of 369 (by decide +kernel) (by decide +kernel)
theorem lk_X6_45 : LkS RX6 45 yX6_requirePage cX6_requirePage 1 none 1 := ⟨t_327, t_328, t_1, t_329, ⟨by decide +kernel, by decide +kernel, by decide +kernel⟩⟩
theorem t_330 : .methodLink RX6 49 yX6_requireArgument ∈ gT := gT_of 371 (by decide +kernel) (by decide +kernel)
theorem t_332 : .code yX6_requireArgument cX6_requireArgument 1 none ∈ gT := gT_of 373 (by decide +kernel) (by decide +kernel)
theorem t_331 : .static yX6_requireArgument ∈ gT := gT_of 372 (by decide +kernel) (by decide +kernel)
theorem lk_X6_49 : LkS RX6 49 yX6_requireArgument cX6_requireArgument 1 none 1 := ⟨t_330, t_331, t_1, t_332, ⟨by decide +kernel, by decide +kernel, by decide +kernel⟩⟩
theorem t_333 : .methodLink RL 133 yL_callOn ∈ gT := gT_of 374 (by decide +kernel) (by decide +kernel)
theorem t_335 : .codeWith yL_callOn cL_callOn 4 (some .int) [(0, 9, 12, 25), (0, 9, 15, 15)] ∈ gT := gT_of 376 (by decide +kernel) (by decide +kernel)
theorem t_334 : .static yL_callOn ∈ gT := gT_of 375 (by decide +kernel) (by decide +kernel)
theorem lk_L_133 : LkH RL 133 yL_callOn cL_callOn 4 (some .int) [(0, 9, 12, 25), (0, 9, 15, 15)] 3 := ⟨t_333, t_334, t_0, t_335, ⟨by decide +kernel, by decide +kernel, by decide +kernel⟩⟩
theorem t_336 : .methodLink RL 27 yX6_callOn ∈ gT := gT_of 377 (by decide +kernel) (by decide +kernel)
theorem t_339 : .code yX6_callOn cX6_callOn 2 (some .int) ∈ gT := gT_of 380 (by decide +kernel) (by decide +kernel)
theorem t_337 : .instanceMethod yX6_callOn ∈ gT := gT_of 378 (by decide +kernel) (by decide +kernel)
theorem t_338 : .selects RX6 yX6_callOn yX6_callOn ∈ gT := gT_of 379 (by decide +kernel) (by decide +kernel)
theorem lk_L_27 : LkV RL 27 yX6_callOn cX6_callOn 2 (some .int) 1 := ⟨t_336, t_337, t_338, t_1, t_339, ⟨by decide +kernel, by decide +kernel, by decide +kernel⟩⟩
theorem t_340 : .methodLink RL 136 yL_when ∈ gT := gT_of 381 (by decide +kernel) (by decide +kernel)
theorem t_342 : .codeWith yL_when cL_when 4 (some .int) [(0, 9, 12, 13), (0, 9, 15, 15)] ∈ gT := gT_of 383 (by decide +kernel) (by decide +kernel)
theorem t_341 : .static yL_when ∈ gT := gT_of 382 (by decide +kernel) (by decide +kernel)
theorem lk_L_136 : LkH RL 136 yL_when cL_when 4 (some .int) [(0, 9, 12, 13), (0, 9, 15, 15)] 3 := ⟨t_340, t_341, t_0, t_342, ⟨by decide +kernel, by decide +kernel, by decide +kernel⟩⟩
theorem t_343 : .methodLink RL 30 yX6_when ∈ gT := gT_of 384 (by decide +kernel) (by decide +kernel)
theorem t_346 : .code yX6_when cX6_when 2 (some .int) ∈ gT := gT_of 387 (by decide +kernel) (by decide +kernel)
theorem t_344 : .instanceMethod yX6_when ∈ gT := gT_of 385 (by decide +kernel) (by decide +kernel)
theorem t_345 : .selects RX6 yX6_when yX6_when ∈ gT := gT_of 386 (by decide +kernel) (by decide +kernel)
theorem lk_L_30 : LkV RL 30 yX6_when cX6_when 2 (some .int) 1 := ⟨t_343, t_344, t_345, t_1, t_346, ⟨by decide +kernel, by decide +kernel, by decide +kernel⟩⟩
theorem t_347 : .methodLink RL 139 yL_end ∈ gT := gT_of 388 (by decide +kernel) (by decide +kernel)
theorem t_349 : .codeWith yL_end cL_end 3 (some .int) [(0, 8, 11, 15)] ∈ gT := gT_of 390 (by decide +kernel) (by decide +kernel)
theorem t_348 : .static yL_end ∈ gT := gT_of 389 (by decide +kernel) (by decide +kernel)
theorem lk_L_139 : LkH RL 139 yL_end cL_end 3 (some .int) [(0, 8, 11, 15)] 2 := ⟨t_347, t_348, t_0, t_349, ⟨by decide +kernel, by decide +kernel, by decide +kernel⟩⟩
theorem t_350 : .methodLink RL 33 yX6_end ∈ gT := gT_of 391 (by decide +kernel) (by decide +kernel)
theorem t_353 : .code yX6_end cX6_end 1 (some .int) ∈ gT := gT_of 394 (by decide +kernel) (by decide +kernel)
theorem t_351 : .instanceMethod yX6_end ∈ gT := gT_of 392 (by decide +kernel) (by decide +kernel)
theorem t_352 : .selects RX6 yX6_end yX6_end ∈ gT := gT_of 393 (by decide +kernel) (by decide +kernel)
theorem lk_L_33 : LkV RL 33 yX6_end cX6_end 1 (some .int) 0 := ⟨t_350, t_351, t_352, t_1, t_353, ⟨by decide +kernel, by decide +kernel, by decide +kernel⟩⟩
theorem t_354 : .methodLink RX6 52 yX3_hasOpenWhen ∈ gT := gT_of 395 (by decide +kernel) (by decide +kernel)
theorem t_357 : .code yX3_hasOpenWhen cX3_hasOpenWhen 1 (some .boolean) ∈ gT := gT_of 398 (by decide +kernel) (by decide +kernel)
theorem t_355 : .instanceMethod yX3_hasOpenWhen ∈ gT := gT_of 396 (by decide +kernel) (by decide +kernel)
theorem t_356 : .selects RX3 yX3_hasOpenWhen yX3_hasOpenWhen ∈ gT := gT_of 397 (by decide +kernel) (by decide +kernel)
theorem lk_X6_52 : LkV RX6 52 yX3_hasOpenWhen cX3_hasOpenWhen 1 (some .boolean) 0 := ⟨t_354, t_355, t_356, t_2, t_357, ⟨by decide +kernel, by decide +kernel, by decide +kernel⟩⟩
theorem t_359 : .methodLink RL 142 yL_anchor ∈ gT := gT_of 400 (by decide +kernel) (by decide +kernel)
theorem t_361 : .codeWith yL_anchor cL_anchor 4 (some .int) [(0, 9, 12, 13), (0, 9, 15, 15)] ∈ gT := gT_of 402 (by decide +kernel) (by decide +kernel)
theorem t_360 : .static yL_anchor ∈ gT := gT_of 401 (by decide +kernel) (by decide +kernel)
theorem lk_L_142 : LkH RL 142 yL_anchor cL_anchor 4 (some .int) [(0, 9, 12, 13), (0, 9, 15, 15)] 3 := ⟨t_359, t_360, t_0, t_361, ⟨by decide +kernel, by decide +kernel, by decide +kernel⟩⟩
theorem t_362 : .methodLink RL 36 yX6_anchor ∈ gT := gT_of 403 (by decide +kernel) (by decide +kernel)
theorem t_365 : .code yX6_anchor cX6_anchor 2 (some .int) ∈ gT := gT_of 406 (by decide +kernel) (by decide +kernel)
theorem t_363 : .instanceMethod yX6_anchor ∈ gT := gT_of 404 (by decide +kernel) (by decide +kernel)
theorem t_364 : .selects RX6 yX6_anchor yX6_anchor ∈ gT := gT_of 405 (by decide +kernel) (by decide +kernel)
theorem lk_L_36 : LkV RL 36 yX6_anchor cX6_anchor 2 (some .int) 1 := ⟨t_362, t_363, t_364, t_1, t_365, ⟨by decide +kernel, by decide +kernel, by decide +kernel⟩⟩
theorem t_366 : .methodLink RL 145 yL_link ∈ gT := gT_of 407 (by decide +kernel) (by decide +kernel)
theorem t_368 : .codeWith yL_link cL_link 5 (some .int) [(0, 10, 13, 25), (0, 10, 17, 13), (0, 10, 21, 15)] ∈ gT := gT_of 409 (by decide +kernel) (by decide +kernel)
theorem t_367 : .static yL_link ∈ gT := gT_of 408 (by decide +kernel) (by decide +kernel)
theorem lk_L_145 : LkH RL 145 yL_link cL_link 5 (some .int) [(0, 10, 13, 25), (0, 10, 17, 13), (0, 10, 21, 15)] 4 := ⟨t_366, t_367, t_0, t_368, ⟨by decide +kernel, by decide +kernel, by decide +kernel⟩⟩
theorem t_369 : .methodLink RL 39 yX6_link ∈ gT := gT_of 410 (by decide +kernel) (by decide +kernel)
theorem t_372 : .code yX6_link cX6_link 3 (some .int) ∈ gT := gT_of 413 (by decide +kernel) (by decide +kernel)
theorem t_370 : .instanceMethod yX6_link ∈ gT := gT_of 411 (by decide +kernel) (by decide +kernel)
theorem t_371 : .selects RX6 yX6_link yX6_link ∈ gT := gT_of 412 (by decide +kernel) (by decide +kernel)
theorem lk_L_39 : LkV RL 39 yX6_link cX6_link 3 (some .int) 2 := ⟨t_369, t_370, t_371, t_1, t_372, ⟨by decide +kernel, by decide +kernel, by decide +kernel⟩⟩
theorem t_373 : .methodLink RL 148 yL_redirect ∈ gT := gT_of 414 (by decide +kernel) (by decide +kernel)
theorem t_375 : .codeWith yL_redirect cL_redirect 4 (some .int) [(0, 9, 12, 25), (0, 9, 15, 15)] ∈ gT := gT_of 416 (by decide +kernel) (by decide +kernel)
theorem t_374 : .static yL_redirect ∈ gT := gT_of 415 (by decide +kernel) (by decide +kernel)
theorem lk_L_148 : LkH RL 148 yL_redirect cL_redirect 4 (some .int) [(0, 9, 12, 25), (0, 9, 15, 15)] 3 := ⟨t_373, t_374, t_0, t_375, ⟨by decide +kernel, by decide +kernel, by decide +kernel⟩⟩
theorem t_376 : .methodLink RL 42 yX6_redirect ∈ gT := gT_of 417 (by decide +kernel) (by decide +kernel)
theorem t_379 : .code yX6_redirect cX6_redirect 2 (some .int) ∈ gT := gT_of 420 (by decide +kernel) (by decide +kernel)
theorem t_377 : .instanceMethod yX6_redirect ∈ gT := gT_of 418 (by decide +kernel) (by decide +kernel)
theorem t_378 : .selects RX6 yX6_redirect yX6_redirect ∈ gT := gT_of 419 (by decide +kernel) (by decide +kernel)
theorem lk_L_42 : LkV RL 42 yX6_redirect cX6_redirect 2 (some .int) 1 := ⟨t_376, t_377, t_378, t_1, t_379, ⟨by decide +kernel, by decide +kernel, by decide +kernel⟩⟩
theorem t_380 : .methodLink RL 151 yL_edit ∈ gT := gT_of 421 (by decide +kernel) (by decide +kernel)
theorem t_382 : .codeWith yL_edit cL_edit 5 (some .int) [(0, 10, 13, 25), (0, 10, 17, 15)] ∈ gT := gT_of 423 (by decide +kernel) (by decide +kernel)
theorem t_381 : .static yL_edit ∈ gT := gT_of 422 (by decide +kernel) (by decide +kernel)
theorem lk_L_151 : LkH RL 151 yL_edit cL_edit 5 (some .int) [(0, 10, 13, 25), (0, 10, 17, 15)] 4 := ⟨t_380, t_381, t_0, t_382, ⟨by decide +kernel, by decide +kernel, by decide +kernel⟩⟩
theorem t_383 : .methodLink RL 45 yX6_edit ∈ gT := gT_of 424 (by decide +kernel) (by decide +kernel)
theorem t_386 : .code yX6_edit cX6_edit 7 (some .int) ∈ gT := gT_of 427 (by decide +kernel) (by decide +kernel)
theorem t_384 : .instanceMethod yX6_edit ∈ gT := gT_of 425 (by decide +kernel) (by decide +kernel)
theorem t_385 : .selects RX6 yX6_edit yX6_edit ∈ gT := gT_of 426 (by decide +kernel) (by decide +kernel)
theorem lk_L_45 : LkV RL 45 yX6_edit cX6_edit 7 (some .int) 2 := ⟨t_383, t_384, t_385, t_1, t_386, ⟨by decide +kernel, by decide +kernel, by decide +kernel⟩⟩
theorem t_387 : .methodLink RX6 63 yX6_rankOfUser ∈ gT := gT_of 428 (by decide +kernel) (by decide +kernel)
theorem t_390 : .code yX6_rankOfUser cX6_rankOfUser 2 (some .int) ∈ gT := gT_of 431 (by decide +kernel) (by decide +kernel)
theorem t_389 : .instanceMethod yX6_rankOfUser ∈ gT := gT_of 430 (by decide +kernel) (by decide +kernel)
theorem ts_4 : .selects RX6 yX6_rankOfUser yX6_rankOfUser ∈ gT := gT_of 4 (by decide +kernel) (by decide +kernel)
theorem lk_X6_63 : LkV RX6 63 yX6_rankOfUser cX6_rankOfUser 2 (some .int) 1 := ⟨t_387, t_389, ts_4, t_1, t_390, ⟨by decide +kernel, by decide +kernel, by decide +kernel⟩⟩
theorem t_392 : .methodLink RX6 201 yX6_at ∈ gT := gT_of 433 (by decide +kernel) (by decide +kernel)
theorem lk_X6_201 : LkS RX6 201 yX6_at cX6_at 2 (some .int) 2 := ⟨t_392, t_251, t_1, t_252, ⟨by decide +kernel, by decide +kernel, by decide +kernel⟩⟩
theorem t_395 : .methodLink RX6 85 yX6_forceOn ∈ gT := gT_of 436 (by decide +kernel) (by decide +kernel)
theorem t_398 : .code yX6_forceOn cX6_forceOn 4 (some .int) ∈ gT := gT_of 439 (by decide +kernel) (by decide +kernel)
theorem t_397 : .instanceMethod yX6_forceOn ∈ gT := gT_of 438 (by decide +kernel) (by decide +kernel)
theorem ts_5 : .selects RX6 yX6_forceOn yX6_forceOn ∈ gT := gT_of 5 (by decide +kernel) (by decide +kernel)
theorem lk_X6_85 : LkV RX6 85 yX6_forceOn cX6_forceOn 4 (some .int) 1 := ⟨t_395, t_397, ts_5, t_1, t_398, ⟨by decide +kernel, by decide +kernel, by decide +kernel⟩⟩
theorem t_399 : .methodLink RX6 123 yX0_reachedFrom ∈ gT := gT_of 440 (by decide +kernel) (by decide +kernel)
theorem t_402 : .code yX0_reachedFrom cX0_reachedFrom 2 (some .int) ∈ gT := gT_of 443 (by decide +kernel) (by decide +kernel)
theorem t_400 : .instanceMethod yX0_reachedFrom ∈ gT := gT_of 441 (by decide +kernel) (by decide +kernel)
theorem t_401 : .selects RX0 yX0_reachedFrom yX0_reachedFrom ∈ gT := gT_of 442 (by decide +kernel) (by decide +kernel)
theorem lk_X6_123 : LkV RX6 123 yX0_reachedFrom cX0_reachedFrom 2 (some .int) 1 := ⟨t_399, t_400, t_401, t_3, t_402, ⟨by decide +kernel, by decide +kernel, by decide +kernel⟩⟩
theorem t_n403 : .methodLinkNest RX0 27 yX6_at "MacroWiki" ∈ gN := gN_of 403 (by decide +kernel) (by decide +kernel)
theorem lk_X0_27 : LkN RX0 27 yX6_at cX6_at 2 (some .int) 2 := ⟨⟨_, t_n403⟩, t_251, t_1, t_252, ⟨by decide +kernel, by decide +kernel, by decide +kernel⟩⟩
theorem t_404 : .methodLink RX6 226 yX6_contains ∈ gT := gT_of 445 (by decide +kernel) (by decide +kernel)
theorem t_406 : .code yX6_contains cX6_contains 2 (some .boolean) ∈ gT := gT_of 447 (by decide +kernel) (by decide +kernel)
theorem t_405 : .static yX6_contains ∈ gT := gT_of 446 (by decide +kernel) (by decide +kernel)
theorem lk_X6_226 : LkS RX6 226 yX6_contains cX6_contains 2 (some .boolean) 2 := ⟨t_404, t_405, t_1, t_406, ⟨by decide +kernel, by decide +kernel, by decide +kernel⟩⟩
theorem t_407 : .methodLink RX6 251 Lib.Math.max.name ∈ gT := gT_of 448 (by decide +kernel) (by decide +kernel)
theorem t_408 : .static Lib.Math.max.name ∈ gT := gT_of 449 (by decide +kernel) (by decide +kernel)
theorem t_14 : .initialized "java/lang/Math" ∈ gT := gT_of 55 (by decide +kernel) (by decide +kernel)
theorem t_409 : .code Lib.Math.max.name Lib.Math.max.code 2 (some .int) ∈ gT := gT_of 450 (by decide +kernel) (by decide +kernel)
theorem lk_X6_251 : gMM RX6 251 Lib.Math.max.name Lib.Math.max.code := ⟨t_407, t_408, t_14, t_409⟩
theorem t_410 : .methodLink RX6 88 yX6_refusalOf ∈ gT := gT_of 451 (by decide +kernel) (by decide +kernel)
theorem t_413 : .code yX6_refusalOf cX6_refusalOf 4 (some .int) ∈ gT := gT_of 454 (by decide +kernel) (by decide +kernel)
theorem t_412 : .instanceMethod yX6_refusalOf ∈ gT := gT_of 453 (by decide +kernel) (by decide +kernel)
theorem ts_6 : .selects RX6 yX6_refusalOf yX6_refusalOf ∈ gT := gT_of 6 (by decide +kernel) (by decide +kernel)
theorem lk_X6_88 : LkV RX6 88 yX6_refusalOf cX6_refusalOf 4 (some .int) 2 := ⟨t_410, t_412, ts_6, t_1, t_413, ⟨by decide +kernel, by decide +kernel, by decide +kernel⟩⟩
theorem t_414 : .methodLink RX6 215 yX0_takeCalls ∈ gT := gT_of 455 (by decide +kernel) (by decide +kernel)
theorem t_417 : .code yX0_takeCalls cX0_takeCalls 3 none ∈ gT := gT_of 458 (by decide +kernel) (by decide +kernel)
theorem t_415 : .instanceMethod yX0_takeCalls ∈ gT := gT_of 456 (by decide +kernel) (by decide +kernel)
theorem t_416 : .selects RX0 yX0_takeCalls yX0_takeCalls ∈ gT := gT_of 457 (by decide +kernel) (by decide +kernel)
theorem lk_X6_215 : LkV RX6 215 yX0_takeCalls cX0_takeCalls 3 none 1 := ⟨t_414, t_415, t_416, t_3, t_417, ⟨by decide +kernel, by decide +kernel, by decide +kernel⟩⟩
theorem t_n418 : .methodLinkNest RX0 31 yX6_put "MacroWiki" ∈ gN := gN_of 418 (by decide +kernel) (by decide +kernel)
theorem lk_X0_31 : LkN RX0 31 yX6_put cX6_put 3 none 3 := ⟨⟨_, t_n418⟩, t_310, t_1, t_311, ⟨by decide +kernel, by decide +kernel, by decide +kernel⟩⟩
theorem t_419 : .methodLink RX6 219 yX0_setCalls ∈ gT := gT_of 460 (by decide +kernel) (by decide +kernel)
theorem t_422 : .code yX0_setCalls cX0_setCalls 6 none ∈ gT := gT_of 463 (by decide +kernel) (by decide +kernel)
theorem t_420 : .instanceMethod yX0_setCalls ∈ gT := gT_of 461 (by decide +kernel) (by decide +kernel)
theorem t_421 : .selects RX0 yX0_setCalls yX0_setCalls ∈ gT := gT_of 462 (by decide +kernel) (by decide +kernel)
theorem lk_X6_219 : LkV RX6 219 yX0_setCalls cX0_setCalls 6 none 2 := ⟨t_419, t_420, t_421, t_3, t_422, ⟨by decide +kernel, by decide +kernel, by decide +kernel⟩⟩
theorem t_423 : .methodLink RX0 41 yX3_sortOf ∈ gT := gT_of 464 (by decide +kernel) (by decide +kernel)
theorem t_426 : .code yX3_sortOf cX3_sortOf 2 (some .int) ∈ gT := gT_of 467 (by decide +kernel) (by decide +kernel)
theorem t_424 : .instanceMethod yX3_sortOf ∈ gT := gT_of 465 (by decide +kernel) (by decide +kernel)
theorem t_425 : .selects RX3 yX3_sortOf yX3_sortOf ∈ gT := gT_of 466 (by decide +kernel) (by decide +kernel)
theorem lk_X0_41 : LkV RX0 41 yX3_sortOf cX3_sortOf 2 (some .int) 1 := ⟨t_423, t_424, t_425, t_2, t_426, ⟨by decide +kernel, by decide +kernel, by decide +kernel⟩⟩
theorem t_n427 : .methodLinkNest RX3 46 yX6_at "MacroWiki" ∈ gN := gN_of 427 (by decide +kernel) (by decide +kernel)
theorem lk_X3_46 : LkN RX3 46 yX6_at cX6_at 2 (some .int) 2 := ⟨⟨_, t_n427⟩, t_251, t_1, t_252, ⟨by decide +kernel, by decide +kernel, by decide +kernel⟩⟩
theorem t_428 : .methodLink RX0 45 yX3_pageOf ∈ gT := gT_of 469 (by decide +kernel) (by decide +kernel)
theorem t_431 : .code yX3_pageOf cX3_pageOf 2 (some .int) ∈ gT := gT_of 472 (by decide +kernel) (by decide +kernel)
theorem t_429 : .instanceMethod yX3_pageOf ∈ gT := gT_of 470 (by decide +kernel) (by decide +kernel)
theorem t_430 : .selects RX3 yX3_pageOf yX3_pageOf ∈ gT := gT_of 471 (by decide +kernel) (by decide +kernel)
theorem lk_X0_45 : LkV RX0 45 yX3_pageOf cX3_pageOf 2 (some .int) 1 := ⟨t_428, t_429, t_430, t_2, t_431, ⟨by decide +kernel, by decide +kernel, by decide +kernel⟩⟩
theorem t_432 : .methodLink RX0 48 yX0_callsOf ∈ gT := gT_of 473 (by decide +kernel) (by decide +kernel)
theorem t_435 : .code yX0_callsOf cX0_callsOf 3 (some .int) ∈ gT := gT_of 476 (by decide +kernel) (by decide +kernel)
theorem t_434 : .instanceMethod yX0_callsOf ∈ gT := gT_of 475 (by decide +kernel) (by decide +kernel)
theorem ts_7 : .selects RX0 yX0_callsOf yX0_callsOf ∈ gT := gT_of 7 (by decide +kernel) (by decide +kernel)
theorem lk_X0_48 : LkV RX0 48 yX0_callsOf cX0_callsOf 3 (some .int) 2 := ⟨t_432, t_434, ts_7, t_3, t_435, ⟨by decide +kernel, by decide +kernel, by decide +kernel⟩⟩
theorem t_436 : .methodLink RX6 223 yX0_findReached ∈ gT := gT_of 477 (by decide +kernel) (by decide +kernel)
theorem t_439 : .code yX0_findReached cX0_findReached 4 none ∈ gT := gT_of 480 (by decide +kernel) (by decide +kernel)
theorem t_437 : .instanceMethod yX0_findReached ∈ gT := gT_of 478 (by decide +kernel) (by decide +kernel)
theorem t_438 : .selects RX0 yX0_findReached yX0_findReached ∈ gT := gT_of 479 (by decide +kernel) (by decide +kernel)
theorem lk_X6_223 : LkV RX6 223 yX0_findReached cX0_findReached 4 none 0 := ⟨t_436, t_437, t_438, t_3, t_439, ⟨by decide +kernel, by decide +kernel, by decide +kernel⟩⟩
theorem t_440 : .methodLink RX0 52 yX0_reachedFrom ∈ gT := gT_of 481 (by decide +kernel) (by decide +kernel)
theorem lk_X0_52 : LkV RX0 52 yX0_reachedFrom cX0_reachedFrom 2 (some .int) 1 := ⟨t_440, t_400, t_401, t_3, t_402, ⟨by decide +kernel, by decide +kernel, by decide +kernel⟩⟩
theorem t_n441 : .methodLinkNest RX0 55 yX6_contains "MacroWiki" ∈ gN := gN_of 441 (by decide +kernel) (by decide +kernel)
theorem lk_X0_55 : LkN RX0 55 yX6_contains cX6_contains 2 (some .boolean) 2 := ⟨⟨_, t_n441⟩, t_405, t_1, t_406, ⟨by decide +kernel, by decide +kernel, by decide +kernel⟩⟩
theorem t_442 : .methodLink RX6 229 yX0_findDepths ∈ gT := gT_of 483 (by decide +kernel) (by decide +kernel)
theorem t_445 : .code yX0_findDepths cX0_findDepths 3 none ∈ gT := gT_of 486 (by decide +kernel) (by decide +kernel)
theorem t_443 : .instanceMethod yX0_findDepths ∈ gT := gT_of 484 (by decide +kernel) (by decide +kernel)
theorem t_444 : .selects RX0 yX0_findDepths yX0_findDepths ∈ gT := gT_of 485 (by decide +kernel) (by decide +kernel)
theorem lk_X6_229 : LkV RX6 229 yX0_findDepths cX0_findDepths 3 none 0 := ⟨t_442, t_443, t_444, t_3, t_445, ⟨by decide +kernel, by decide +kernel, by decide +kernel⟩⟩
theorem t_446 : .methodLink RX0 59 yX0_depthOverCalled ∈ gT := gT_of 487 (by decide +kernel) (by decide +kernel)
theorem t_449 : .code yX0_depthOverCalled cX0_depthOverCalled 4 (some .int) ∈ gT := gT_of 490 (by decide +kernel) (by decide +kernel)
theorem t_448 : .instanceMethod yX0_depthOverCalled ∈ gT := gT_of 489 (by decide +kernel) (by decide +kernel)
theorem ts_8 : .selects RX0 yX0_depthOverCalled yX0_depthOverCalled ∈ gT := gT_of 8 (by decide +kernel) (by decide +kernel)
theorem lk_X0_59 : LkV RX0 59 yX0_depthOverCalled cX0_depthOverCalled 4 (some .int) 1 := ⟨t_446, t_448, ts_8, t_3, t_449, ⟨by decide +kernel, by decide +kernel, by decide +kernel⟩⟩
theorem t_450 : .methodLink RX0 62 yX0_depthOf ∈ gT := gT_of 491 (by decide +kernel) (by decide +kernel)
theorem t_453 : .code yX0_depthOf cX0_depthOf 2 (some .int) ∈ gT := gT_of 494 (by decide +kernel) (by decide +kernel)
theorem t_451 : .instanceMethod yX0_depthOf ∈ gT := gT_of 492 (by decide +kernel) (by decide +kernel)
theorem t_452 : .selects RX0 yX0_depthOf yX0_depthOf ∈ gT := gT_of 493 (by decide +kernel) (by decide +kernel)
theorem lk_X0_62 : LkV RX0 62 yX0_depthOf cX0_depthOf 2 (some .int) 1 := ⟨t_450, t_451, t_452, t_3, t_453, ⟨by decide +kernel, by decide +kernel, by decide +kernel⟩⟩
theorem t_454 : .methodLink RX0 65 Lib.Math.max.name ∈ gT := gT_of 495 (by decide +kernel) (by decide +kernel)
theorem lk_X0_65 : gMM RX0 65 Lib.Math.max.name Lib.Math.max.code := ⟨t_454, t_408, t_14, t_409⟩
theorem t_455 : .methodLink RX6 232 yX0_greatestDepth ∈ gT := gT_of 496 (by decide +kernel) (by decide +kernel)
theorem t_458 : .code yX0_greatestDepth cX0_greatestDepth 1 (some .int) ∈ gT := gT_of 499 (by decide +kernel) (by decide +kernel)
theorem t_456 : .instanceMethod yX0_greatestDepth ∈ gT := gT_of 497 (by decide +kernel) (by decide +kernel)
theorem t_457 : .selects RX0 yX0_greatestDepth yX0_greatestDepth ∈ gT := gT_of 498 (by decide +kernel) (by decide +kernel)
theorem lk_X6_232 : LkV RX6 232 yX0_greatestDepth cX0_greatestDepth 1 (some .int) 0 := ⟨t_455, t_456, t_457, t_3, t_458, ⟨by decide +kernel, by decide +kernel, by decide +kernel⟩⟩
theorem t_n459 : .methodLinkNest RX0 79 yX6_greatest "MacroWiki" ∈ gN := gN_of 459 (by decide +kernel) (by decide +kernel)
theorem t_461 : .code yX6_greatest cX6_greatest 3 (some .int) ∈ gT := gT_of 502 (by decide +kernel) (by decide +kernel)
theorem t_460 : .static yX6_greatest ∈ gT := gT_of 501 (by decide +kernel) (by decide +kernel)
theorem lk_X0_79 : LkN RX0 79 yX6_greatest cX6_greatest 3 (some .int) 1 := ⟨⟨_, t_n459⟩, t_460, t_1, t_461, ⟨by decide +kernel, by decide +kernel, by decide +kernel⟩⟩
theorem t_462 : .methodLink RX6 236 yX0_findExtents ∈ gT := gT_of 503 (by decide +kernel) (by decide +kernel)
theorem t_465 : .code yX0_findExtents cX0_findExtents 3 none ∈ gT := gT_of 506 (by decide +kernel) (by decide +kernel)
theorem t_463 : .instanceMethod yX0_findExtents ∈ gT := gT_of 504 (by decide +kernel) (by decide +kernel)
theorem t_464 : .selects RX0 yX0_findExtents yX0_findExtents ∈ gT := gT_of 505 (by decide +kernel) (by decide +kernel)
theorem lk_X6_236 : LkV RX6 236 yX0_findExtents cX0_findExtents 3 none 0 := ⟨t_462, t_463, t_464, t_3, t_465, ⟨by decide +kernel, by decide +kernel, by decide +kernel⟩⟩
theorem t_466 : .methodLink RX0 70 yX0_extentOverCalled ∈ gT := gT_of 507 (by decide +kernel) (by decide +kernel)
theorem t_469 : .code yX0_extentOverCalled cX0_extentOverCalled 4 (some .int) ∈ gT := gT_of 510 (by decide +kernel) (by decide +kernel)
theorem t_468 : .instanceMethod yX0_extentOverCalled ∈ gT := gT_of 509 (by decide +kernel) (by decide +kernel)
theorem ts_9 : .selects RX0 yX0_extentOverCalled yX0_extentOverCalled ∈ gT := gT_of 9 (by decide +kernel) (by decide +kernel)
theorem lk_X0_70 : LkV RX0 70 yX0_extentOverCalled cX0_extentOverCalled 4 (some .int) 1 := ⟨t_466, t_468, ts_9, t_3, t_469, ⟨by decide +kernel, by decide +kernel, by decide +kernel⟩⟩
theorem t_470 : .methodLink RX0 73 yX0_extentOf ∈ gT := gT_of 511 (by decide +kernel) (by decide +kernel)
theorem t_473 : .code yX0_extentOf cX0_extentOf 2 (some .int) ∈ gT := gT_of 514 (by decide +kernel) (by decide +kernel)
theorem t_471 : .instanceMethod yX0_extentOf ∈ gT := gT_of 512 (by decide +kernel) (by decide +kernel)
theorem t_472 : .selects RX0 yX0_extentOf yX0_extentOf ∈ gT := gT_of 513 (by decide +kernel) (by decide +kernel)
theorem lk_X0_73 : LkV RX0 73 yX0_extentOf cX0_extentOf 2 (some .int) 1 := ⟨t_470, t_471, t_472, t_3, t_473, ⟨by decide +kernel, by decide +kernel, by decide +kernel⟩⟩
theorem t_474 : .methodLink RX0 76 Lib.Math.min.name ∈ gT := gT_of 515 (by decide +kernel) (by decide +kernel)
theorem t_475 : .static Lib.Math.min.name ∈ gT := gT_of 516 (by decide +kernel) (by decide +kernel)
theorem t_476 : .code Lib.Math.min.name Lib.Math.min.code 2 (some .int) ∈ gT := gT_of 517 (by decide +kernel) (by decide +kernel)
theorem lk_X0_76 : gMM RX0 76 Lib.Math.min.name Lib.Math.min.code := ⟨t_474, t_475, t_14, t_476⟩
theorem t_477 : .methodLink RX6 239 yX0_greatestExtent ∈ gT := gT_of 518 (by decide +kernel) (by decide +kernel)
theorem t_480 : .code yX0_greatestExtent cX0_greatestExtent 1 (some .int) ∈ gT := gT_of 521 (by decide +kernel) (by decide +kernel)
theorem t_478 : .instanceMethod yX0_greatestExtent ∈ gT := gT_of 519 (by decide +kernel) (by decide +kernel)
theorem t_479 : .selects RX0 yX0_greatestExtent yX0_greatestExtent ∈ gT := gT_of 520 (by decide +kernel) (by decide +kernel)
theorem lk_X6_239 : LkV RX6 239 yX0_greatestExtent cX0_greatestExtent 1 (some .int) 0 := ⟨t_477, t_478, t_479, t_3, t_480, ⟨by decide +kernel, by decide +kernel, by decide +kernel⟩⟩
theorem t_481 : .methodLink RX6 242 yX6_hasRankBelow ∈ gT := gT_of 522 (by decide +kernel) (by decide +kernel)
theorem t_484 : .code yX6_hasRankBelow cX6_hasRankBelow 4 (some .boolean) ∈ gT := gT_of 525 (by decide +kernel) (by decide +kernel)
theorem t_483 : .instanceMethod yX6_hasRankBelow ∈ gT := gT_of 524 (by decide +kernel) (by decide +kernel)
theorem ts_10 : .selects RX6 yX6_hasRankBelow yX6_hasRankBelow ∈ gT := gT_of 10 (by decide +kernel) (by decide +kernel)
theorem lk_X6_242 : LkV RX6 242 yX6_hasRankBelow cX6_hasRankBelow 4 (some .boolean) 2 := ⟨t_481, t_483, ts_10, t_1, t_484, ⟨by decide +kernel, by decide +kernel, by decide +kernel⟩⟩
theorem t_485 : .methodLink RX6 92 yX3_addAll ∈ gT := gT_of 526 (by decide +kernel) (by decide +kernel)
theorem t_488 : .code yX3_addAll cX3_addAll 3 none ∈ gT := gT_of 529 (by decide +kernel) (by decide +kernel)
theorem t_486 : .instanceMethod yX3_addAll ∈ gT := gT_of 527 (by decide +kernel) (by decide +kernel)
theorem t_487 : .selects RX3 yX3_addAll yX3_addAll ∈ gT := gT_of 528 (by decide +kernel) (by decide +kernel)
theorem lk_X6_92 : LkV RX6 92 yX3_addAll cX3_addAll 3 none 1 := ⟨t_485, t_486, t_487, t_2, t_488, ⟨by decide +kernel, by decide +kernel, by decide +kernel⟩⟩
theorem t_489 : .methodLink RX3 32 yX3_sortOf ∈ gT := gT_of 530 (by decide +kernel) (by decide +kernel)
theorem lk_X3_32 : LkV RX3 32 yX3_sortOf cX3_sortOf 2 (some .int) 1 := ⟨t_489, t_424, t_425, t_2, t_426, ⟨by decide +kernel, by decide +kernel, by decide +kernel⟩⟩
theorem t_490 : .methodLink RX3 36 yX3_pageOf ∈ gT := gT_of 531 (by decide +kernel) (by decide +kernel)
theorem lk_X3_36 : LkV RX3 36 yX3_pageOf cX3_pageOf 2 (some .int) 1 := ⟨t_490, t_429, t_430, t_2, t_431, ⟨by decide +kernel, by decide +kernel, by decide +kernel⟩⟩
theorem t_491 : .methodLink RX3 39 yX3_signOf ∈ gT := gT_of 532 (by decide +kernel) (by decide +kernel)
theorem t_494 : .code yX3_signOf cX3_signOf 2 (some .int) ∈ gT := gT_of 535 (by decide +kernel) (by decide +kernel)
theorem t_492 : .instanceMethod yX3_signOf ∈ gT := gT_of 533 (by decide +kernel) (by decide +kernel)
theorem t_493 : .selects RX3 yX3_signOf yX3_signOf ∈ gT := gT_of 534 (by decide +kernel) (by decide +kernel)
theorem lk_X3_39 : LkV RX3 39 yX3_signOf cX3_signOf 2 (some .int) 1 := ⟨t_491, t_492, t_493, t_2, t_494, ⟨by decide +kernel, by decide +kernel, by decide +kernel⟩⟩
theorem t_495 : .methodLink RX3 42 yX3_add ∈ gT := gT_of 536 (by decide +kernel) (by decide +kernel)
theorem lk_X3_42 : LkV RX3 42 yX3_add cX3_add 4 none 3 := ⟨t_495, t_306, t_307, t_2, t_308, ⟨by decide +kernel, by decide +kernel, by decide +kernel⟩⟩
theorem t_497 : .methodLink RX6 96 yX4_init ∈ gT := gT_of 538 (by decide +kernel) (by decide +kernel)
theorem lk_X6_96 : LkI RX6 96 yX4_init cX4_init 5 4 := ⟨Or.inl t_497, rfl, t_84, t_5, t_85, ⟨by decide +kernel, by decide +kernel, by decide +kernel⟩⟩
theorem t_498 : .methodLink RX6 99 yX6_settle ∈ gT := gT_of 539 (by decide +kernel) (by decide +kernel)
theorem t_501 : .code yX6_settle cX6_settle 4 none ∈ gT := gT_of 542 (by decide +kernel) (by decide +kernel)
theorem t_500 : .instanceMethod yX6_settle ∈ gT := gT_of 541 (by decide +kernel) (by decide +kernel)
theorem ts_11 : .selects RX6 yX6_settle yX6_settle ∈ gT := gT_of 11 (by decide +kernel) (by decide +kernel)
theorem lk_X6_99 : LkV RX6 99 yX6_settle cX6_settle 4 none 0 := ⟨t_498, t_500, ts_11, t_1, t_501, ⟨by decide +kernel, by decide +kernel, by decide +kernel⟩⟩
theorem t_502 : .methodLink RX6 245 yX0_depthOf ∈ gT := gT_of 543 (by decide +kernel) (by decide +kernel)
theorem lk_X6_245 : LkV RX6 245 yX0_depthOf cX0_depthOf 2 (some .int) 1 := ⟨t_502, t_451, t_452, t_3, t_453, ⟨by decide +kernel, by decide +kernel, by decide +kernel⟩⟩
theorem t_503 : .methodLink RX6 248 yX6_spreadPage ∈ gT := gT_of 544 (by decide +kernel) (by decide +kernel)
theorem t_506 : .code yX6_spreadPage cX6_spreadPage 6 none ∈ gT := gT_of 547 (by decide +kernel) (by decide +kernel)
theorem t_505 : .instanceMethod yX6_spreadPage ∈ gT := gT_of 546 (by decide +kernel) (by decide +kernel)
theorem ts_12 : .selects RX6 yX6_spreadPage yX6_spreadPage ∈ gT := gT_of 12 (by decide +kernel) (by decide +kernel)
theorem lk_X6_248 : LkV RX6 248 yX6_spreadPage cX6_spreadPage 6 none 1 := ⟨t_503, t_505, ts_12, t_1, t_506, ⟨by decide +kernel, by decide +kernel, by decide +kernel⟩⟩
theorem t_507 : .methodLink RX6 256 yX2_clear ∈ gT := gT_of 548 (by decide +kernel) (by decide +kernel)
theorem t_510 : .code yX2_clear cX2_clear 1 none ∈ gT := gT_of 551 (by decide +kernel) (by decide +kernel)
theorem t_508 : .instanceMethod yX2_clear ∈ gT := gT_of 549 (by decide +kernel) (by decide +kernel)
theorem t_509 : .selects RX2 yX2_clear yX2_clear ∈ gT := gT_of 550 (by decide +kernel) (by decide +kernel)
theorem lk_X6_256 : LkV RX6 256 yX2_clear cX2_clear 1 none 0 := ⟨t_507, t_508, t_509, t_6, t_510, ⟨by decide +kernel, by decide +kernel, by decide +kernel⟩⟩
theorem t_511 : .methodLink RX6 257 yX6_spreadPiece ∈ gT := gT_of 552 (by decide +kernel) (by decide +kernel)
theorem t_514 : .code yX6_spreadPiece cX6_spreadPiece 6 none ∈ gT := gT_of 555 (by decide +kernel) (by decide +kernel)
theorem t_513 : .instanceMethod yX6_spreadPiece ∈ gT := gT_of 554 (by decide +kernel) (by decide +kernel)
theorem ts_13 : .selects RX6 yX6_spreadPiece yX6_spreadPiece ∈ gT := gT_of 13 (by decide +kernel) (by decide +kernel)
theorem lk_X6_257 : LkV RX6 257 yX6_spreadPiece cX6_spreadPiece 6 none 4 := ⟨t_511, t_513, ts_13, t_1, t_514, ⟨by decide +kernel, by decide +kernel, by decide +kernel⟩⟩
theorem t_515 : .methodLink RX6 261 yX3_sortOf ∈ gT := gT_of 556 (by decide +kernel) (by decide +kernel)
theorem lk_X6_261 : LkV RX6 261 yX3_sortOf cX3_sortOf 2 (some .int) 1 := ⟨t_515, t_424, t_425, t_2, t_426, ⟨by decide +kernel, by decide +kernel, by decide +kernel⟩⟩
theorem t_516 : .methodLink RX6 264 yX3_signOf ∈ gT := gT_of 557 (by decide +kernel) (by decide +kernel)
theorem lk_X6_264 : LkV RX6 264 yX3_signOf cX3_signOf 2 (some .int) 1 := ⟨t_516, t_492, t_493, t_2, t_494, ⟨by decide +kernel, by decide +kernel, by decide +kernel⟩⟩
theorem t_517 : .methodLink RX6 267 yX2_openWhen ∈ gT := gT_of 558 (by decide +kernel) (by decide +kernel)
theorem t_520 : .code yX2_openWhen cX2_openWhen 2 none ∈ gT := gT_of 561 (by decide +kernel) (by decide +kernel)
theorem t_518 : .instanceMethod yX2_openWhen ∈ gT := gT_of 559 (by decide +kernel) (by decide +kernel)
theorem t_519 : .selects RX2 yX2_openWhen yX2_openWhen ∈ gT := gT_of 560 (by decide +kernel) (by decide +kernel)
theorem lk_X6_267 : LkV RX6 267 yX2_openWhen cX2_openWhen 2 none 1 := ⟨t_517, t_518, t_519, t_6, t_520, ⟨by decide +kernel, by decide +kernel, by decide +kernel⟩⟩
theorem t_521 : .methodLink RX2 37 yX2_need ∈ gT := gT_of 562 (by decide +kernel) (by decide +kernel)
theorem t_524 : .code yX2_need cX2_need 1 (some .int) ∈ gT := gT_of 565 (by decide +kernel) (by decide +kernel)
theorem t_522 : .instanceMethod yX2_need ∈ gT := gT_of 563 (by decide +kernel) (by decide +kernel)
theorem t_523 : .selects RX2 yX2_need yX2_need ∈ gT := gT_of 564 (by decide +kernel) (by decide +kernel)
theorem lk_X2_37 : LkV RX2 37 yX2_need cX2_need 1 (some .int) 0 := ⟨t_521, t_522, t_523, t_6, t_524, ⟨by decide +kernel, by decide +kernel, by decide +kernel⟩⟩
theorem t_525 : .methodLink RX2 41 yX2_together ∈ gT := gT_of 566 (by decide +kernel) (by decide +kernel)
theorem t_527 : .code yX2_together cX2_together 2 (some .int) ∈ gT := gT_of 568 (by decide +kernel) (by decide +kernel)
theorem t_526 : .static yX2_together ∈ gT := gT_of 567 (by decide +kernel) (by decide +kernel)
theorem lk_X2_41 : LkS RX2 41 yX2_together cX2_together 2 (some .int) 2 := ⟨t_525, t_526, t_6, t_527, ⟨by decide +kernel, by decide +kernel, by decide +kernel⟩⟩
theorem t_n528 : .methodLinkNest RX2 45 yX6_put "MacroWiki" ∈ gN := gN_of 528 (by decide +kernel) (by decide +kernel)
theorem lk_X2_45 : LkN RX2 45 yX6_put cX6_put 3 none 3 := ⟨⟨_, t_n528⟩, t_310, t_1, t_311, ⟨by decide +kernel, by decide +kernel, by decide +kernel⟩⟩
theorem t_529 : .methodLink RX6 270 yX2_closeWhen ∈ gT := gT_of 570 (by decide +kernel) (by decide +kernel)
theorem t_532 : .code yX2_closeWhen cX2_closeWhen 1 none ∈ gT := gT_of 573 (by decide +kernel) (by decide +kernel)
theorem t_530 : .instanceMethod yX2_closeWhen ∈ gT := gT_of 571 (by decide +kernel) (by decide +kernel)
theorem t_531 : .selects RX2 yX2_closeWhen yX2_closeWhen ∈ gT := gT_of 572 (by decide +kernel) (by decide +kernel)
theorem lk_X6_270 : LkV RX6 270 yX2_closeWhen cX2_closeWhen 1 none 0 := ⟨t_529, t_530, t_531, t_6, t_532, ⟨by decide +kernel, by decide +kernel, by decide +kernel⟩⟩
theorem t_533 : .methodLink RX6 273 yX3_pageOf ∈ gT := gT_of 574 (by decide +kernel) (by decide +kernel)
theorem lk_X6_273 : LkV RX6 273 yX3_pageOf cX3_pageOf 2 (some .int) 1 := ⟨t_533, t_429, t_430, t_2, t_431, ⟨by decide +kernel, by decide +kernel, by decide +kernel⟩⟩
theorem t_534 : .methodLink RX6 276 yX2_takeCalled ∈ gT := gT_of 575 (by decide +kernel) (by decide +kernel)
theorem t_537 : .code yX2_takeCalled cX2_takeCalled 4 none ∈ gT := gT_of 578 (by decide +kernel) (by decide +kernel)
theorem t_535 : .instanceMethod yX2_takeCalled ∈ gT := gT_of 576 (by decide +kernel) (by decide +kernel)
theorem t_536 : .selects RX2 yX2_takeCalled yX2_takeCalled ∈ gT := gT_of 577 (by decide +kernel) (by decide +kernel)
theorem lk_X6_276 : LkV RX6 276 yX2_takeCalled cX2_takeCalled 4 none 2 := ⟨t_534, t_535, t_536, t_6, t_537, ⟨by decide +kernel, by decide +kernel, by decide +kernel⟩⟩
theorem t_538 : .methodLink RX2 53 yX2_shows ∈ gT := gT_of 579 (by decide +kernel) (by decide +kernel)
theorem lk_X2_53 : LkV RX2 53 yX2_shows cX2_shows 4 (some .boolean) 2 := ⟨t_538, t_247, t_248, t_6, t_249, ⟨by decide +kernel, by decide +kernel, by decide +kernel⟩⟩
theorem t_539 : .methodLink RX2 57 yX2_itemSort ∈ gT := gT_of 580 (by decide +kernel) (by decide +kernel)
theorem t_542 : .code yX2_itemSort cX2_itemSort 3 (some .int) ∈ gT := gT_of 583 (by decide +kernel) (by decide +kernel)
theorem t_540 : .instanceMethod yX2_itemSort ∈ gT := gT_of 581 (by decide +kernel) (by decide +kernel)
theorem t_541 : .selects RX2 yX2_itemSort yX2_itemSort ∈ gT := gT_of 582 (by decide +kernel) (by decide +kernel)
theorem lk_X2_57 : LkV RX2 57 yX2_itemSort cX2_itemSort 3 (some .int) 1 := ⟨t_539, t_540, t_541, t_6, t_542, ⟨by decide +kernel, by decide +kernel, by decide +kernel⟩⟩
theorem t_543 : .methodLink RX2 61 yX2_itemWith ∈ gT := gT_of 584 (by decide +kernel) (by decide +kernel)
theorem t_546 : .code yX2_itemWith cX2_itemWith 3 (some .int) ∈ gT := gT_of 587 (by decide +kernel) (by decide +kernel)
theorem t_544 : .instanceMethod yX2_itemWith ∈ gT := gT_of 585 (by decide +kernel) (by decide +kernel)
theorem t_545 : .selects RX2 yX2_itemWith yX2_itemWith ∈ gT := gT_of 586 (by decide +kernel) (by decide +kernel)
theorem lk_X2_61 : LkV RX2 61 yX2_itemWith cX2_itemWith 3 (some .int) 2 := ⟨t_543, t_544, t_545, t_6, t_546, ⟨by decide +kernel, by decide +kernel, by decide +kernel⟩⟩
theorem t_547 : .methodLink RX2 64 yX2_sourceOf ∈ gT := gT_of 588 (by decide +kernel) (by decide +kernel)
theorem lk_X2_64 : LkV RX2 64 yX2_sourceOf cX2_sourceOf 2 (some .int) 1 := ⟨t_547, t_254, t_255, t_6, t_256, ⟨by decide +kernel, by decide +kernel, by decide +kernel⟩⟩
theorem t_548 : .methodLink RX2 67 yX2_add ∈ gT := gT_of 589 (by decide +kernel) (by decide +kernel)
theorem t_551 : .code yX2_add cX2_add 5 none ∈ gT := gT_of 592 (by decide +kernel) (by decide +kernel)
theorem t_549 : .instanceMethod yX2_add ∈ gT := gT_of 590 (by decide +kernel) (by decide +kernel)
theorem t_550 : .selects RX2 yX2_add yX2_add ∈ gT := gT_of 591 (by decide +kernel) (by decide +kernel)
theorem lk_X2_67 : LkV RX2 67 yX2_add cX2_add 5 none 4 := ⟨t_548, t_549, t_550, t_6, t_551, ⟨by decide +kernel, by decide +kernel, by decide +kernel⟩⟩
theorem t_552 : .methodLink RX6 280 yX2_takeCalledOn ∈ gT := gT_of 593 (by decide +kernel) (by decide +kernel)
theorem t_555 : .code yX2_takeCalledOn cX2_takeCalledOn 4 none ∈ gT := gT_of 596 (by decide +kernel) (by decide +kernel)
theorem t_553 : .instanceMethod yX2_takeCalledOn ∈ gT := gT_of 594 (by decide +kernel) (by decide +kernel)
theorem t_554 : .selects RX2 yX2_takeCalledOn yX2_takeCalledOn ∈ gT := gT_of 595 (by decide +kernel) (by decide +kernel)
theorem lk_X6_280 : LkV RX6 280 yX2_takeCalledOn cX2_takeCalledOn 4 none 1 := ⟨t_552, t_553, t_554, t_6, t_555, ⟨by decide +kernel, by decide +kernel, by decide +kernel⟩⟩
theorem t_556 : .methodLink RX6 284 yX2_need ∈ gT := gT_of 597 (by decide +kernel) (by decide +kernel)
theorem lk_X6_284 : LkV RX6 284 yX2_need cX2_need 1 (some .int) 0 := ⟨t_556, t_522, t_523, t_6, t_524, ⟨by decide +kernel, by decide +kernel, by decide +kernel⟩⟩
theorem t_557 : .methodLink RX6 287 yX3_itemOf ∈ gT := gT_of 598 (by decide +kernel) (by decide +kernel)
theorem t_560 : .code yX3_itemOf cX3_itemOf 2 (some .int) ∈ gT := gT_of 601 (by decide +kernel) (by decide +kernel)
theorem t_558 : .instanceMethod yX3_itemOf ∈ gT := gT_of 599 (by decide +kernel) (by decide +kernel)
theorem t_559 : .selects RX3 yX3_itemOf yX3_itemOf ∈ gT := gT_of 600 (by decide +kernel) (by decide +kernel)
theorem lk_X6_287 : LkV RX6 287 yX3_itemOf cX3_itemOf 2 (some .int) 1 := ⟨t_557, t_558, t_559, t_2, t_560, ⟨by decide +kernel, by decide +kernel, by decide +kernel⟩⟩
theorem t_561 : .methodLink RX6 290 yX2_add ∈ gT := gT_of 602 (by decide +kernel) (by decide +kernel)
theorem lk_X6_290 : LkV RX6 290 yX2_add cX2_add 5 none 4 := ⟨t_561, t_549, t_550, t_6, t_551, ⟨by decide +kernel, by decide +kernel, by decide +kernel⟩⟩
theorem t_562 : .methodLink RX6 102 yX3_clear ∈ gT := gT_of 603 (by decide +kernel) (by decide +kernel)
theorem t_565 : .code yX3_clear cX3_clear 1 none ∈ gT := gT_of 606 (by decide +kernel) (by decide +kernel)
theorem t_563 : .instanceMethod yX3_clear ∈ gT := gT_of 604 (by decide +kernel) (by decide +kernel)
theorem t_564 : .selects RX3 yX3_clear yX3_clear ∈ gT := gT_of 605 (by decide +kernel) (by decide +kernel)
theorem lk_X6_102 : LkV RX6 102 yX3_clear cX3_clear 1 none 0 := ⟨t_562, t_563, t_564, t_2, t_565, ⟨by decide +kernel, by decide +kernel, by decide +kernel⟩⟩
theorem t_566 : .methodLink RL 154 yL_undo ∈ gT := gT_of 607 (by decide +kernel) (by decide +kernel)
theorem t_568 : .codeWith yL_undo cL_undo 5 (some .int) [(0, 10, 13, 25), (0, 10, 17, 15)] ∈ gT := gT_of 609 (by decide +kernel) (by decide +kernel)
theorem t_567 : .static yL_undo ∈ gT := gT_of 608 (by decide +kernel) (by decide +kernel)
theorem lk_L_154 : LkH RL 154 yL_undo cL_undo 5 (some .int) [(0, 10, 13, 25), (0, 10, 17, 15)] 4 := ⟨t_566, t_567, t_0, t_568, ⟨by decide +kernel, by decide +kernel, by decide +kernel⟩⟩
theorem t_569 : .methodLink RL 48 yX6_undo ∈ gT := gT_of 610 (by decide +kernel) (by decide +kernel)
theorem t_572 : .code yX6_undo cX6_undo 8 (some .int) ∈ gT := gT_of 613 (by decide +kernel) (by decide +kernel)
theorem t_570 : .instanceMethod yX6_undo ∈ gT := gT_of 611 (by decide +kernel) (by decide +kernel)
theorem t_571 : .selects RX6 yX6_undo yX6_undo ∈ gT := gT_of 612 (by decide +kernel) (by decide +kernel)
theorem lk_L_48 : LkV RL 48 yX6_undo cX6_undo 8 (some .int) 2 := ⟨t_569, t_570, t_571, t_1, t_572, ⟨by decide +kernel, by decide +kernel, by decide +kernel⟩⟩
theorem t_574 : .methodLink RL 157 yL_approve ∈ gT := gT_of 615 (by decide +kernel) (by decide +kernel)
theorem t_576 : .codeWith yL_approve cL_approve 5 (some .int) [(0, 17, 20, 25)] ∈ gT := gT_of 617 (by decide +kernel) (by decide +kernel)
theorem t_575 : .static yL_approve ∈ gT := gT_of 616 (by decide +kernel) (by decide +kernel)
theorem lk_L_157 : LkH RL 157 yL_approve cL_approve 5 (some .int) [(0, 17, 20, 25)] 4 := ⟨t_574, t_575, t_0, t_576, ⟨by decide +kernel, by decide +kernel, by decide +kernel⟩⟩
theorem t_577 : .methodLink RL 51 yX6_approve ∈ gT := gT_of 618 (by decide +kernel) (by decide +kernel)
theorem t_580 : .code yX6_approve cX6_approve 5 (some .boolean) ∈ gT := gT_of 621 (by decide +kernel) (by decide +kernel)
theorem t_578 : .instanceMethod yX6_approve ∈ gT := gT_of 619 (by decide +kernel) (by decide +kernel)
theorem t_579 : .selects RX6 yX6_approve yX6_approve ∈ gT := gT_of 620 (by decide +kernel) (by decide +kernel)
theorem lk_L_51 : LkV RL 51 yX6_approve cX6_approve 5 (some .boolean) 2 := ⟨t_577, t_578, t_579, t_1, t_580, ⟨by decide +kernel, by decide +kernel, by decide +kernel⟩⟩
theorem t_581 : .methodLink RL 160 yL_lock ∈ gT := gT_of 622 (by decide +kernel) (by decide +kernel)
theorem t_583 : .codeWith yL_lock cL_lock 6 (some .int) [(0, 12, 15, 25), (0, 12, 19, 13)] ∈ gT := gT_of 624 (by decide +kernel) (by decide +kernel)
theorem t_582 : .static yL_lock ∈ gT := gT_of 623 (by decide +kernel) (by decide +kernel)
theorem lk_L_160 : LkH RL 160 yL_lock cL_lock 6 (some .int) [(0, 12, 15, 25), (0, 12, 19, 13)] 5 := ⟨t_581, t_582, t_0, t_583, ⟨by decide +kernel, by decide +kernel, by decide +kernel⟩⟩
theorem t_584 : .methodLink RL 55 yX6_lock ∈ gT := gT_of 625 (by decide +kernel) (by decide +kernel)
theorem t_587 : .code yX6_lock cX6_lock 7 (some .int) ∈ gT := gT_of 628 (by decide +kernel) (by decide +kernel)
theorem t_585 : .instanceMethod yX6_lock ∈ gT := gT_of 626 (by decide +kernel) (by decide +kernel)
theorem t_586 : .selects RX6 yX6_lock yX6_lock ∈ gT := gT_of 627 (by decide +kernel) (by decide +kernel)
theorem lk_L_55 : LkV RL 55 yX6_lock cX6_lock 7 (some .int) 3 := ⟨t_584, t_585, t_586, t_1, t_587, ⟨by decide +kernel, by decide +kernel, by decide +kernel⟩⟩
theorem t_588 : .methodLink RL 164 yL_setRank ∈ gT := gT_of 629 (by decide +kernel) (by decide +kernel)
theorem t_590 : .codeWith yL_setRank cL_setRank 5 (some .int) [(0, 10, 13, 25), (0, 10, 17, 13)] ∈ gT := gT_of 631 (by decide +kernel) (by decide +kernel)
theorem t_589 : .static yL_setRank ∈ gT := gT_of 630 (by decide +kernel) (by decide +kernel)
theorem lk_L_164 : LkH RL 164 yL_setRank cL_setRank 5 (some .int) [(0, 10, 13, 25), (0, 10, 17, 13)] 4 := ⟨t_588, t_589, t_0, t_590, ⟨by decide +kernel, by decide +kernel, by decide +kernel⟩⟩
theorem t_591 : .methodLink RL 59 yX6_setRank ∈ gT := gT_of 632 (by decide +kernel) (by decide +kernel)
theorem t_594 : .code yX6_setRank cX6_setRank 4 (some .int) ∈ gT := gT_of 635 (by decide +kernel) (by decide +kernel)
theorem t_592 : .instanceMethod yX6_setRank ∈ gT := gT_of 633 (by decide +kernel) (by decide +kernel)
theorem t_593 : .selects RX6 yX6_setRank yX6_setRank ∈ gT := gT_of 634 (by decide +kernel) (by decide +kernel)
theorem lk_L_59 : LkV RL 59 yX6_setRank cX6_setRank 4 (some .int) 2 := ⟨t_591, t_592, t_593, t_1, t_594, ⟨by decide +kernel, by decide +kernel, by decide +kernel⟩⟩
theorem t_595 : .methodLink RX6 119 yX6_put ∈ gT := gT_of 636 (by decide +kernel) (by decide +kernel)
theorem lk_X6_119 : LkS RX6 119 yX6_put cX6_put 3 none 3 := ⟨t_595, t_310, t_1, t_311, ⟨by decide +kernel, by decide +kernel, by decide +kernel⟩⟩
theorem t_596 : .methodLink RL 167 yL_version ∈ gT := gT_of 637 (by decide +kernel) (by decide +kernel)
theorem t_598 : .codeWith yL_version cL_version 4 (some .int) [(0, 9, 12, 25)] ∈ gT := gT_of 639 (by decide +kernel) (by decide +kernel)
theorem t_597 : .static yL_version ∈ gT := gT_of 638 (by decide +kernel) (by decide +kernel)
theorem lk_L_167 : LkH RL 167 yL_version cL_version 4 (some .int) [(0, 9, 12, 25)] 3 := ⟨t_596, t_597, t_0, t_598, ⟨by decide +kernel, by decide +kernel, by decide +kernel⟩⟩
theorem t_599 : .methodLink RL 62 yX6_version ∈ gT := gT_of 640 (by decide +kernel) (by decide +kernel)
theorem t_602 : .code yX6_version cX6_version 2 (some .int) ∈ gT := gT_of 643 (by decide +kernel) (by decide +kernel)
theorem t_600 : .instanceMethod yX6_version ∈ gT := gT_of 641 (by decide +kernel) (by decide +kernel)
theorem t_601 : .selects RX6 yX6_version yX6_version ∈ gT := gT_of 642 (by decide +kernel) (by decide +kernel)
theorem lk_L_62 : LkV RL 62 yX6_version cX6_version 2 (some .int) 1 := ⟨t_599, t_600, t_601, t_1, t_602, ⟨by decide +kernel, by decide +kernel, by decide +kernel⟩⟩
theorem t_603 : .methodLink RL 170 yL_rankOf ∈ gT := gT_of 644 (by decide +kernel) (by decide +kernel)
theorem t_605 : .codeWith yL_rankOf cL_rankOf 4 (some .int) [(0, 9, 12, 25)] ∈ gT := gT_of 646 (by decide +kernel) (by decide +kernel)
theorem t_604 : .static yL_rankOf ∈ gT := gT_of 645 (by decide +kernel) (by decide +kernel)
theorem lk_L_170 : LkH RL 170 yL_rankOf cL_rankOf 4 (some .int) [(0, 9, 12, 25)] 3 := ⟨t_603, t_604, t_0, t_605, ⟨by decide +kernel, by decide +kernel, by decide +kernel⟩⟩
theorem t_606 : .methodLink RL 65 yX6_rankOf ∈ gT := gT_of 647 (by decide +kernel) (by decide +kernel)
theorem t_609 : .code yX6_rankOf cX6_rankOf 2 (some .int) ∈ gT := gT_of 650 (by decide +kernel) (by decide +kernel)
theorem t_607 : .instanceMethod yX6_rankOf ∈ gT := gT_of 648 (by decide +kernel) (by decide +kernel)
theorem t_608 : .selects RX6 yX6_rankOf yX6_rankOf ∈ gT := gT_of 649 (by decide +kernel) (by decide +kernel)
theorem lk_L_65 : LkV RL 65 yX6_rankOf cX6_rankOf 2 (some .int) 1 := ⟨t_606, t_607, t_608, t_1, t_609, ⟨by decide +kernel, by decide +kernel, by decide +kernel⟩⟩
theorem t_610 : .methodLink RL 173 yL_force ∈ gT := gT_of 651 (by decide +kernel) (by decide +kernel)
theorem t_612 : .codeWith yL_force cL_force 4 (some .int) [(0, 9, 12, 25)] ∈ gT := gT_of 653 (by decide +kernel) (by decide +kernel)
theorem t_611 : .static yL_force ∈ gT := gT_of 652 (by decide +kernel) (by decide +kernel)
theorem lk_L_173 : LkH RL 173 yL_force cL_force 4 (some .int) [(0, 9, 12, 25)] 3 := ⟨t_610, t_611, t_0, t_612, ⟨by decide +kernel, by decide +kernel, by decide +kernel⟩⟩
theorem t_613 : .methodLink RL 68 yX6_force ∈ gT := gT_of 654 (by decide +kernel) (by decide +kernel)
theorem t_616 : .code yX6_force cX6_force 2 (some .int) ∈ gT := gT_of 657 (by decide +kernel) (by decide +kernel)
theorem t_614 : .instanceMethod yX6_force ∈ gT := gT_of 655 (by decide +kernel) (by decide +kernel)
theorem t_615 : .selects RX6 yX6_force yX6_force ∈ gT := gT_of 656 (by decide +kernel) (by decide +kernel)
theorem lk_L_68 : LkV RL 68 yX6_force cX6_force 2 (some .int) 1 := ⟨t_613, t_614, t_615, t_1, t_616, ⟨by decide +kernel, by decide +kernel, by decide +kernel⟩⟩
theorem t_617 : .methodLink RL 176 yL_reaches ∈ gT := gT_of 658 (by decide +kernel) (by decide +kernel)
theorem t_619 : .codeWith yL_reaches cL_reaches 4 (some .int) [(0, 9, 12, 25)] ∈ gT := gT_of 660 (by decide +kernel) (by decide +kernel)
theorem t_618 : .static yL_reaches ∈ gT := gT_of 659 (by decide +kernel) (by decide +kernel)
theorem lk_L_176 : LkH RL 176 yL_reaches cL_reaches 4 (some .int) [(0, 9, 12, 25)] 3 := ⟨t_617, t_618, t_0, t_619, ⟨by decide +kernel, by decide +kernel, by decide +kernel⟩⟩
theorem t_620 : .methodLink RL 71 yX6_reaches ∈ gT := gT_of 661 (by decide +kernel) (by decide +kernel)
theorem t_623 : .code yX6_reaches cX6_reaches 2 (some .int) ∈ gT := gT_of 664 (by decide +kernel) (by decide +kernel)
theorem t_621 : .instanceMethod yX6_reaches ∈ gT := gT_of 662 (by decide +kernel) (by decide +kernel)
theorem t_622 : .selects RX6 yX6_reaches yX6_reaches ∈ gT := gT_of 663 (by decide +kernel) (by decide +kernel)
theorem lk_L_71 : LkV RL 71 yX6_reaches cX6_reaches 2 (some .int) 1 := ⟨t_620, t_621, t_622, t_1, t_623, ⟨by decide +kernel, by decide +kernel, by decide +kernel⟩⟩
theorem t_624 : .methodLink RL 179 yL_extent ∈ gT := gT_of 665 (by decide +kernel) (by decide +kernel)
theorem t_626 : .codeWith yL_extent cL_extent 4 (some .int) [(0, 9, 12, 25)] ∈ gT := gT_of 667 (by decide +kernel) (by decide +kernel)
theorem t_625 : .static yL_extent ∈ gT := gT_of 666 (by decide +kernel) (by decide +kernel)
theorem lk_L_179 : LkH RL 179 yL_extent cL_extent 4 (some .int) [(0, 9, 12, 25)] 3 := ⟨t_624, t_625, t_0, t_626, ⟨by decide +kernel, by decide +kernel, by decide +kernel⟩⟩
theorem t_627 : .methodLink RL 74 yX6_extent ∈ gT := gT_of 668 (by decide +kernel) (by decide +kernel)
theorem t_630 : .code yX6_extent cX6_extent 2 (some .int) ∈ gT := gT_of 671 (by decide +kernel) (by decide +kernel)
theorem t_628 : .instanceMethod yX6_extent ∈ gT := gT_of 669 (by decide +kernel) (by decide +kernel)
theorem t_629 : .selects RX6 yX6_extent yX6_extent ∈ gT := gT_of 670 (by decide +kernel) (by decide +kernel)
theorem lk_L_74 : LkV RL 74 yX6_extent cX6_extent 2 (some .int) 1 := ⟨t_627, t_628, t_629, t_1, t_630, ⟨by decide +kernel, by decide +kernel, by decide +kernel⟩⟩
theorem t_631 : .methodLink RX6 126 yX0_extentOf ∈ gT := gT_of 672 (by decide +kernel) (by decide +kernel)
theorem lk_X6_126 : LkV RX6 126 yX0_extentOf cX0_extentOf 2 (some .int) 1 := ⟨t_631, t_471, t_472, t_3, t_473, ⟨by decide +kernel, by decide +kernel, by decide +kernel⟩⟩
theorem t_632 : .methodLink RL 182 yL_items ∈ gT := gT_of 673 (by decide +kernel) (by decide +kernel)
theorem t_634 : .codeWith yL_items cL_items 5 (some .int) [(0, 10, 13, 25), (0, 10, 17, 13)] ∈ gT := gT_of 675 (by decide +kernel) (by decide +kernel)
theorem t_633 : .static yL_items ∈ gT := gT_of 674 (by decide +kernel) (by decide +kernel)
theorem lk_L_182 : LkH RL 182 yL_items cL_items 5 (some .int) [(0, 10, 13, 25), (0, 10, 17, 13)] 4 := ⟨t_632, t_633, t_0, t_634, ⟨by decide +kernel, by decide +kernel, by decide +kernel⟩⟩
theorem t_635 : .methodLink RL 77 yX6_items ∈ gT := gT_of 676 (by decide +kernel) (by decide +kernel)
theorem t_638 : .code yX6_items cX6_items 4 (some .int) ∈ gT := gT_of 679 (by decide +kernel) (by decide +kernel)
theorem t_636 : .instanceMethod yX6_items ∈ gT := gT_of 677 (by decide +kernel) (by decide +kernel)
theorem t_637 : .selects RX6 yX6_items yX6_items ∈ gT := gT_of 678 (by decide +kernel) (by decide +kernel)
theorem lk_L_77 : LkV RL 77 yX6_items cX6_items 4 (some .int) 2 := ⟨t_635, t_636, t_637, t_1, t_638, ⟨by decide +kernel, by decide +kernel, by decide +kernel⟩⟩
theorem t_639 : .methodLink RX6 133 yX2_count ∈ gT := gT_of 680 (by decide +kernel) (by decide +kernel)
theorem t_642 : .code yX2_count cX2_count 4 (some .int) ∈ gT := gT_of 683 (by decide +kernel) (by decide +kernel)
theorem t_640 : .instanceMethod yX2_count ∈ gT := gT_of 681 (by decide +kernel) (by decide +kernel)
theorem t_641 : .selects RX2 yX2_count yX2_count ∈ gT := gT_of 682 (by decide +kernel) (by decide +kernel)
theorem lk_X6_133 : LkV RX6 133 yX2_count cX2_count 4 (some .int) 1 := ⟨t_639, t_640, t_641, t_6, t_642, ⟨by decide +kernel, by decide +kernel, by decide +kernel⟩⟩
theorem t_643 : .methodLink RL 185 yL_sortAt ∈ gT := gT_of 684 (by decide +kernel) (by decide +kernel)
theorem t_645 : .codeWith yL_sortAt cL_sortAt 6 (some .int) [(0, 12, 15, 25), (0, 12, 19, 13), (0, 12, 23, 83)] ∈ gT := gT_of 686 (by decide +kernel) (by decide +kernel)
theorem t_644 : .static yL_sortAt ∈ gT := gT_of 685 (by decide +kernel) (by decide +kernel)
theorem lk_L_185 : LkH RL 185 yL_sortAt cL_sortAt 6 (some .int) [(0, 12, 15, 25), (0, 12, 19, 13), (0, 12, 23, 83)] 5 := ⟨t_643, t_644, t_0, t_645, ⟨by decide +kernel, by decide +kernel, by decide +kernel⟩⟩
theorem t_647 : .methodLink RL 80 yX6_sortAt ∈ gT := gT_of 688 (by decide +kernel) (by decide +kernel)
theorem t_650 : .code yX6_sortAt cX6_sortAt 5 (some .int) ∈ gT := gT_of 691 (by decide +kernel) (by decide +kernel)
theorem t_648 : .instanceMethod yX6_sortAt ∈ gT := gT_of 689 (by decide +kernel) (by decide +kernel)
theorem t_649 : .selects RX6 yX6_sortAt yX6_sortAt ∈ gT := gT_of 690 (by decide +kernel) (by decide +kernel)
theorem lk_L_80 : LkV RL 80 yX6_sortAt cX6_sortAt 5 (some .int) 3 := ⟨t_647, t_648, t_649, t_1, t_650, ⟨by decide +kernel, by decide +kernel, by decide +kernel⟩⟩
theorem t_651 : .methodLink RX6 138 yX6_indexOf ∈ gT := gT_of 692 (by decide +kernel) (by decide +kernel)
theorem t_653 : .code yX6_indexOf cX6_indexOf 4 (some .int) ∈ gT := gT_of 694 (by decide +kernel) (by decide +kernel)
theorem t_652 : .static yX6_indexOf ∈ gT := gT_of 693 (by decide +kernel) (by decide +kernel)
theorem lk_X6_138 : LkS RX6 138 yX6_indexOf cX6_indexOf 4 (some .int) 3 := ⟨t_651, t_652, t_1, t_653, ⟨by decide +kernel, by decide +kernel, by decide +kernel⟩⟩
theorem t_654 : .methodLink RX6 205 yX2_find ∈ gT := gT_of 695 (by decide +kernel) (by decide +kernel)
theorem t_657 : .code yX2_find cX2_find 5 (some .int) ∈ gT := gT_of 698 (by decide +kernel) (by decide +kernel)
theorem t_655 : .instanceMethod yX2_find ∈ gT := gT_of 696 (by decide +kernel) (by decide +kernel)
theorem t_656 : .selects RX2 yX2_find yX2_find ∈ gT := gT_of 697 (by decide +kernel) (by decide +kernel)
theorem lk_X6_205 : LkV RX6 205 yX2_find cX2_find 5 (some .int) 2 := ⟨t_654, t_655, t_656, t_6, t_657, ⟨by decide +kernel, by decide +kernel, by decide +kernel⟩⟩
theorem t_674 : .methodLink RX6 142 yX2_itemSort ∈ gT := gT_of 715 (by decide +kernel) (by decide +kernel)
theorem lk_X6_142 : LkV RX6 142 yX2_itemSort cX2_itemSort 3 (some .int) 1 := ⟨t_674, t_540, t_541, t_6, t_542, ⟨by decide +kernel, by decide +kernel, by decide +kernel⟩⟩
theorem t_675 : .methodLink RL 188 yL_itemAt ∈ gT := gT_of 716 (by decide +kernel) (by decide +kernel)
theorem t_677 : .codeWith yL_itemAt cL_itemAt 6 (some .int) [(0, 12, 15, 25), (0, 12, 19, 13), (0, 12, 23, 83)] ∈ gT := gT_of 718 (by decide +kernel) (by decide +kernel)
theorem t_676 : .static yL_itemAt ∈ gT := gT_of 717 (by decide +kernel) (by decide +kernel)
theorem lk_L_188 : LkH RL 188 yL_itemAt cL_itemAt 6 (some .int) [(0, 12, 15, 25), (0, 12, 19, 13), (0, 12, 23, 83)] 5 := ⟨t_675, t_676, t_0, t_677, ⟨by decide +kernel, by decide +kernel, by decide +kernel⟩⟩
theorem t_678 : .methodLink RL 85 yX6_itemAt ∈ gT := gT_of 719 (by decide +kernel) (by decide +kernel)
theorem t_681 : .code yX6_itemAt cX6_itemAt 5 (some .int) ∈ gT := gT_of 722 (by decide +kernel) (by decide +kernel)
theorem t_679 : .instanceMethod yX6_itemAt ∈ gT := gT_of 720 (by decide +kernel) (by decide +kernel)
theorem t_680 : .selects RX6 yX6_itemAt yX6_itemAt ∈ gT := gT_of 721 (by decide +kernel) (by decide +kernel)
theorem lk_L_85 : LkV RL 85 yX6_itemAt cX6_itemAt 5 (some .int) 3 := ⟨t_678, t_679, t_680, t_1, t_681, ⟨by decide +kernel, by decide +kernel, by decide +kernel⟩⟩
theorem t_682 : .methodLink RX6 145 yX2_itemWith ∈ gT := gT_of 723 (by decide +kernel) (by decide +kernel)
theorem lk_X6_145 : LkV RX6 145 yX2_itemWith cX2_itemWith 3 (some .int) 2 := ⟨t_682, t_544, t_545, t_6, t_546, ⟨by decide +kernel, by decide +kernel, by decide +kernel⟩⟩
theorem t_683 : .methodLink RL 191 yL_itemAnew ∈ gT := gT_of 724 (by decide +kernel) (by decide +kernel)
theorem t_685 : .codeWith yL_itemAnew cL_itemAnew 6 (some .int) [(0, 12, 15, 25), (0, 12, 19, 13), (0, 12, 23, 83)] ∈ gT := gT_of 726 (by decide +kernel) (by decide +kernel)
theorem t_684 : .static yL_itemAnew ∈ gT := gT_of 725 (by decide +kernel) (by decide +kernel)
theorem lk_L_191 : LkH RL 191 yL_itemAnew cL_itemAnew 6 (some .int) [(0, 12, 15, 25), (0, 12, 19, 13), (0, 12, 23, 83)] 5 := ⟨t_683, t_684, t_0, t_685, ⟨by decide +kernel, by decide +kernel, by decide +kernel⟩⟩
theorem t_686 : .methodLink RL 88 yX6_itemAnew ∈ gT := gT_of 727 (by decide +kernel) (by decide +kernel)
theorem t_689 : .code yX6_itemAnew cX6_itemAnew 5 (some .int) ∈ gT := gT_of 730 (by decide +kernel) (by decide +kernel)
theorem t_687 : .instanceMethod yX6_itemAnew ∈ gT := gT_of 728 (by decide +kernel) (by decide +kernel)
theorem t_688 : .selects RX6 yX6_itemAnew yX6_itemAnew ∈ gT := gT_of 729 (by decide +kernel) (by decide +kernel)
theorem lk_L_88 : LkV RL 88 yX6_itemAnew cX6_itemAnew 5 (some .int) 3 := ⟨t_686, t_687, t_688, t_1, t_689, ⟨by decide +kernel, by decide +kernel, by decide +kernel⟩⟩
theorem t_692 : .methodLink RX6 151 yX5_init ∈ gT := gT_of 733 (by decide +kernel) (by decide +kernel)
theorem t_16 : .initialized RX5 ∈ gT := gT_of 57 (by decide +kernel) (by decide +kernel)
theorem t_694 : .code yX5_init cX5_init 2 none ∈ gT := gT_of 735 (by decide +kernel) (by decide +kernel)
theorem t_693 : .instanceMethod yX5_init ∈ gT := gT_of 734 (by decide +kernel) (by decide +kernel)
theorem lk_X6_151 : LkI RX6 151 yX5_init cX5_init 2 1 := ⟨Or.inl t_692, rfl, t_693, t_16, t_694, ⟨by decide +kernel, by decide +kernel, by decide +kernel⟩⟩
theorem t_695 : .methodLink RX5 3 objectInit ∈ gT := gT_of 736 (by decide +kernel) (by decide +kernel)
theorem lk_X5_3 : gObj RX5 3 := ⟨t_695, t_23, t_24⟩
theorem t_704 : .methodLink RX6 153 yX6_walkPage ∈ gT := gT_of 745 (by decide +kernel) (by decide +kernel)
theorem t_707 : .code yX6_walkPage cX6_walkPage 9 none ∈ gT := gT_of 748 (by decide +kernel) (by decide +kernel)
theorem t_706 : .instanceMethod yX6_walkPage ∈ gT := gT_of 747 (by decide +kernel) (by decide +kernel)
theorem ts_14 : .selects RX6 yX6_walkPage yX6_walkPage ∈ gT := gT_of 14 (by decide +kernel) (by decide +kernel)
theorem lk_X6_153 : LkV RX6 153 yX6_walkPage cX6_walkPage 9 none 4 := ⟨t_704, t_706, ts_14, t_1, t_707, ⟨by decide +kernel, by decide +kernel, by decide +kernel⟩⟩
theorem t_708 : .methodLink RX6 293 yX5_isOver ∈ gT := gT_of 749 (by decide +kernel) (by decide +kernel)
theorem t_711 : .code yX5_isOver cX5_isOver 1 (some .boolean) ∈ gT := gT_of 752 (by decide +kernel) (by decide +kernel)
theorem t_709 : .instanceMethod yX5_isOver ∈ gT := gT_of 750 (by decide +kernel) (by decide +kernel)
theorem t_710 : .selects RX5 yX5_isOver yX5_isOver ∈ gT := gT_of 751 (by decide +kernel) (by decide +kernel)
theorem lk_X6_293 : LkV RX6 293 yX5_isOver cX5_isOver 1 (some .boolean) 0 := ⟨t_708, t_709, t_710, t_16, t_711, ⟨by decide +kernel, by decide +kernel, by decide +kernel⟩⟩
theorem t_712 : .methodLink RX6 296 yX6_walkPiece ∈ gT := gT_of 753 (by decide +kernel) (by decide +kernel)
theorem t_715 : .code yX6_walkPiece cX6_walkPiece 6 none ∈ gT := gT_of 756 (by decide +kernel) (by decide +kernel)
theorem t_714 : .instanceMethod yX6_walkPiece ∈ gT := gT_of 755 (by decide +kernel) (by decide +kernel)
theorem ts_15 : .selects RX6 yX6_walkPiece yX6_walkPiece ∈ gT := gT_of 15 (by decide +kernel) (by decide +kernel)
theorem lk_X6_296 : LkV RX6 296 yX6_walkPiece cX6_walkPiece 6 none 5 := ⟨t_712, t_714, ts_15, t_1, t_715, ⟨by decide +kernel, by decide +kernel, by decide +kernel⟩⟩
theorem t_716 : .methodLink RX6 300 yX5_meet ∈ gT := gT_of 757 (by decide +kernel) (by decide +kernel)
theorem t_719 : .code yX5_meet cX5_meet 2 none ∈ gT := gT_of 760 (by decide +kernel) (by decide +kernel)
theorem t_717 : .instanceMethod yX5_meet ∈ gT := gT_of 758 (by decide +kernel) (by decide +kernel)
theorem t_718 : .selects RX5 yX5_meet yX5_meet ∈ gT := gT_of 759 (by decide +kernel) (by decide +kernel)
theorem lk_X6_300 : LkV RX6 300 yX5_meet cX5_meet 2 none 1 := ⟨t_716, t_717, t_718, t_16, t_719, ⟨by decide +kernel, by decide +kernel, by decide +kernel⟩⟩
theorem t_720 : .methodLink RL 194 yL_sourceAt ∈ gT := gT_of 761 (by decide +kernel) (by decide +kernel)
theorem t_722 : .codeWith yL_sourceAt cL_sourceAt 6 (some .int) [(0, 12, 15, 25), (0, 12, 19, 13), (0, 12, 23, 83)] ∈ gT := gT_of 763 (by decide +kernel) (by decide +kernel)
theorem t_721 : .static yL_sourceAt ∈ gT := gT_of 762 (by decide +kernel) (by decide +kernel)
theorem lk_L_194 : LkH RL 194 yL_sourceAt cL_sourceAt 6 (some .int) [(0, 12, 15, 25), (0, 12, 19, 13), (0, 12, 23, 83)] 5 := ⟨t_720, t_721, t_0, t_722, ⟨by decide +kernel, by decide +kernel, by decide +kernel⟩⟩
theorem t_723 : .methodLink RL 91 yX6_sourceAt ∈ gT := gT_of 764 (by decide +kernel) (by decide +kernel)
theorem t_726 : .code yX6_sourceAt cX6_sourceAt 5 (some .int) ∈ gT := gT_of 767 (by decide +kernel) (by decide +kernel)
theorem t_724 : .instanceMethod yX6_sourceAt ∈ gT := gT_of 765 (by decide +kernel) (by decide +kernel)
theorem t_725 : .selects RX6 yX6_sourceAt yX6_sourceAt ∈ gT := gT_of 766 (by decide +kernel) (by decide +kernel)
theorem lk_L_91 : LkV RL 91 yX6_sourceAt cX6_sourceAt 5 (some .int) 3 := ⟨t_723, t_724, t_725, t_1, t_726, ⟨by decide +kernel, by decide +kernel, by decide +kernel⟩⟩
theorem t_727 : .methodLink RL 197 yL_standsFor ∈ gT := gT_of 768 (by decide +kernel) (by decide +kernel)
theorem t_729 : .codeWith yL_standsFor cL_standsFor 4 (some .int) [(0, 9, 12, 25)] ∈ gT := gT_of 770 (by decide +kernel) (by decide +kernel)
theorem t_728 : .static yL_standsFor ∈ gT := gT_of 769 (by decide +kernel) (by decide +kernel)
theorem lk_L_197 : LkH RL 197 yL_standsFor cL_standsFor 4 (some .int) [(0, 9, 12, 25)] 3 := ⟨t_727, t_728, t_0, t_729, ⟨by decide +kernel, by decide +kernel, by decide +kernel⟩⟩
theorem t_730 : .methodLink RL 94 yX6_standsFor ∈ gT := gT_of 771 (by decide +kernel) (by decide +kernel)
theorem t_733 : .code yX6_standsFor cX6_standsFor 2 (some .int) ∈ gT := gT_of 774 (by decide +kernel) (by decide +kernel)
theorem t_731 : .instanceMethod yX6_standsFor ∈ gT := gT_of 772 (by decide +kernel) (by decide +kernel)
theorem t_732 : .selects RX6 yX6_standsFor yX6_standsFor ∈ gT := gT_of 773 (by decide +kernel) (by decide +kernel)
theorem lk_L_94 : LkV RL 94 yX6_standsFor cX6_standsFor 2 (some .int) 1 := ⟨t_730, t_731, t_732, t_1, t_733, ⟨by decide +kernel, by decide +kernel, by decide +kernel⟩⟩
theorem t_734 : .methodLink RX6 168 yX6_behindRedirects ∈ gT := gT_of 775 (by decide +kernel) (by decide +kernel)
theorem t_737 : .code yX6_behindRedirects cX6_behindRedirects 5 (some .int) ∈ gT := gT_of 778 (by decide +kernel) (by decide +kernel)
theorem t_736 : .instanceMethod yX6_behindRedirects ∈ gT := gT_of 777 (by decide +kernel) (by decide +kernel)
theorem ts_16 : .selects RX6 yX6_behindRedirects yX6_behindRedirects ∈ gT := gT_of 16 (by decide +kernel) (by decide +kernel)
theorem lk_X6_168 : LkV RX6 168 yX6_behindRedirects cX6_behindRedirects 5 (some .int) 1 := ⟨t_734, t_736, ts_16, t_1, t_737, ⟨by decide +kernel, by decide +kernel, by decide +kernel⟩⟩
theorem t_738 : .methodLink RX6 303 yX3_isRedirectAlone ∈ gT := gT_of 779 (by decide +kernel) (by decide +kernel)
theorem t_741 : .code yX3_isRedirectAlone cX3_isRedirectAlone 1 (some .boolean) ∈ gT := gT_of 782 (by decide +kernel) (by decide +kernel)
theorem t_739 : .instanceMethod yX3_isRedirectAlone ∈ gT := gT_of 780 (by decide +kernel) (by decide +kernel)
theorem t_740 : .selects RX3 yX3_isRedirectAlone yX3_isRedirectAlone ∈ gT := gT_of 781 (by decide +kernel) (by decide +kernel)
theorem lk_X6_303 : LkV RX6 303 yX3_isRedirectAlone cX3_isRedirectAlone 1 (some .boolean) 0 := ⟨t_738, t_739, t_740, t_2, t_741, ⟨by decide +kernel, by decide +kernel, by decide +kernel⟩⟩
theorem t_742 : .methodLink RL 200 yL_links ∈ gT := gT_of 783 (by decide +kernel) (by decide +kernel)
theorem t_744 : .codeWith yL_links cL_links 4 (some .int) [(0, 9, 12, 25)] ∈ gT := gT_of 785 (by decide +kernel) (by decide +kernel)
theorem t_743 : .static yL_links ∈ gT := gT_of 784 (by decide +kernel) (by decide +kernel)
theorem lk_L_200 : LkH RL 200 yL_links cL_links 4 (some .int) [(0, 9, 12, 25)] 3 := ⟨t_742, t_743, t_0, t_744, ⟨by decide +kernel, by decide +kernel, by decide +kernel⟩⟩
theorem t_745 : .methodLink RL 97 yX6_links ∈ gT := gT_of 786 (by decide +kernel) (by decide +kernel)
theorem t_748 : .code yX6_links cX6_links 5 (some .int) ∈ gT := gT_of 789 (by decide +kernel) (by decide +kernel)
theorem t_746 : .instanceMethod yX6_links ∈ gT := gT_of 787 (by decide +kernel) (by decide +kernel)
theorem t_747 : .selects RX6 yX6_links yX6_links ∈ gT := gT_of 788 (by decide +kernel) (by decide +kernel)
theorem lk_L_97 : LkV RL 97 yX6_links cX6_links 5 (some .int) 1 := ⟨t_745, t_746, t_747, t_1, t_748, ⟨by decide +kernel, by decide +kernel, by decide +kernel⟩⟩
theorem t_749 : .methodLink RX6 174 yX2_showsSort ∈ gT := gT_of 790 (by decide +kernel) (by decide +kernel)
theorem t_752 : .code yX2_showsSort cX2_showsSort 3 (some .boolean) ∈ gT := gT_of 793 (by decide +kernel) (by decide +kernel)
theorem t_750 : .instanceMethod yX2_showsSort ∈ gT := gT_of 791 (by decide +kernel) (by decide +kernel)
theorem t_751 : .selects RX2 yX2_showsSort yX2_showsSort ∈ gT := gT_of 792 (by decide +kernel) (by decide +kernel)
theorem lk_X6_174 : LkV RX6 174 yX2_showsSort cX2_showsSort 3 (some .boolean) 2 := ⟨t_749, t_750, t_751, t_6, t_752, ⟨by decide +kernel, by decide +kernel, by decide +kernel⟩⟩
theorem t_753 : .methodLink RL 203 yL_broken ∈ gT := gT_of 794 (by decide +kernel) (by decide +kernel)
theorem t_755 : .codeWith yL_broken cL_broken 4 (some .int) [(0, 9, 12, 25)] ∈ gT := gT_of 796 (by decide +kernel) (by decide +kernel)
theorem t_754 : .static yL_broken ∈ gT := gT_of 795 (by decide +kernel) (by decide +kernel)
theorem lk_L_203 : LkH RL 203 yL_broken cL_broken 4 (some .int) [(0, 9, 12, 25)] 3 := ⟨t_753, t_754, t_0, t_755, ⟨by decide +kernel, by decide +kernel, by decide +kernel⟩⟩
theorem t_756 : .methodLink RL 100 yX6_broken ∈ gT := gT_of 797 (by decide +kernel) (by decide +kernel)
theorem t_759 : .code yX6_broken cX6_broken 5 (some .int) ∈ gT := gT_of 800 (by decide +kernel) (by decide +kernel)
theorem t_757 : .instanceMethod yX6_broken ∈ gT := gT_of 798 (by decide +kernel) (by decide +kernel)
theorem t_758 : .selects RX6 yX6_broken yX6_broken ∈ gT := gT_of 799 (by decide +kernel) (by decide +kernel)
theorem lk_L_100 : LkV RL 100 yX6_broken cX6_broken 5 (some .int) 1 := ⟨t_756, t_757, t_758, t_1, t_759, ⟨by decide +kernel, by decide +kernel, by decide +kernel⟩⟩
theorem t_760 : .methodLink RX6 178 yX6_isBroken ∈ gT := gT_of 801 (by decide +kernel) (by decide +kernel)
theorem t_763 : .code yX6_isBroken cX6_isBroken 3 (some .boolean) ∈ gT := gT_of 804 (by decide +kernel) (by decide +kernel)
theorem t_762 : .instanceMethod yX6_isBroken ∈ gT := gT_of 803 (by decide +kernel) (by decide +kernel)
theorem ts_17 : .selects RX6 yX6_isBroken yX6_isBroken ∈ gT := gT_of 17 (by decide +kernel) (by decide +kernel)
theorem lk_X6_178 : LkV RX6 178 yX6_isBroken cX6_isBroken 3 (some .boolean) 2 := ⟨t_760, t_762, ts_17, t_1, t_763, ⟨by decide +kernel, by decide +kernel, by decide +kernel⟩⟩
theorem t_764 : .methodLink RX6 306 yX6_isGood ∈ gT := gT_of 805 (by decide +kernel) (by decide +kernel)
theorem t_767 : .code yX6_isGood cX6_isGood 3 (some .boolean) ∈ gT := gT_of 808 (by decide +kernel) (by decide +kernel)
theorem t_766 : .instanceMethod yX6_isGood ∈ gT := gT_of 807 (by decide +kernel) (by decide +kernel)
theorem ts_18 : .selects RX6 yX6_isGood yX6_isGood ∈ gT := gT_of 18 (by decide +kernel) (by decide +kernel)
theorem lk_X6_306 : LkV RX6 306 yX6_isGood cX6_isGood 3 (some .boolean) 1 := ⟨t_764, t_766, ts_18, t_1, t_767, ⟨by decide +kernel, by decide +kernel, by decide +kernel⟩⟩
theorem t_768 : .methodLink RX6 310 yX2_hasAnchor ∈ gT := gT_of 809 (by decide +kernel) (by decide +kernel)
theorem t_771 : .code yX2_hasAnchor cX2_hasAnchor 2 (some .boolean) ∈ gT := gT_of 812 (by decide +kernel) (by decide +kernel)
theorem t_769 : .instanceMethod yX2_hasAnchor ∈ gT := gT_of 810 (by decide +kernel) (by decide +kernel)
theorem t_770 : .selects RX2 yX2_hasAnchor yX2_hasAnchor ∈ gT := gT_of 811 (by decide +kernel) (by decide +kernel)
theorem lk_X6_310 : LkV RX6 310 yX2_hasAnchor cX2_hasAnchor 2 (some .boolean) 1 := ⟨t_768, t_769, t_770, t_6, t_771, ⟨by decide +kernel, by decide +kernel, by decide +kernel⟩⟩
theorem t_n772 : .methodLinkNest RX2 71 yX6_contains "MacroWiki" ∈ gN := gN_of 772 (by decide +kernel) (by decide +kernel)
theorem lk_X2_71 : LkN RX2 71 yX6_contains cX6_contains 2 (some .boolean) 2 := ⟨⟨_, t_n772⟩, t_405, t_1, t_406, ⟨by decide +kernel, by decide +kernel, by decide +kernel⟩⟩
theorem t_773 : .methodLink RL 206 yL_firstBroken ∈ gT := gT_of 814 (by decide +kernel) (by decide +kernel)
theorem t_775 : .codeWith yL_firstBroken cL_firstBroken 4 (some .int) [(0, 9, 12, 25)] ∈ gT := gT_of 816 (by decide +kernel) (by decide +kernel)
theorem t_774 : .static yL_firstBroken ∈ gT := gT_of 815 (by decide +kernel) (by decide +kernel)
theorem lk_L_206 : LkH RL 206 yL_firstBroken cL_firstBroken 4 (some .int) [(0, 9, 12, 25)] 3 := ⟨t_773, t_774, t_0, t_775, ⟨by decide +kernel, by decide +kernel, by decide +kernel⟩⟩
theorem t_776 : .methodLink RL 103 yX6_firstBroken ∈ gT := gT_of 817 (by decide +kernel) (by decide +kernel)
theorem t_779 : .code yX6_firstBroken cX6_firstBroken 4 (some .int) ∈ gT := gT_of 820 (by decide +kernel) (by decide +kernel)
theorem t_777 : .instanceMethod yX6_firstBroken ∈ gT := gT_of 818 (by decide +kernel) (by decide +kernel)
theorem t_778 : .selects RX6 yX6_firstBroken yX6_firstBroken ∈ gT := gT_of 819 (by decide +kernel) (by decide +kernel)
theorem lk_L_103 : LkV RL 103 yX6_firstBroken cX6_firstBroken 4 (some .int) 1 := ⟨t_776, t_777, t_778, t_1, t_779, ⟨by decide +kernel, by decide +kernel, by decide +kernel⟩⟩
theorem t_780 : .methodLink RL 209 yL_linkedFrom ∈ gT := gT_of 821 (by decide +kernel) (by decide +kernel)
theorem t_782 : .codeWith yL_linkedFrom cL_linkedFrom 4 (some .int) [(0, 9, 12, 25)] ∈ gT := gT_of 823 (by decide +kernel) (by decide +kernel)
theorem t_781 : .static yL_linkedFrom ∈ gT := gT_of 822 (by decide +kernel) (by decide +kernel)
theorem lk_L_209 : LkH RL 209 yL_linkedFrom cL_linkedFrom 4 (some .int) [(0, 9, 12, 25)] 3 := ⟨t_780, t_781, t_0, t_782, ⟨by decide +kernel, by decide +kernel, by decide +kernel⟩⟩
theorem t_783 : .methodLink RL 106 yX6_linkedFrom ∈ gT := gT_of 824 (by decide +kernel) (by decide +kernel)
theorem t_786 : .code yX6_linkedFrom cX6_linkedFrom 4 (some .int) ∈ gT := gT_of 827 (by decide +kernel) (by decide +kernel)
theorem t_784 : .instanceMethod yX6_linkedFrom ∈ gT := gT_of 825 (by decide +kernel) (by decide +kernel)
theorem t_785 : .selects RX6 yX6_linkedFrom yX6_linkedFrom ∈ gT := gT_of 826 (by decide +kernel) (by decide +kernel)
theorem lk_L_106 : LkV RL 106 yX6_linkedFrom cX6_linkedFrom 4 (some .int) 1 := ⟨t_783, t_784, t_785, t_1, t_786, ⟨by decide +kernel, by decide +kernel, by decide +kernel⟩⟩
theorem t_787 : .methodLink RX6 182 yX6_hasGoodLink ∈ gT := gT_of 828 (by decide +kernel) (by decide +kernel)
theorem t_790 : .code yX6_hasGoodLink cX6_hasGoodLink 6 (some .boolean) ∈ gT := gT_of 831 (by decide +kernel) (by decide +kernel)
theorem t_789 : .instanceMethod yX6_hasGoodLink ∈ gT := gT_of 830 (by decide +kernel) (by decide +kernel)
theorem ts_19 : .selects RX6 yX6_hasGoodLink yX6_hasGoodLink ∈ gT := gT_of 19 (by decide +kernel) (by decide +kernel)
theorem lk_X6_182 : LkV RX6 182 yX6_hasGoodLink cX6_hasGoodLink 6 (some .boolean) 2 := ⟨t_787, t_789, ts_19, t_1, t_790, ⟨by decide +kernel, by decide +kernel, by decide +kernel⟩⟩
theorem t_791 : .methodLink RX6 313 yX6_leadsTo ∈ gT := gT_of 832 (by decide +kernel) (by decide +kernel)
theorem t_794 : .code yX6_leadsTo cX6_leadsTo 4 (some .boolean) ∈ gT := gT_of 835 (by decide +kernel) (by decide +kernel)
theorem t_793 : .instanceMethod yX6_leadsTo ∈ gT := gT_of 834 (by decide +kernel) (by decide +kernel)
theorem ts_20 : .selects RX6 yX6_leadsTo yX6_leadsTo ∈ gT := gT_of 20 (by decide +kernel) (by decide +kernel)
theorem lk_X6_313 : LkV RX6 313 yX6_leadsTo cX6_leadsTo 4 (some .boolean) 2 := ⟨t_791, t_793, ts_20, t_1, t_794, ⟨by decide +kernel, by decide +kernel, by decide +kernel⟩⟩
theorem t_795 : .methodLink RL 212 yL_breaches ∈ gT := gT_of 836 (by decide +kernel) (by decide +kernel)
theorem t_797 : .codeWith yL_breaches cL_breaches 4 (some .int) [(0, 9, 12, 25)] ∈ gT := gT_of 838 (by decide +kernel) (by decide +kernel)
theorem t_796 : .static yL_breaches ∈ gT := gT_of 837 (by decide +kernel) (by decide +kernel)
theorem lk_L_212 : LkH RL 212 yL_breaches cL_breaches 4 (some .int) [(0, 9, 12, 25)] 3 := ⟨t_795, t_796, t_0, t_797, ⟨by decide +kernel, by decide +kernel, by decide +kernel⟩⟩
theorem t_798 : .methodLink RL 109 yX6_breaches ∈ gT := gT_of 839 (by decide +kernel) (by decide +kernel)
theorem t_801 : .code yX6_breaches cX6_breaches 2 (some .int) ∈ gT := gT_of 842 (by decide +kernel) (by decide +kernel)
theorem t_799 : .instanceMethod yX6_breaches ∈ gT := gT_of 840 (by decide +kernel) (by decide +kernel)
theorem t_800 : .selects RX6 yX6_breaches yX6_breaches ∈ gT := gT_of 841 (by decide +kernel) (by decide +kernel)
theorem lk_L_109 : LkV RL 109 yX6_breaches cX6_breaches 2 (some .int) 1 := ⟨t_798, t_799, t_800, t_1, t_801, ⟨by decide +kernel, by decide +kernel, by decide +kernel⟩⟩
theorem t_804 : .methodLink RL 115 yX7_init ∈ gT := gT_of 845 (by decide +kernel) (by decide +kernel)
theorem t_7 : .initialized RX7 ∈ gT := gT_of 48 (by decide +kernel) (by decide +kernel)
theorem t_806 : .code yX7_init cX7_init 2 none ∈ gT := gT_of 847 (by decide +kernel) (by decide +kernel)
theorem t_805 : .instanceMethod yX7_init ∈ gT := gT_of 846 (by decide +kernel) (by decide +kernel)
theorem lk_L_115 : LkI RL 115 yX7_init cX7_init 2 0 := ⟨Or.inl t_804, rfl, t_805, t_7, t_806, ⟨by decide +kernel, by decide +kernel, by decide +kernel⟩⟩
theorem t_807 : .methodLink RX7 1 objectInit ∈ gT := gT_of 848 (by decide +kernel) (by decide +kernel)
theorem lk_X7_1 : gObj RX7 1 := ⟨t_807, t_23, t_24⟩
theorem t_875 : .methodLink RL 122 yX7_thrown ∈ gT := gT_of 916 (by decide +kernel) (by decide +kernel)
theorem t_878 : .code yX7_thrown cX7_thrown 1 (some .int) ∈ gT := gT_of 919 (by decide +kernel) (by decide +kernel)
theorem t_876 : .instanceMethod yX7_thrown ∈ gT := gT_of 917 (by decide +kernel) (by decide +kernel)
theorem t_877 : .selects RX7 yX7_thrown yX7_thrown ∈ gT := gT_of 918 (by decide +kernel) (by decide +kernel)
theorem lk_L_122 : LkV RL 122 yX7_thrown cX7_thrown 1 (some .int) 0 := ⟨t_875, t_876, t_877, t_7, t_878, ⟨by decide +kernel, by decide +kernel, by decide +kernel⟩⟩
theorem t_879 : .methodLink RL 121 yX7_letter ∈ gT := gT_of 920 (by decide +kernel) (by decide +kernel)
theorem t_882 : .code yX7_letter cX7_letter 2 (some .int) ∈ gT := gT_of 923 (by decide +kernel) (by decide +kernel)
theorem t_880 : .instanceMethod yX7_letter ∈ gT := gT_of 921 (by decide +kernel) (by decide +kernel)
theorem t_881 : .selects RX7 yX7_letter yX7_letter ∈ gT := gT_of 922 (by decide +kernel) (by decide +kernel)
theorem lk_L_121 : LkV RL 121 yX7_letter cX7_letter 2 (some .int) 1 := ⟨t_879, t_880, t_881, t_7, t_882, ⟨by decide +kernel, by decide +kernel, by decide +kernel⟩⟩
theorem t_883 : .methodLink RX7 75 yX7_isLetter ∈ gT := gT_of 924 (by decide +kernel) (by decide +kernel)
theorem t_885 : .code yX7_isLetter cX7_isLetter 1 (some .boolean) ∈ gT := gT_of 926 (by decide +kernel) (by decide +kernel)
theorem t_884 : .static yX7_isLetter ∈ gT := gT_of 925 (by decide +kernel) (by decide +kernel)
theorem lk_X7_75 : LkS RX7 75 yX7_isLetter cX7_isLetter 1 (some .boolean) 1 := ⟨t_883, t_884, t_7, t_885, ⟨by decide +kernel, by decide +kernel, by decide +kernel⟩⟩
theorem t_886 : .methodLink RX7 68 yX7_in ∈ gT := gT_of 927 (by decide +kernel) (by decide +kernel)
theorem t_888 : .code yX7_in cX7_in 3 (some .boolean) ∈ gT := gT_of 929 (by decide +kernel) (by decide +kernel)
theorem t_887 : .static yX7_in ∈ gT := gT_of 928 (by decide +kernel) (by decide +kernel)
theorem lk_X7_68 : LkS RX7 68 yX7_in cX7_in 3 (some .boolean) 3 := ⟨t_886, t_887, t_7, t_888, ⟨by decide +kernel, by decide +kernel, by decide +kernel⟩⟩
theorem t_889 : .methodLink RX7 79 yX7_hasRoom ∈ gT := gT_of 930 (by decide +kernel) (by decide +kernel)
theorem t_892 : .code yX7_hasRoom cX7_hasRoom 1 (some .boolean) ∈ gT := gT_of 933 (by decide +kernel) (by decide +kernel)
theorem t_891 : .instanceMethod yX7_hasRoom ∈ gT := gT_of 932 (by decide +kernel) (by decide +kernel)
theorem ts_21 : .selects RX7 yX7_hasRoom yX7_hasRoom ∈ gT := gT_of 21 (by decide +kernel) (by decide +kernel)
theorem lk_X7_79 : LkV RX7 79 yX7_hasRoom cX7_hasRoom 1 (some .boolean) 0 := ⟨t_889, t_891, ts_21, t_7, t_892, ⟨by decide +kernel, by decide +kernel, by decide +kernel⟩⟩
theorem t_893 : .methodLink RX7 83 yX7_goes ∈ gT := gT_of 934 (by decide +kernel) (by decide +kernel)
theorem t_896 : .code yX7_goes cX7_goes 4 (some .boolean) ∈ gT := gT_of 937 (by decide +kernel) (by decide +kernel)
theorem t_895 : .instanceMethod yX7_goes ∈ gT := gT_of 936 (by decide +kernel) (by decide +kernel)
theorem ts_22 : .selects RX7 yX7_goes yX7_goes ∈ gT := gT_of 22 (by decide +kernel) (by decide +kernel)
theorem lk_X7_83 : LkV RX7 83 yX7_goes cX7_goes 4 (some .boolean) 3 := ⟨t_893, t_895, ts_22, t_7, t_896, ⟨by decide +kernel, by decide +kernel, by decide +kernel⟩⟩
theorem t_897 : .methodLink RX7 87 yX7_adds ∈ gT := gT_of 938 (by decide +kernel) (by decide +kernel)
theorem t_900 : .code yX7_adds cX7_adds 4 (some .int) ∈ gT := gT_of 941 (by decide +kernel) (by decide +kernel)
theorem t_899 : .instanceMethod yX7_adds ∈ gT := gT_of 940 (by decide +kernel) (by decide +kernel)
theorem ts_23 : .selects RX7 yX7_adds yX7_adds ∈ gT := gT_of 23 (by decide +kernel) (by decide +kernel)
theorem lk_X7_87 : LkV RX7 87 yX7_adds cX7_adds 4 (some .int) 3 := ⟨t_897, t_899, ts_23, t_7, t_900, ⟨by decide +kernel, by decide +kernel, by decide +kernel⟩⟩
theorem t_901 : .methodLink RL 128 yX7_argument ∈ gT := gT_of 942 (by decide +kernel) (by decide +kernel)
theorem t_904 : .code yX7_argument cX7_argument 1 (some .int) ∈ gT := gT_of 945 (by decide +kernel) (by decide +kernel)
theorem t_902 : .instanceMethod yX7_argument ∈ gT := gT_of 943 (by decide +kernel) (by decide +kernel)
theorem t_903 : .selects RX7 yX7_argument yX7_argument ∈ gT := gT_of 944 (by decide +kernel) (by decide +kernel)
theorem lk_L_128 : LkV RL 128 yX7_argument cX7_argument 1 (some .int) 0 := ⟨t_901, t_902, t_903, t_7, t_904, ⟨by decide +kernel, by decide +kernel, by decide +kernel⟩⟩
theorem t_905 : .methodLink RL 132 yX7_call ∈ gT := gT_of 946 (by decide +kernel) (by decide +kernel)
theorem t_908 : .code yX7_call cX7_call 3 (some .int) ∈ gT := gT_of 949 (by decide +kernel) (by decide +kernel)
theorem t_906 : .instanceMethod yX7_call ∈ gT := gT_of 947 (by decide +kernel) (by decide +kernel)
theorem t_907 : .selects RX7 yX7_call yX7_call ∈ gT := gT_of 948 (by decide +kernel) (by decide +kernel)
theorem lk_L_132 : LkV RL 132 yX7_call cX7_call 3 (some .int) 2 := ⟨t_905, t_906, t_907, t_7, t_908, ⟨by decide +kernel, by decide +kernel, by decide +kernel⟩⟩
theorem t_909 : .methodLink RX7 91 yX7_isPage ∈ gT := gT_of 950 (by decide +kernel) (by decide +kernel)
theorem t_911 : .code yX7_isPage cX7_isPage 1 (some .boolean) ∈ gT := gT_of 952 (by decide +kernel) (by decide +kernel)
theorem t_910 : .static yX7_isPage ∈ gT := gT_of 951 (by decide +kernel) (by decide +kernel)
theorem lk_X7_91 : LkS RX7 91 yX7_isPage cX7_isPage 1 (some .boolean) 1 := ⟨t_909, t_910, t_7, t_911, ⟨by decide +kernel, by decide +kernel, by decide +kernel⟩⟩
theorem t_912 : .methodLink RL 135 yX7_callOn ∈ gT := gT_of 953 (by decide +kernel) (by decide +kernel)
theorem t_915 : .code yX7_callOn cX7_callOn 2 (some .int) ∈ gT := gT_of 956 (by decide +kernel) (by decide +kernel)
theorem t_913 : .instanceMethod yX7_callOn ∈ gT := gT_of 954 (by decide +kernel) (by decide +kernel)
theorem t_914 : .selects RX7 yX7_callOn yX7_callOn ∈ gT := gT_of 955 (by decide +kernel) (by decide +kernel)
theorem lk_L_135 : LkV RL 135 yX7_callOn cX7_callOn 2 (some .int) 1 := ⟨t_912, t_913, t_914, t_7, t_915, ⟨by decide +kernel, by decide +kernel, by decide +kernel⟩⟩
theorem t_916 : .methodLink RL 138 yX7_when ∈ gT := gT_of 957 (by decide +kernel) (by decide +kernel)
theorem t_919 : .code yX7_when cX7_when 2 (some .int) ∈ gT := gT_of 960 (by decide +kernel) (by decide +kernel)
theorem t_917 : .instanceMethod yX7_when ∈ gT := gT_of 958 (by decide +kernel) (by decide +kernel)
theorem t_918 : .selects RX7 yX7_when yX7_when ∈ gT := gT_of 959 (by decide +kernel) (by decide +kernel)
theorem lk_L_138 : LkV RL 138 yX7_when cX7_when 2 (some .int) 1 := ⟨t_916, t_917, t_918, t_7, t_919, ⟨by decide +kernel, by decide +kernel, by decide +kernel⟩⟩
theorem t_920 : .methodLink RL 141 yX7_end ∈ gT := gT_of 961 (by decide +kernel) (by decide +kernel)
theorem t_923 : .code yX7_end cX7_end 1 (some .int) ∈ gT := gT_of 964 (by decide +kernel) (by decide +kernel)
theorem t_921 : .instanceMethod yX7_end ∈ gT := gT_of 962 (by decide +kernel) (by decide +kernel)
theorem t_922 : .selects RX7 yX7_end yX7_end ∈ gT := gT_of 963 (by decide +kernel) (by decide +kernel)
theorem lk_L_141 : LkV RL 141 yX7_end cX7_end 1 (some .int) 0 := ⟨t_920, t_921, t_922, t_7, t_923, ⟨by decide +kernel, by decide +kernel, by decide +kernel⟩⟩
theorem t_924 : .methodLink RL 144 yX7_anchor ∈ gT := gT_of 965 (by decide +kernel) (by decide +kernel)
theorem t_927 : .code yX7_anchor cX7_anchor 2 (some .int) ∈ gT := gT_of 968 (by decide +kernel) (by decide +kernel)
theorem t_925 : .instanceMethod yX7_anchor ∈ gT := gT_of 966 (by decide +kernel) (by decide +kernel)
theorem t_926 : .selects RX7 yX7_anchor yX7_anchor ∈ gT := gT_of 967 (by decide +kernel) (by decide +kernel)
theorem lk_L_144 : LkV RL 144 yX7_anchor cX7_anchor 2 (some .int) 1 := ⟨t_924, t_925, t_926, t_7, t_927, ⟨by decide +kernel, by decide +kernel, by decide +kernel⟩⟩
theorem t_928 : .methodLink RL 147 yX7_link ∈ gT := gT_of 969 (by decide +kernel) (by decide +kernel)
theorem t_931 : .code yX7_link cX7_link 3 (some .int) ∈ gT := gT_of 972 (by decide +kernel) (by decide +kernel)
theorem t_929 : .instanceMethod yX7_link ∈ gT := gT_of 970 (by decide +kernel) (by decide +kernel)
theorem t_930 : .selects RX7 yX7_link yX7_link ∈ gT := gT_of 971 (by decide +kernel) (by decide +kernel)
theorem lk_L_147 : LkV RL 147 yX7_link cX7_link 3 (some .int) 2 := ⟨t_928, t_929, t_930, t_7, t_931, ⟨by decide +kernel, by decide +kernel, by decide +kernel⟩⟩
theorem t_932 : .methodLink RL 150 yX7_redirect ∈ gT := gT_of 973 (by decide +kernel) (by decide +kernel)
theorem t_935 : .code yX7_redirect cX7_redirect 2 (some .int) ∈ gT := gT_of 976 (by decide +kernel) (by decide +kernel)
theorem t_933 : .instanceMethod yX7_redirect ∈ gT := gT_of 974 (by decide +kernel) (by decide +kernel)
theorem t_934 : .selects RX7 yX7_redirect yX7_redirect ∈ gT := gT_of 975 (by decide +kernel) (by decide +kernel)
theorem lk_L_150 : LkV RL 150 yX7_redirect cX7_redirect 2 (some .int) 1 := ⟨t_932, t_933, t_934, t_7, t_935, ⟨by decide +kernel, by decide +kernel, by decide +kernel⟩⟩
theorem t_936 : .methodLink RL 153 yX7_edit ∈ gT := gT_of 977 (by decide +kernel) (by decide +kernel)
theorem t_939 : .code yX7_edit cX7_edit 6 (some .int) ∈ gT := gT_of 980 (by decide +kernel) (by decide +kernel)
theorem t_937 : .instanceMethod yX7_edit ∈ gT := gT_of 978 (by decide +kernel) (by decide +kernel)
theorem t_938 : .selects RX7 yX7_edit yX7_edit ∈ gT := gT_of 979 (by decide +kernel) (by decide +kernel)
theorem lk_L_153 : LkV RL 153 yX7_edit cX7_edit 6 (some .int) 2 := ⟨t_936, t_937, t_938, t_7, t_939, ⟨by decide +kernel, by decide +kernel, by decide +kernel⟩⟩
theorem t_940 : .methodLink RX7 125 yX7_isUser ∈ gT := gT_of 981 (by decide +kernel) (by decide +kernel)
theorem t_942 : .code yX7_isUser cX7_isUser 1 (some .boolean) ∈ gT := gT_of 983 (by decide +kernel) (by decide +kernel)
theorem t_941 : .static yX7_isUser ∈ gT := gT_of 982 (by decide +kernel) (by decide +kernel)
theorem lk_X7_125 : LkS RX7 125 yX7_isUser cX7_isUser 1 (some .boolean) 1 := ⟨t_940, t_941, t_7, t_942, ⟨by decide +kernel, by decide +kernel, by decide +kernel⟩⟩
theorem t_943 : .methodLink RX7 128 yX7_refusal ∈ gT := gT_of 984 (by decide +kernel) (by decide +kernel)
theorem t_946 : .code yX7_refusal cX7_refusal 7 (some .int) ∈ gT := gT_of 987 (by decide +kernel) (by decide +kernel)
theorem t_945 : .instanceMethod yX7_refusal ∈ gT := gT_of 986 (by decide +kernel) (by decide +kernel)
theorem ts_24 : .selects RX7 yX7_refusal yX7_refusal ∈ gT := gT_of 24 (by decide +kernel) (by decide +kernel)
theorem lk_X7_128 : LkV RX7 128 yX7_refusal cX7_refusal 7 (some .int) 3 := ⟨t_943, t_945, ts_24, t_7, t_946, ⟨by decide +kernel, by decide +kernel, by decide +kernel⟩⟩
theorem t_947 : .methodLink RX7 112 yX7_laysNow ∈ gT := gT_of 988 (by decide +kernel) (by decide +kernel)
theorem t_950 : .code yX7_laysNow cX7_laysNow 2 none ∈ gT := gT_of 991 (by decide +kernel) (by decide +kernel)
theorem t_949 : .instanceMethod yX7_laysNow ∈ gT := gT_of 990 (by decide +kernel) (by decide +kernel)
theorem ts_25 : .selects RX7 yX7_laysNow yX7_laysNow ∈ gT := gT_of 25 (by decide +kernel) (by decide +kernel)
theorem lk_X7_112 : LkV RX7 112 yX7_laysNow cX7_laysNow 2 none 0 := ⟨t_947, t_949, ts_25, t_7, t_950, ⟨by decide +kernel, by decide +kernel, by decide +kernel⟩⟩
theorem t_951 : .methodLink RX7 97 yX7_now ∈ gT := gT_of 992 (by decide +kernel) (by decide +kernel)
theorem t_954 : .code yX7_now cX7_now 2 (some .int) ∈ gT := gT_of 995 (by decide +kernel) (by decide +kernel)
theorem t_953 : .instanceMethod yX7_now ∈ gT := gT_of 994 (by decide +kernel) (by decide +kernel)
theorem ts_26 : .selects RX7 yX7_now yX7_now ∈ gT := gT_of 26 (by decide +kernel) (by decide +kernel)
theorem lk_X7_97 : LkV RX7 97 yX7_now cX7_now 2 (some .int) 1 := ⟨t_951, t_953, ts_26, t_7, t_954, ⟨by decide +kernel, by decide +kernel, by decide +kernel⟩⟩
theorem t_955 : .methodLink RX7 101 yX7_laysCalls ∈ gT := gT_of 996 (by decide +kernel) (by decide +kernel)
theorem t_958 : .code yX7_laysCalls cX7_laysCalls 7 none ∈ gT := gT_of 999 (by decide +kernel) (by decide +kernel)
theorem t_957 : .instanceMethod yX7_laysCalls ∈ gT := gT_of 998 (by decide +kernel) (by decide +kernel)
theorem ts_27 : .selects RX7 yX7_laysCalls yX7_laysCalls ∈ gT := gT_of 27 (by decide +kernel) (by decide +kernel)
theorem lk_X7_101 : LkV RX7 101 yX7_laysCalls cX7_laysCalls 7 none 2 := ⟨t_955, t_957, ts_27, t_7, t_958, ⟨by decide +kernel, by decide +kernel, by decide +kernel⟩⟩
theorem t_959 : .methodLink RX7 105 yX7_laysReached ∈ gT := gT_of 1000 (by decide +kernel) (by decide +kernel)
theorem t_962 : .code yX7_laysReached cX7_laysReached 4 none ∈ gT := gT_of 1003 (by decide +kernel) (by decide +kernel)
theorem t_961 : .instanceMethod yX7_laysReached ∈ gT := gT_of 1002 (by decide +kernel) (by decide +kernel)
theorem ts_28 : .selects RX7 yX7_laysReached yX7_laysReached ∈ gT := gT_of 28 (by decide +kernel) (by decide +kernel)
theorem lk_X7_105 : LkV RX7 105 yX7_laysReached cX7_laysReached 4 none 0 := ⟨t_959, t_961, ts_28, t_7, t_962, ⟨by decide +kernel, by decide +kernel, by decide +kernel⟩⟩
theorem t_963 : .methodLink RX7 115 yX7_forceOf ∈ gT := gT_of 1004 (by decide +kernel) (by decide +kernel)
theorem t_966 : .code yX7_forceOf cX7_forceOf 4 (some .int) ∈ gT := gT_of 1007 (by decide +kernel) (by decide +kernel)
theorem t_965 : .instanceMethod yX7_forceOf ∈ gT := gT_of 1006 (by decide +kernel) (by decide +kernel)
theorem ts_29 : .selects RX7 yX7_forceOf yX7_forceOf ∈ gT := gT_of 29 (by decide +kernel) (by decide +kernel)
theorem lk_X7_115 : LkV RX7 115 yX7_forceOf cX7_forceOf 4 (some .int) 1 := ⟨t_963, t_965, ts_29, t_7, t_966, ⟨by decide +kernel, by decide +kernel, by decide +kernel⟩⟩
theorem t_967 : .methodLink RX7 108 yX7_has ∈ gT := gT_of 1008 (by decide +kernel) (by decide +kernel)
theorem t_969 : .code yX7_has cX7_has 2 (some .boolean) ∈ gT := gT_of 1010 (by decide +kernel) (by decide +kernel)
theorem t_968 : .static yX7_has ∈ gT := gT_of 1009 (by decide +kernel) (by decide +kernel)
theorem lk_X7_108 : LkS RX7 108 yX7_has cX7_has 2 (some .boolean) 2 := ⟨t_967, t_968, t_7, t_969, ⟨by decide +kernel, by decide +kernel, by decide +kernel⟩⟩
theorem t_970 : .methodLink RX7 118 yX7_measures ∈ gT := gT_of 1011 (by decide +kernel) (by decide +kernel)
theorem t_973 : .code yX7_measures cX7_measures 7 none ∈ gT := gT_of 1014 (by decide +kernel) (by decide +kernel)
theorem t_972 : .instanceMethod yX7_measures ∈ gT := gT_of 1013 (by decide +kernel) (by decide +kernel)
theorem ts_30 : .selects RX7 yX7_measures yX7_measures ∈ gT := gT_of 30 (by decide +kernel) (by decide +kernel)
theorem lk_X7_118 : LkV RX7 118 yX7_measures cX7_measures 7 none 0 := ⟨t_970, t_972, ts_30, t_7, t_973, ⟨by decide +kernel, by decide +kernel, by decide +kernel⟩⟩
theorem t_974 : .methodLink RX7 121 yX7_greatest ∈ gT := gT_of 1015 (by decide +kernel) (by decide +kernel)
theorem t_977 : .code yX7_greatest cX7_greatest 5 (some .int) ∈ gT := gT_of 1018 (by decide +kernel) (by decide +kernel)
theorem t_976 : .instanceMethod yX7_greatest ∈ gT := gT_of 1017 (by decide +kernel) (by decide +kernel)
theorem ts_31 : .selects RX7 yX7_greatest yX7_greatest ∈ gT := gT_of 31 (by decide +kernel) (by decide +kernel)
theorem lk_X7_121 : LkV RX7 121 yX7_greatest cX7_greatest 5 (some .int) 1 := ⟨t_974, t_976, ts_31, t_7, t_977, ⟨by decide +kernel, by decide +kernel, by decide +kernel⟩⟩
theorem t_978 : .methodLink RL 156 yX7_undo ∈ gT := gT_of 1019 (by decide +kernel) (by decide +kernel)
theorem t_981 : .code yX7_undo cX7_undo 5 (some .int) ∈ gT := gT_of 1022 (by decide +kernel) (by decide +kernel)
theorem t_979 : .instanceMethod yX7_undo ∈ gT := gT_of 1020 (by decide +kernel) (by decide +kernel)
theorem t_980 : .selects RX7 yX7_undo yX7_undo ∈ gT := gT_of 1021 (by decide +kernel) (by decide +kernel)
theorem lk_L_156 : LkV RL 156 yX7_undo cX7_undo 5 (some .int) 2 := ⟨t_978, t_979, t_980, t_7, t_981, ⟨by decide +kernel, by decide +kernel, by decide +kernel⟩⟩
theorem t_982 : .methodLink RL 159 yX7_approve ∈ gT := gT_of 1023 (by decide +kernel) (by decide +kernel)
theorem t_985 : .code yX7_approve cX7_approve 4 (some .boolean) ∈ gT := gT_of 1026 (by decide +kernel) (by decide +kernel)
theorem t_983 : .instanceMethod yX7_approve ∈ gT := gT_of 1024 (by decide +kernel) (by decide +kernel)
theorem t_984 : .selects RX7 yX7_approve yX7_approve ∈ gT := gT_of 1025 (by decide +kernel) (by decide +kernel)
theorem lk_L_159 : LkV RL 159 yX7_approve cX7_approve 4 (some .boolean) 2 := ⟨t_982, t_983, t_984, t_7, t_985, ⟨by decide +kernel, by decide +kernel, by decide +kernel⟩⟩
theorem t_986 : .methodLink RL 163 yX7_lock ∈ gT := gT_of 1027 (by decide +kernel) (by decide +kernel)
theorem t_989 : .code yX7_lock cX7_lock 5 (some .int) ∈ gT := gT_of 1030 (by decide +kernel) (by decide +kernel)
theorem t_987 : .instanceMethod yX7_lock ∈ gT := gT_of 1028 (by decide +kernel) (by decide +kernel)
theorem t_988 : .selects RX7 yX7_lock yX7_lock ∈ gT := gT_of 1029 (by decide +kernel) (by decide +kernel)
theorem lk_L_163 : LkV RL 163 yX7_lock cX7_lock 5 (some .int) 3 := ⟨t_986, t_987, t_988, t_7, t_989, ⟨by decide +kernel, by decide +kernel, by decide +kernel⟩⟩
theorem t_990 : .methodLink RL 166 yX7_setRank ∈ gT := gT_of 1031 (by decide +kernel) (by decide +kernel)
theorem t_993 : .code yX7_setRank cX7_setRank 4 (some .int) ∈ gT := gT_of 1034 (by decide +kernel) (by decide +kernel)
theorem t_991 : .instanceMethod yX7_setRank ∈ gT := gT_of 1032 (by decide +kernel) (by decide +kernel)
theorem t_992 : .selects RX7 yX7_setRank yX7_setRank ∈ gT := gT_of 1033 (by decide +kernel) (by decide +kernel)
theorem lk_L_166 : LkV RL 166 yX7_setRank cX7_setRank 4 (some .int) 2 := ⟨t_990, t_991, t_992, t_7, t_993, ⟨by decide +kernel, by decide +kernel, by decide +kernel⟩⟩
theorem t_994 : .methodLink RL 169 yX7_version ∈ gT := gT_of 1035 (by decide +kernel) (by decide +kernel)
theorem t_997 : .code yX7_version cX7_version 2 (some .int) ∈ gT := gT_of 1038 (by decide +kernel) (by decide +kernel)
theorem t_995 : .instanceMethod yX7_version ∈ gT := gT_of 1036 (by decide +kernel) (by decide +kernel)
theorem t_996 : .selects RX7 yX7_version yX7_version ∈ gT := gT_of 1037 (by decide +kernel) (by decide +kernel)
theorem lk_L_169 : LkV RL 169 yX7_version cX7_version 2 (some .int) 1 := ⟨t_994, t_995, t_996, t_7, t_997, ⟨by decide +kernel, by decide +kernel, by decide +kernel⟩⟩
theorem t_998 : .methodLink RL 172 yX7_rankOf ∈ gT := gT_of 1039 (by decide +kernel) (by decide +kernel)
theorem t_1001 : .code yX7_rankOf cX7_rankOf 2 (some .int) ∈ gT := gT_of 1042 (by decide +kernel) (by decide +kernel)
theorem t_999 : .instanceMethod yX7_rankOf ∈ gT := gT_of 1040 (by decide +kernel) (by decide +kernel)
theorem t_1000 : .selects RX7 yX7_rankOf yX7_rankOf ∈ gT := gT_of 1041 (by decide +kernel) (by decide +kernel)
theorem lk_L_172 : LkV RL 172 yX7_rankOf cX7_rankOf 2 (some .int) 1 := ⟨t_998, t_999, t_1000, t_7, t_1001, ⟨by decide +kernel, by decide +kernel, by decide +kernel⟩⟩
theorem t_1002 : .methodLink RL 175 yX7_force ∈ gT := gT_of 1043 (by decide +kernel) (by decide +kernel)
theorem t_1005 : .code yX7_force cX7_force 2 (some .int) ∈ gT := gT_of 1046 (by decide +kernel) (by decide +kernel)
theorem t_1003 : .instanceMethod yX7_force ∈ gT := gT_of 1044 (by decide +kernel) (by decide +kernel)
theorem t_1004 : .selects RX7 yX7_force yX7_force ∈ gT := gT_of 1045 (by decide +kernel) (by decide +kernel)
theorem lk_L_175 : LkV RL 175 yX7_force cX7_force 2 (some .int) 1 := ⟨t_1002, t_1003, t_1004, t_7, t_1005, ⟨by decide +kernel, by decide +kernel, by decide +kernel⟩⟩
theorem t_1006 : .methodLink RL 178 yX7_reaches ∈ gT := gT_of 1047 (by decide +kernel) (by decide +kernel)
theorem t_1009 : .code yX7_reaches cX7_reaches 2 (some .int) ∈ gT := gT_of 1050 (by decide +kernel) (by decide +kernel)
theorem t_1007 : .instanceMethod yX7_reaches ∈ gT := gT_of 1048 (by decide +kernel) (by decide +kernel)
theorem t_1008 : .selects RX7 yX7_reaches yX7_reaches ∈ gT := gT_of 1049 (by decide +kernel) (by decide +kernel)
theorem lk_L_178 : LkV RL 178 yX7_reaches cX7_reaches 2 (some .int) 1 := ⟨t_1006, t_1007, t_1008, t_7, t_1009, ⟨by decide +kernel, by decide +kernel, by decide +kernel⟩⟩
theorem t_1010 : .methodLink RL 181 yX7_extent ∈ gT := gT_of 1051 (by decide +kernel) (by decide +kernel)
theorem t_1013 : .code yX7_extent cX7_extent 2 (some .int) ∈ gT := gT_of 1054 (by decide +kernel) (by decide +kernel)
theorem t_1011 : .instanceMethod yX7_extent ∈ gT := gT_of 1052 (by decide +kernel) (by decide +kernel)
theorem t_1012 : .selects RX7 yX7_extent yX7_extent ∈ gT := gT_of 1053 (by decide +kernel) (by decide +kernel)
theorem lk_L_181 : LkV RL 181 yX7_extent cX7_extent 2 (some .int) 1 := ⟨t_1010, t_1011, t_1012, t_7, t_1013, ⟨by decide +kernel, by decide +kernel, by decide +kernel⟩⟩
theorem t_1014 : .methodLink RL 184 yX7_items ∈ gT := gT_of 1055 (by decide +kernel) (by decide +kernel)
theorem t_1017 : .code yX7_items cX7_items 4 (some .int) ∈ gT := gT_of 1058 (by decide +kernel) (by decide +kernel)
theorem t_1015 : .instanceMethod yX7_items ∈ gT := gT_of 1056 (by decide +kernel) (by decide +kernel)
theorem t_1016 : .selects RX7 yX7_items yX7_items ∈ gT := gT_of 1057 (by decide +kernel) (by decide +kernel)
theorem lk_L_184 : LkV RL 184 yX7_items cX7_items 4 (some .int) 2 := ⟨t_1014, t_1015, t_1016, t_7, t_1017, ⟨by decide +kernel, by decide +kernel, by decide +kernel⟩⟩
theorem t_1018 : .methodLink RX7 142 yX7_lays ∈ gT := gT_of 1059 (by decide +kernel) (by decide +kernel)
theorem t_1021 : .code yX7_lays cX7_lays 10 none ∈ gT := gT_of 1062 (by decide +kernel) (by decide +kernel)
theorem t_1020 : .instanceMethod yX7_lays ∈ gT := gT_of 1061 (by decide +kernel) (by decide +kernel)
theorem ts_32 : .selects RX7 yX7_lays yX7_lays ∈ gT := gT_of 32 (by decide +kernel) (by decide +kernel)
theorem lk_X7_142 : LkV RX7 142 yX7_lays cX7_lays 10 none 2 := ⟨t_1018, t_1020, ts_32, t_7, t_1021, ⟨by decide +kernel, by decide +kernel, by decide +kernel⟩⟩
theorem t_1022 : .methodLink RX7 134 yX7_behind ∈ gT := gT_of 1063 (by decide +kernel) (by decide +kernel)
theorem t_1025 : .code yX7_behind cX7_behind 6 (some .int) ∈ gT := gT_of 1066 (by decide +kernel) (by decide +kernel)
theorem t_1024 : .instanceMethod yX7_behind ∈ gT := gT_of 1065 (by decide +kernel) (by decide +kernel)
theorem ts_33 : .selects RX7 yX7_behind yX7_behind ∈ gT := gT_of 33 (by decide +kernel) (by decide +kernel)
theorem lk_X7_134 : LkV RX7 134 yX7_behind cX7_behind 6 (some .int) 2 := ⟨t_1022, t_1024, ts_33, t_7, t_1025, ⟨by decide +kernel, by decide +kernel, by decide +kernel⟩⟩
theorem t_1026 : .methodLink RX7 138 yX7_shows ∈ gT := gT_of 1067 (by decide +kernel) (by decide +kernel)
theorem t_1029 : .code yX7_shows cX7_shows 4 none ∈ gT := gT_of 1070 (by decide +kernel) (by decide +kernel)
theorem t_1028 : .instanceMethod yX7_shows ∈ gT := gT_of 1069 (by decide +kernel) (by decide +kernel)
theorem ts_34 : .selects RX7 yX7_shows yX7_shows ∈ gT := gT_of 34 (by decide +kernel) (by decide +kernel)
theorem lk_X7_138 : LkV RX7 138 yX7_shows cX7_shows 4 none 3 := ⟨t_1026, t_1028, ts_34, t_7, t_1029, ⟨by decide +kernel, by decide +kernel, by decide +kernel⟩⟩
theorem t_1030 : .methodLink RL 187 yX7_sortAt ∈ gT := gT_of 1071 (by decide +kernel) (by decide +kernel)
theorem t_1033 : .code yX7_sortAt cX7_sortAt 4 (some .int) ∈ gT := gT_of 1074 (by decide +kernel) (by decide +kernel)
theorem t_1031 : .instanceMethod yX7_sortAt ∈ gT := gT_of 1072 (by decide +kernel) (by decide +kernel)
theorem t_1032 : .selects RX7 yX7_sortAt yX7_sortAt ∈ gT := gT_of 1073 (by decide +kernel) (by decide +kernel)
theorem lk_L_187 : LkV RL 187 yX7_sortAt cX7_sortAt 4 (some .int) 3 := ⟨t_1030, t_1031, t_1032, t_7, t_1033, ⟨by decide +kernel, by decide +kernel, by decide +kernel⟩⟩
theorem t_1034 : .methodLink RX7 145 yX7_isShown ∈ gT := gT_of 1075 (by decide +kernel) (by decide +kernel)
theorem t_1037 : .code yX7_isShown cX7_isShown 5 (some .boolean) ∈ gT := gT_of 1078 (by decide +kernel) (by decide +kernel)
theorem t_1036 : .instanceMethod yX7_isShown ∈ gT := gT_of 1077 (by decide +kernel) (by decide +kernel)
theorem ts_35 : .selects RX7 yX7_isShown yX7_isShown ∈ gT := gT_of 35 (by decide +kernel) (by decide +kernel)
theorem lk_X7_145 : LkV RX7 145 yX7_isShown cX7_isShown 5 (some .boolean) 3 := ⟨t_1034, t_1036, ts_35, t_7, t_1037, ⟨by decide +kernel, by decide +kernel, by decide +kernel⟩⟩
theorem t_1038 : .methodLink RL 190 yX7_itemAt ∈ gT := gT_of 1079 (by decide +kernel) (by decide +kernel)
theorem t_1041 : .code yX7_itemAt cX7_itemAt 4 (some .int) ∈ gT := gT_of 1082 (by decide +kernel) (by decide +kernel)
theorem t_1039 : .instanceMethod yX7_itemAt ∈ gT := gT_of 1080 (by decide +kernel) (by decide +kernel)
theorem t_1040 : .selects RX7 yX7_itemAt yX7_itemAt ∈ gT := gT_of 1081 (by decide +kernel) (by decide +kernel)
theorem lk_L_190 : LkV RL 190 yX7_itemAt cX7_itemAt 4 (some .int) 3 := ⟨t_1038, t_1039, t_1040, t_7, t_1041, ⟨by decide +kernel, by decide +kernel, by decide +kernel⟩⟩
theorem t_1042 : .methodLink RL 193 yX7_itemAnew ∈ gT := gT_of 1083 (by decide +kernel) (by decide +kernel)
theorem t_1045 : .code yX7_itemAnew cX7_itemAnew 4 (some .int) ∈ gT := gT_of 1086 (by decide +kernel) (by decide +kernel)
theorem t_1043 : .instanceMethod yX7_itemAnew ∈ gT := gT_of 1084 (by decide +kernel) (by decide +kernel)
theorem t_1044 : .selects RX7 yX7_itemAnew yX7_itemAnew ∈ gT := gT_of 1085 (by decide +kernel) (by decide +kernel)
theorem lk_L_193 : LkV RL 193 yX7_itemAnew cX7_itemAnew 4 (some .int) 3 := ⟨t_1042, t_1043, t_1044, t_7, t_1045, ⟨by decide +kernel, by decide +kernel, by decide +kernel⟩⟩
theorem t_1046 : .methodLink RX7 148 yX7_itemAt ∈ gT := gT_of 1087 (by decide +kernel) (by decide +kernel)
theorem lk_X7_148 : LkV RX7 148 yX7_itemAt cX7_itemAt 4 (some .int) 3 := ⟨t_1046, t_1039, t_1040, t_7, t_1041, ⟨by decide +kernel, by decide +kernel, by decide +kernel⟩⟩
theorem t_1047 : .methodLink RL 196 yX7_sourceAt ∈ gT := gT_of 1088 (by decide +kernel) (by decide +kernel)
theorem t_1050 : .code yX7_sourceAt cX7_sourceAt 4 (some .int) ∈ gT := gT_of 1091 (by decide +kernel) (by decide +kernel)
theorem t_1048 : .instanceMethod yX7_sourceAt ∈ gT := gT_of 1089 (by decide +kernel) (by decide +kernel)
theorem t_1049 : .selects RX7 yX7_sourceAt yX7_sourceAt ∈ gT := gT_of 1090 (by decide +kernel) (by decide +kernel)
theorem lk_L_196 : LkV RL 196 yX7_sourceAt cX7_sourceAt 4 (some .int) 3 := ⟨t_1047, t_1048, t_1049, t_7, t_1050, ⟨by decide +kernel, by decide +kernel, by decide +kernel⟩⟩
theorem t_1051 : .methodLink RL 199 yX7_standsFor ∈ gT := gT_of 1092 (by decide +kernel) (by decide +kernel)
theorem t_1054 : .code yX7_standsFor cX7_standsFor 2 (some .int) ∈ gT := gT_of 1095 (by decide +kernel) (by decide +kernel)
theorem t_1052 : .instanceMethod yX7_standsFor ∈ gT := gT_of 1093 (by decide +kernel) (by decide +kernel)
theorem t_1053 : .selects RX7 yX7_standsFor yX7_standsFor ∈ gT := gT_of 1094 (by decide +kernel) (by decide +kernel)
theorem lk_L_199 : LkV RL 199 yX7_standsFor cX7_standsFor 2 (some .int) 1 := ⟨t_1051, t_1052, t_1053, t_7, t_1054, ⟨by decide +kernel, by decide +kernel, by decide +kernel⟩⟩
theorem t_1055 : .methodLink RX7 151 yX7_stands ∈ gT := gT_of 1096 (by decide +kernel) (by decide +kernel)
theorem t_1058 : .code yX7_stands cX7_stands 4 (some .int) ∈ gT := gT_of 1099 (by decide +kernel) (by decide +kernel)
theorem t_1057 : .instanceMethod yX7_stands ∈ gT := gT_of 1098 (by decide +kernel) (by decide +kernel)
theorem ts_36 : .selects RX7 yX7_stands yX7_stands ∈ gT := gT_of 36 (by decide +kernel) (by decide +kernel)
theorem lk_X7_151 : LkV RX7 151 yX7_stands cX7_stands 4 (some .int) 1 := ⟨t_1055, t_1057, ts_36, t_7, t_1058, ⟨by decide +kernel, by decide +kernel, by decide +kernel⟩⟩
theorem t_1059 : .methodLink RL 202 yX7_links ∈ gT := gT_of 1100 (by decide +kernel) (by decide +kernel)
theorem t_1062 : .code yX7_links cX7_links 3 (some .int) ∈ gT := gT_of 1103 (by decide +kernel) (by decide +kernel)
theorem t_1060 : .instanceMethod yX7_links ∈ gT := gT_of 1101 (by decide +kernel) (by decide +kernel)
theorem t_1061 : .selects RX7 yX7_links yX7_links ∈ gT := gT_of 1102 (by decide +kernel) (by decide +kernel)
theorem lk_L_202 : LkV RL 202 yX7_links cX7_links 3 (some .int) 1 := ⟨t_1059, t_1060, t_1061, t_7, t_1062, ⟨by decide +kernel, by decide +kernel, by decide +kernel⟩⟩
theorem t_1063 : .methodLink RX7 157 yX7_linkAt ∈ gT := gT_of 1104 (by decide +kernel) (by decide +kernel)
theorem t_1066 : .code yX7_linkAt cX7_linkAt 5 (some .int) ∈ gT := gT_of 1107 (by decide +kernel) (by decide +kernel)
theorem t_1065 : .instanceMethod yX7_linkAt ∈ gT := gT_of 1106 (by decide +kernel) (by decide +kernel)
theorem ts_37 : .selects RX7 yX7_linkAt yX7_linkAt ∈ gT := gT_of 37 (by decide +kernel) (by decide +kernel)
theorem lk_X7_157 : LkV RX7 157 yX7_linkAt cX7_linkAt 5 (some .int) 2 := ⟨t_1063, t_1065, ts_37, t_7, t_1066, ⟨by decide +kernel, by decide +kernel, by decide +kernel⟩⟩
theorem t_1067 : .methodLink RL 205 yX7_broken ∈ gT := gT_of 1108 (by decide +kernel) (by decide +kernel)
theorem t_1070 : .code yX7_broken cX7_broken 4 (some .int) ∈ gT := gT_of 1111 (by decide +kernel) (by decide +kernel)
theorem t_1068 : .instanceMethod yX7_broken ∈ gT := gT_of 1109 (by decide +kernel) (by decide +kernel)
theorem t_1069 : .selects RX7 yX7_broken yX7_broken ∈ gT := gT_of 1110 (by decide +kernel) (by decide +kernel)
theorem lk_L_205 : LkV RL 205 yX7_broken cX7_broken 4 (some .int) 1 := ⟨t_1067, t_1068, t_1069, t_7, t_1070, ⟨by decide +kernel, by decide +kernel, by decide +kernel⟩⟩
theorem t_1071 : .methodLink RX7 160 yX7_isGood ∈ gT := gT_of 1112 (by decide +kernel) (by decide +kernel)
theorem t_1074 : .code yX7_isGood cX7_isGood 3 (some .boolean) ∈ gT := gT_of 1115 (by decide +kernel) (by decide +kernel)
theorem t_1073 : .instanceMethod yX7_isGood ∈ gT := gT_of 1114 (by decide +kernel) (by decide +kernel)
theorem ts_38 : .selects RX7 yX7_isGood yX7_isGood ∈ gT := gT_of 38 (by decide +kernel) (by decide +kernel)
theorem lk_X7_160 : LkV RX7 160 yX7_isGood cX7_isGood 3 (some .boolean) 1 := ⟨t_1071, t_1073, ts_38, t_7, t_1074, ⟨by decide +kernel, by decide +kernel, by decide +kernel⟩⟩
theorem t_1075 : .methodLink RX7 154 yX7_showsAnchor ∈ gT := gT_of 1116 (by decide +kernel) (by decide +kernel)
theorem t_1078 : .code yX7_showsAnchor cX7_showsAnchor 5 (some .boolean) ∈ gT := gT_of 1119 (by decide +kernel) (by decide +kernel)
theorem t_1077 : .instanceMethod yX7_showsAnchor ∈ gT := gT_of 1118 (by decide +kernel) (by decide +kernel)
theorem ts_39 : .selects RX7 yX7_showsAnchor yX7_showsAnchor ∈ gT := gT_of 39 (by decide +kernel) (by decide +kernel)
theorem lk_X7_154 : LkV RX7 154 yX7_showsAnchor cX7_showsAnchor 5 (some .boolean) 2 := ⟨t_1075, t_1077, ts_39, t_7, t_1078, ⟨by decide +kernel, by decide +kernel, by decide +kernel⟩⟩
theorem t_1079 : .methodLink RL 208 yX7_firstBroken ∈ gT := gT_of 1120 (by decide +kernel) (by decide +kernel)
theorem t_1082 : .code yX7_firstBroken cX7_firstBroken 3 (some .int) ∈ gT := gT_of 1123 (by decide +kernel) (by decide +kernel)
theorem t_1080 : .instanceMethod yX7_firstBroken ∈ gT := gT_of 1121 (by decide +kernel) (by decide +kernel)
theorem t_1081 : .selects RX7 yX7_firstBroken yX7_firstBroken ∈ gT := gT_of 1122 (by decide +kernel) (by decide +kernel)
theorem lk_L_208 : LkV RL 208 yX7_firstBroken cX7_firstBroken 3 (some .int) 1 := ⟨t_1079, t_1080, t_1081, t_7, t_1082, ⟨by decide +kernel, by decide +kernel, by decide +kernel⟩⟩
theorem t_1083 : .methodLink RL 211 yX7_linkedFrom ∈ gT := gT_of 1124 (by decide +kernel) (by decide +kernel)
theorem t_1086 : .code yX7_linkedFrom cX7_linkedFrom 7 (some .int) ∈ gT := gT_of 1127 (by decide +kernel) (by decide +kernel)
theorem t_1084 : .instanceMethod yX7_linkedFrom ∈ gT := gT_of 1125 (by decide +kernel) (by decide +kernel)
theorem t_1085 : .selects RX7 yX7_linkedFrom yX7_linkedFrom ∈ gT := gT_of 1126 (by decide +kernel) (by decide +kernel)
theorem lk_L_211 : LkV RL 211 yX7_linkedFrom cX7_linkedFrom 7 (some .int) 1 := ⟨t_1083, t_1084, t_1085, t_7, t_1086, ⟨by decide +kernel, by decide +kernel, by decide +kernel⟩⟩
theorem t_1087 : .methodLink RL 214 yX7_breaches ∈ gT := gT_of 1128 (by decide +kernel) (by decide +kernel)
theorem t_1090 : .code yX7_breaches cX7_breaches 2 (some .int) ∈ gT := gT_of 1131 (by decide +kernel) (by decide +kernel)
theorem t_1088 : .instanceMethod yX7_breaches ∈ gT := gT_of 1129 (by decide +kernel) (by decide +kernel)
theorem t_1089 : .selects RX7 yX7_breaches yX7_breaches ∈ gT := gT_of 1130 (by decide +kernel) (by decide +kernel)
theorem lk_L_214 : LkV RL 214 yX7_breaches cX7_breaches 2 (some .int) 1 := ⟨t_1087, t_1088, t_1089, t_7, t_1090, ⟨by decide +kernel, by decide +kernel, by decide +kernel⟩⟩
theorem t_1091 : .methodLink RX7 163 yX7_breachesOf ∈ gT := gT_of 1132 (by decide +kernel) (by decide +kernel)
theorem t_1094 : .code yX7_breachesOf cX7_breachesOf 4 (some .int) ∈ gT := gT_of 1135 (by decide +kernel) (by decide +kernel)
theorem t_1093 : .instanceMethod yX7_breachesOf ∈ gT := gT_of 1134 (by decide +kernel) (by decide +kernel)
theorem ts_40 : .selects RX7 yX7_breachesOf yX7_breachesOf ∈ gT := gT_of 40 (by decide +kernel) (by decide +kernel)
theorem lk_X7_163 : LkV RX7 163 yX7_breachesOf cX7_breachesOf 4 (some .int) 1 := ⟨t_1091, t_1093, ts_40, t_7, t_1094, ⟨by decide +kernel, by decide +kernel, by decide +kernel⟩⟩
theorem t_1095 : .methodLink RL 218 yX7_breached ∈ gT := gT_of 1136 (by decide +kernel) (by decide +kernel)
theorem t_1098 : .code yX7_breached cX7_breached 3 (some .int) ∈ gT := gT_of 1139 (by decide +kernel) (by decide +kernel)
theorem t_1096 : .instanceMethod yX7_breached ∈ gT := gT_of 1137 (by decide +kernel) (by decide +kernel)
theorem t_1097 : .selects RX7 yX7_breached yX7_breached ∈ gT := gT_of 1138 (by decide +kernel) (by decide +kernel)
theorem lk_L_218 : LkV RL 218 yX7_breached cX7_breached 3 (some .int) 0 := ⟨t_1095, t_1096, t_1097, t_7, t_1098, ⟨by decide +kernel, by decide +kernel, by decide +kernel⟩⟩
theorem t_17 : .classLink RL 8 RX6 ∈ gT := gT_of 58 (by decide +kernel) (by decide +kernel)
theorem t_18 : .instantiable RX6 5 ∈ gT := gT_of 59 (by decide +kernel) (by decide +kernel)
theorem nw_L_8 : NWk RL 8 6 [.null, .null, .null, .null, .null] := ⟨RX6, TX6, 5, tyX6, rfl, rfl, inT_X6, tyX6_ok, (by intro j hj; rcases (show j = 0 ∨ j = 1 ∨ j = 2 ∨ j = 3 ∨ j = 4 by omega) with rfl | rfl | rfl | rfl | rfl <;> rfl), t_17, t_18, t_1⟩
theorem t_25 : .classLink RX6 9 RX3 ∈ gT := gT_of 66 (by decide +kernel) (by decide +kernel)
theorem t_26 : .instantiable RX3 5 ∈ gT := gT_of 67 (by decide +kernel) (by decide +kernel)
theorem nw_X6_9 : NWk RX6 9 3 [.null, .null, .null, .int 0, .int 0] := ⟨RX3, TX3, 5, tyX3, rfl, rfl, inT_X3, tyX3_ok, (by intro j hj; rcases (show j = 0 ∨ j = 1 ∨ j = 2 ∨ j = 3 ∨ j = 4 by omega) with rfl | rfl | rfl | rfl | rfl <;> rfl), t_25, t_26, t_2⟩
theorem t_50 : .classLink RX6 20 RX0 ∈ gT := gT_of 91 (by decide +kernel) (by decide +kernel)
theorem t_51 : .instantiable RX0 5 ∈ gT := gT_of 92 (by decide +kernel) (by decide +kernel)
theorem nw_X6_20 : NWk RX6 20 0 [.null, .null, .null, .null, .null] := ⟨RX0, TX0, 5, tyX0, rfl, rfl, inT_X0, tyX0_ok, (by intro j hj; rcases (show j = 0 ∨ j = 1 ∨ j = 2 ∨ j = 3 ∨ j = 4 by omega) with rfl | rfl | rfl | rfl | rfl <;> rfl), t_50, t_51, t_3⟩
theorem t_72 : .classLink RX6 30 RX1 ∈ gT := gT_of 113 (by decide +kernel) (by decide +kernel)
theorem t_74 : .instantiable RX1 3 ∈ gT := gT_of 115 (by decide +kernel) (by decide +kernel)
theorem nw_X6_30 : NWk RX6 30 1 [.null, .int 0, .null] := ⟨RX1, TX1, 3, tyX1, rfl, rfl, inT_X1, tyX1_ok, (by intro j hj; rcases (show j = 0 ∨ j = 1 ∨ j = 2 by omega) with rfl | rfl | rfl <;> rfl), t_72, t_74, t_4⟩
theorem t_79 : .classLink RX1 9 RX4 ∈ gT := gT_of 120 (by decide +kernel) (by decide +kernel)
theorem t_80 : .instantiable RX4 4 ∈ gT := gT_of 121 (by decide +kernel) (by decide +kernel)
theorem nw_X1_9 : NWk RX1 9 4 [.null, .int 0, .null, .int 0] := ⟨RX4, TX4, 4, tyX4, rfl, rfl, inT_X4, tyX4_ok, (by intro j hj; rcases (show j = 0 ∨ j = 1 ∨ j = 2 ∨ j = 3 by omega) with rfl | rfl | rfl | rfl <;> rfl), t_79, t_80, t_5⟩
theorem t_81 : .classLink RX1 11 RX3 ∈ gT := gT_of 122 (by decide +kernel) (by decide +kernel)
theorem nw_X1_11 : NWk RX1 11 3 [.null, .null, .null, .int 0, .int 0] := ⟨RX3, TX3, 5, tyX3, rfl, rfl, inT_X3, tyX3_ok, (by intro j hj; rcases (show j = 0 ∨ j = 1 ∨ j = 2 ∨ j = 3 ∨ j = 4 by omega) with rfl | rfl | rfl | rfl | rfl <;> rfl), t_81, t_26, t_2⟩
theorem t_104 : .classLink RX1 27 RX2 ∈ gT := gT_of 145 (by decide +kernel) (by decide +kernel)
theorem t_105 : .instantiable RX2 8 ∈ gT := gT_of 146 (by decide +kernel) (by decide +kernel)
theorem nw_X1_27 : NWk RX1 27 2 [.null, .null, .null, .null, .int 0, .int 0, .null, .int 0] := ⟨RX2, TX2, 8, tyX2, rfl, rfl, inT_X2, tyX2_ok, (by intro j hj; rcases (show j = 0 ∨ j = 1 ∨ j = 2 ∨ j = 3 ∨ j = 4 ∨ j = 5 ∨ j = 6 ∨ j = 7 by omega) with rfl | rfl | rfl | rfl | rfl | rfl | rfl | rfl <;> rfl), t_104, t_105, t_6⟩
theorem t_496 : .classLink RX6 78 RX4 ∈ gT := gT_of 537 (by decide +kernel) (by decide +kernel)
theorem nw_X6_78 : NWk RX6 78 4 [.null, .int 0, .null, .int 0] := ⟨RX4, TX4, 4, tyX4, rfl, rfl, inT_X4, tyX4_ok, (by intro j hj; rcases (show j = 0 ∨ j = 1 ∨ j = 2 ∨ j = 3 by omega) with rfl | rfl | rfl | rfl <;> rfl), t_496, t_80, t_5⟩
theorem t_690 : .classLink RX6 149 RX5 ∈ gT := gT_of 731 (by decide +kernel) (by decide +kernel)
theorem t_691 : .instantiable RX5 2 ∈ gT := gT_of 732 (by decide +kernel) (by decide +kernel)
theorem nw_X6_149 : NWk RX6 149 5 [.int 0, .int 0] := ⟨RX5, TX5, 2, tyX5, rfl, rfl, inT_X5, tyX5_ok, (by intro j hj; rcases (show j = 0 ∨ j = 1 by omega) with rfl | rfl <;> rfl), t_690, t_691, t_16⟩
theorem t_802 : .classLink RL 113 RX7 ∈ gT := gT_of 843 (by decide +kernel) (by decide +kernel)
theorem t_803 : .instantiable RX7 22 ∈ gT := gT_of 844 (by decide +kernel) (by decide +kernel)
theorem nw_L_113 : NWk RL 113 7 [.null, .int 0, .int 0, .null, .null, .null, .null, .null, .null, .null, .null, .null, .null, .null, .null, .null, .null, .int 0, .null, .null, .null, .int 0] := ⟨RX7, TX7, 22, tyX7, rfl, rfl, inT_X7, tyX7_ok, (by intro j hj; rcases (show j = 0 ∨ j = 1 ∨ j = 2 ∨ j = 3 ∨ j = 4 ∨ j = 5 ∨ j = 6 ∨ j = 7 ∨ j = 8 ∨ j = 9 ∨ j = 10 ∨ j = 11 ∨ j = 12 ∨ j = 13 ∨ j = 14 ∨ j = 15 ∨ j = 16 ∨ j = 17 ∨ j = 18 ∨ j = 19 ∨ j = 20 ∨ j = 21 by omega) with rfl | rfl | rfl | rfl | rfl | rfl | rfl | rfl | rfl | rfl | rfl | rfl | rfl | rfl | rfl | rfl | rfl | rfl | rfl | rfl | rfl | rfl <;> rfl), t_802, t_803, t_7⟩
theorem ta_int : Cond.arrayClass .int ∈ gT := gT_of 90 (by decide +kernel) (by decide +kernel)
theorem ta_long : Cond.arrayClass .long ∈ gT := gT_of 1140 (by decide +kernel) (by decide +kernel)
