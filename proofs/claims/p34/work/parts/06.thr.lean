theorem at_of {ws : List Cond} (ps : List Nat) (h1 : ws = ps.filterMap (fun i => lw_tbl[i]?)) (h2 : ws.all (fun w => goodWord w || g_isN w) = true) : ∀ w ∈ ws, w ∈ gT ∨ w ∈ gN := by
  intro w hw
  have h3 := List.all_eq_true.mp h2 w hw
  rw [h1] at hw
  obtain ⟨i, -, hi⟩ := List.mem_filterMap.mp hw
  have hm : w ∈ lw_tbl := List.mem_of_getElem? hi
  by_cases g : goodWord w = true
  · exact Or.inl (List.mem_filter.mpr ⟨hm, g⟩)
  · have g2 : g_isN w = true := by simpa [g] using h3
    refine Or.inr (List.mem_filter.mpr ⟨?_, g2⟩)
    rcases List.mem_append.mp hm with h | h
    · obtain ⟨q, -, rfl⟩ := List.mem_map.mp h
      simp [g_isN] at g2
    · exact h
set_option maxRecDepth 100000 in
theorem va_at_60 : ∀ w ∈ vx_atS RX6 60 "java/lang/IllegalStateException" ["java/lang/RuntimeException", "java/lang/Exception"], w ∈ gT ∨ w ∈ gN := at_of [26, 236, 245, 250, 253, 255, 237, 238, 50, 51, 239, 244, 251, 271, 226, 272, 228, 273, 230, 240, 242, 232, 267, 268, 270, 232, 299, 300, 301, 261, 218, 261, 262, 263, 264, 220, 264, 265, 266, 267, 222, 298, 289, 290, 291, 247, 292, 293, 294, 295, 235, 234, 296] (by decide +kernel) (by decide +kernel)
theorem th_56_58_60 : gThr RX6 56 58 60 "java/lang/IllegalStateException" "no WHEN is open" ["java/lang/RuntimeException", "java/lang/Exception"] := ⟨by decide +kernel, by decide +kernel, gT_of 288 (by decide +kernel) (by decide +kernel), gT_of 30 (by decide +kernel) (by decide +kernel), by decide +kernel, va_at_60⟩
theorem th_56_71_60 : gThr RX6 56 71 60 "java/lang/IllegalStateException" "a WHEN of the draft is open" ["java/lang/RuntimeException", "java/lang/Exception"] := ⟨by decide +kernel, by decide +kernel, gT_of 288 (by decide +kernel) (by decide +kernel), gT_of 30 (by decide +kernel) (by decide +kernel), by decide +kernel, va_at_60⟩
theorem th_56_83_60 : gThr RX6 56 83 60 "java/lang/IllegalStateException" "the page has 20 versions behind the version 0" ["java/lang/RuntimeException", "java/lang/Exception"] := ⟨by decide +kernel, by decide +kernel, gT_of 288 (by decide +kernel) (by decide +kernel), gT_of 30 (by decide +kernel) (by decide +kernel), by decide +kernel, va_at_60⟩
theorem th_56_108_60 : gThr RX6 56 108 60 "java/lang/IllegalStateException" "the version of now is the version 0" ["java/lang/RuntimeException", "java/lang/Exception"] := ⟨by decide +kernel, by decide +kernel, gT_of 288 (by decide +kernel) (by decide +kernel), gT_of 30 (by decide +kernel) (by decide +kernel), by decide +kernel, va_at_60⟩
set_option maxRecDepth 100000 in
theorem va_at_193 : ∀ w ∈ vx_atS RX6 193 "java/lang/IllegalArgumentException" ["java/lang/RuntimeException", "java/lang/Exception"], w ∈ gT ∨ w ∈ gN := at_of [26, 236, 245, 250, 253, 255, 237, 238, 50, 51, 239, 244, 251, 271, 226, 272, 228, 273, 230, 240, 242, 232, 267, 268, 270, 232, 258, 259, 260, 261, 218, 261, 262, 263, 264, 220, 264, 265, 266, 267, 222, 257, 215, 216, 223, 224, 225, 227, 229, 231, 235, 234, 233] (by decide +kernel) (by decide +kernel)
theorem th_189_191_193 : gThr RX6 189 191 193 "java/lang/IllegalArgumentException" "an argument is out of its range" ["java/lang/RuntimeException", "java/lang/Exception"] := ⟨by decide +kernel, by decide +kernel, gT_of 214 (by decide +kernel) (by decide +kernel), gT_of 29 (by decide +kernel) (by decide +kernel), by decide +kernel, va_at_193⟩
set_option maxRecDepth 100000 in
theorem va_at_198 : ∀ w ∈ vx_atS RX6 198 "java/lang/IndexOutOfBoundsException" ["java/lang/RuntimeException", "java/lang/Exception"], w ∈ gT ∨ w ∈ gN := at_of [26, 236, 245, 250, 253, 255, 237, 238, 50, 51, 239, 244, 251, 271, 226, 272, 228, 273, 230, 240, 242, 232, 267, 268, 270, 232, 333, 334, 335, 261, 218, 261, 262, 263, 264, 220, 264, 265, 266, 267, 222, 332, 323, 324, 325, 248, 326, 327, 328, 329, 235, 234, 330] (by decide +kernel) (by decide +kernel)
theorem th_194_196_198 : gThr RX6 194 196 198 "java/lang/IndexOutOfBoundsException" "there is no such page" ["java/lang/RuntimeException", "java/lang/Exception"] := ⟨by decide +kernel, by decide +kernel, gT_of 322 (by decide +kernel) (by decide +kernel), gT_of 31 (by decide +kernel) (by decide +kernel), by decide +kernel, va_at_198⟩
theorem th_194_199_198 : gThr RX6 194 199 198 "java/lang/IndexOutOfBoundsException" "there is no such user" ["java/lang/RuntimeException", "java/lang/Exception"] := ⟨by decide +kernel, by decide +kernel, gT_of 322 (by decide +kernel) (by decide +kernel), gT_of 31 (by decide +kernel) (by decide +kernel), by decide +kernel, va_at_198⟩
theorem th_56_209_60 : gThr RX6 56 209 60 "java/lang/IllegalStateException" "the draft has 30 pieces" ["java/lang/RuntimeException", "java/lang/Exception"] := ⟨by decide +kernel, by decide +kernel, gT_of 288 (by decide +kernel) (by decide +kernel), gT_of 30 (by decide +kernel) (by decide +kernel), by decide +kernel, va_at_60⟩
