set_option maxRecDepth 100000 in
set_option maxHeartbeats 4000000 in
theorem w_letter (l : Launch) (hl : l.stackTraces = false) (D : gD) {w : wW} {τ ad : Nat → Nat} {nb tb : Nat} {σ : Sg} {g9 : Nat → Int64} {j : Int} (hW : WkI D w τ ad nb tb σ) (ht : τ (ad 6000) = 6000) (hO : w (ad 6000) = some (lar D 1 g9)) (hj : inR j) : CTh l D yL_letter cL_letter 4 (some .int) [(0, 9, 12, 13), (0, 9, 15, 15)] (rmL 22 10 200) [.ref (ad 0), .int (Z32 j), .ref (ad 6000)] w (fun u w1 => u = some (.int (Z32 (oLetter σ j).1)) ∧ WKP D w τ ad (oLetter σ j) w1) := by
  refine CTh_of hl rfl (by rfl) (Nat.le_of_ble_eq_true rfl) ?_
  intro G C
  show G 0 0 w [some (.ref (ad 0)), some (.int (Z32 j)), some (.ref (ad 6000)), none] 0 []
  refine i_aload_n C dL_letter_0 (kk := ?_)
  refine i_iconst C dL_letter_1 (kk := ?_)
  refine i_aload_n C dL_letter_2 (kk := ?_)
  refine i_iload_n C dL_letter_3 (kk := ?_)
  refine i_callVC C lk_L_7 (c_X6_letter l hl D (hW := hW)) (hcl := rfl) (hst := rfl) dL_letter_4 (hw := hW.obj) (hxx := fun E w1 H9 => ?_) (kk := fun v9 w9 G9 => ?_)
  · have key : ((E = "java/lang/IllegalArgumentException" ∧ (oLetter σ j).1 = 1) ∨ (E = "java/lang/IllegalStateException" ∧ (oLetter σ j).1 = 2)) ∧ (oLetter σ j).2.2 = σ ∧ KPc D w τ ad σ w1 := by
      rcases H9 with ⟨H9, hw⟩
      rcases H9 with ⟨hE, hn⟩ | ⟨hE, hn⟩
      · have e : oLetter σ j = (1, 0, σ) := op3_e1 (by omega)
        exact ⟨Or.inl (⟨hE, by rw [e]⟩), by rw [e], KPc.same hW hw⟩
      · have e : oLetter σ j = (2, 0, σ) := op3_e2 ⟨by omega, by omega⟩ hn.2
        exact ⟨Or.inr (⟨hE, by rw [e]⟩), by rw [e], KPc.same hW hw⟩
    obtain ⟨hc, hσ, hK⟩ := key
    rcases hc with ⟨rfl, hR⟩ | ⟨rfl, hR⟩
    · refine ⟨12, ⟨[], [(0, 9, 15, 15)], (0, 9, 12, 13), rfl, ((fun z hz => nomatch hz)), by decide, by decide, rfl, xl_13, xc_13⟩, fun q => ?_⟩
      refine i_astore_n C dL_letter_12 (kk := ?_)
      refine i_iconst C dL_letter_13 (kk := ?_)
      exact i_iret C (d := dL_letter_14) (h := ⟨by rw [hR], hK.thrown ht hO (by rw [hR]; decide) hσ⟩)
    · refine ⟨15, ⟨[(0, 9, 12, 13)], [], (0, 9, 15, 15), rfl, (by intro z hz; simp only [tableOf, List.map_cons, List.map_nil, List.mem_cons, List.not_mem_nil, or_false] at hz; rcases hz with rfl <;> first | exact ⟨by decide, _, xl_13, by decide⟩), by decide, by decide, rfl, xl_15, xc_15⟩, fun q => ?_⟩
      refine i_astore_n C dL_letter_15 (kk := ?_)
      refine i_iconst C dL_letter_16 (kk := ?_)
      exact i_iret C (d := dL_letter_17) (h := ⟨by rw [hR], hK.thrown ht hO (by rw [hR]; decide) hσ⟩)
  · have key : (oLetter σ j).1 = 0 ∧ v9 = some (.int (Z32 (oLetter σ j).2.1)) ∧ KPc D w τ ad (oLetter σ j).2.2 w9 := by
      obtain ⟨h1, hl, hu, hW1, o1⟩ := G9
      have e : oLetter σ j = opDr σ (0, -1, j) := op3_t ⟨by omega, by omega⟩ hl trivial
      rw [e]
      exact ⟨rfl, hu, KPc.off hW1 o1⟩
    obtain ⟨hR, rfl, hK⟩ := key
    have hO9 := hK.out ht hO
    refine i_i2l C dL_letter_7 (kk := ?_)
    refine i_lastore C dL_letter_8 (hw := hO9) (kk := ?_)
    refine i_goto C dL_letter_9 (tgt := 18) (kk := ?_)
    refine i_iconst C dL_letter_18 (kk := ?_)
    exact i_iret C (d := dL_letter_19) (h := ⟨by rw [hR], hK.store ht hO rfl⟩)

set_option maxRecDepth 100000 in
set_option maxHeartbeats 4000000 in
theorem w_argument (l : Launch) (hl : l.stackTraces = false) (D : gD) {w : wW} {τ ad : Nat → Nat} {nb tb : Nat} {σ : Sg} {g9 : Nat → Int64} (hW : WkI D w τ ad nb tb σ) (ht : τ (ad 6000) = 6000) (hO : w (ad 6000) = some (lar D 1 g9)) : CTh l D yL_argument cL_argument 3 (some .int) [(0, 8, 11, 15)] (rmL 22 10 200) [.ref (ad 0), .ref (ad 6000)] w (fun u w1 => u = some (.int (Z32 (oArgument σ).1)) ∧ WKP D w τ ad (oArgument σ) w1) := by
  refine CTh_of hl rfl (by rfl) (Nat.le_of_ble_eq_true rfl) ?_
  intro G C
  show G 0 0 w [some (.ref (ad 0)), some (.ref (ad 6000)), none] 0 []
  refine i_aload_n C dL_argument_0 (kk := ?_)
  refine i_iconst C dL_argument_1 (kk := ?_)
  refine i_aload_n C dL_argument_2 (kk := ?_)
  refine i_callVC C lk_L_17 (c_X6_argument l hl D (hW := hW)) (hcl := rfl) (hst := rfl) dL_argument_3 (hw := hW.obj) (hxx := fun E w1 H9 => ?_) (kk := fun v9 w9 G9 => ?_)
  · have key : ((E = "java/lang/IllegalStateException" ∧ (oArgument σ).1 = 1)) ∧ (oArgument σ).2.2 = σ ∧ KPc D w τ ad σ w1 := by
      rcases H9 with ⟨H9, hw⟩
      obtain ⟨hE, hn⟩ := H9
      have e : oArgument σ = (1, 0, σ) := op3_e1 hn
      exact ⟨⟨hE, by rw [e]⟩, by rw [e], KPc.same hW hw⟩
    obtain ⟨hc, hσ, hK⟩ := key
    obtain ⟨rfl, hR⟩ := hc
    refine ⟨11, ⟨[], [], (0, 8, 11, 15), rfl, ((fun z hz => nomatch hz)), by decide, by decide, rfl, xl_15, xc_15⟩, fun q => ?_⟩
    refine i_astore_n C dL_argument_11 (kk := ?_)
    refine i_iconst C dL_argument_12 (kk := ?_)
    exact i_iret C (d := dL_argument_13) (h := ⟨by rw [hR], hK.thrown ht hO (by rw [hR]; decide) hσ⟩)
  · have key : (oArgument σ).1 = 0 ∧ v9 = some (.int (Z32 (oArgument σ).2.1)) ∧ KPc D w τ ad (oArgument σ).2.2 w9 := by
      obtain ⟨hl, hu, hW1, o1⟩ := G9
      have e : oArgument σ = opDr σ (3, -1, -1) := op3_t hl trivial trivial
      rw [e]
      exact ⟨rfl, hu, KPc.off hW1 o1⟩
    obtain ⟨hR, rfl, hK⟩ := key
    have hO9 := hK.out ht hO
    refine i_i2l C dL_argument_6 (kk := ?_)
    refine i_lastore C dL_argument_7 (hw := hO9) (kk := ?_)
    refine i_goto C dL_argument_8 (tgt := 14) (kk := ?_)
    refine i_iconst C dL_argument_14 (kk := ?_)
    exact i_iret C (d := dL_argument_15) (h := ⟨by rw [hR], hK.store ht hO rfl⟩)

set_option maxRecDepth 100000 in
set_option maxHeartbeats 4000000 in
theorem w_call (l : Launch) (hl : l.stackTraces = false) (D : gD) {w : wW} {τ ad : Nat → Nat} {nb tb : Nat} {σ : Sg} {g9 : Nat → Int64} {i j : Int} (hW : WkI D w τ ad nb tb σ) (ht : τ (ad 6000) = 6000) (hO : w (ad 6000) = some (lar D 1 g9)) (hi : inR i) (hj : inR j) : CTh l D yL_call cL_call 5 (some .int) [(0, 10, 13, 25), (0, 10, 17, 13), (0, 10, 21, 15)] (rmL 22 10 200) [.ref (ad 0), .int (Z32 i), .int (Z32 j), .ref (ad 6000)] w (fun u w1 => u = some (.int (Z32 (oCall σ i j).1)) ∧ WKP D w τ ad (oCall σ i j) w1) := by
  refine CTh_of hl rfl (by rfl) (Nat.le_of_ble_eq_true rfl) ?_
  intro G C
  show G 0 0 w [some (.ref (ad 0)), some (.int (Z32 i)), some (.int (Z32 j)), some (.ref (ad 6000)), none] 0 []
  refine i_aload_n C dL_call_0 (kk := ?_)
  refine i_iconst C dL_call_1 (kk := ?_)
  refine i_aload_n C dL_call_2 (kk := ?_)
  refine i_iload_n C dL_call_3 (kk := ?_)
  refine i_iload_n C dL_call_4 (kk := ?_)
  refine i_callVC C lk_L_21 (c_X6_call l hl D (hW := hW)) (hcl := rfl) (hst := rfl) dL_call_5 (hw := hW.obj) (hxx := fun E w1 H9 => ?_) (kk := fun v9 w9 G9 => ?_)
  · have key : ((E = "java/lang/IndexOutOfBoundsException" ∧ (oCall σ i j).1 = 1) ∨ (E = "java/lang/IllegalArgumentException" ∧ (oCall σ i j).1 = 2) ∨ (E = "java/lang/IllegalStateException" ∧ (oCall σ i j).1 = 3)) ∧ (oCall σ i j).2.2 = σ ∧ KPc D w τ ad σ w1 := by
      rcases H9 with ⟨H9, hw⟩
      rcases H9 with ⟨hE, hn⟩ | ⟨hE, hn⟩ | ⟨hE, hn⟩
      · have e : oCall σ i j = (1, 0, σ) := op3_e1 (by omega)
        exact ⟨Or.inl (⟨hE, by rw [e]⟩), by rw [e], KPc.same hW hw⟩
      · have e : oCall σ i j = (2, 0, σ) := op3_e2 ⟨by omega, by omega⟩ (by omega)
        exact ⟨Or.inr (Or.inl (⟨hE, by rw [e]⟩)), by rw [e], KPc.same hW hw⟩
      · have e : oCall σ i j = (3, 0, σ) := op3_e3 ⟨by omega, by omega⟩ (by omega) hn.2.2
        exact ⟨Or.inr (Or.inr (⟨hE, by rw [e]⟩)), by rw [e], KPc.same hW hw⟩
    obtain ⟨hc, hσ, hK⟩ := key
    rcases hc with ⟨rfl, hR⟩ | ⟨rfl, hR⟩ | ⟨rfl, hR⟩
    · refine ⟨13, ⟨[], [(0, 10, 17, 13), (0, 10, 21, 15)], (0, 10, 13, 25), rfl, ((fun z hz => nomatch hz)), by decide, by decide, rfl, xl_25, xc_25⟩, fun q => ?_⟩
      refine i_astore C dL_call_13 (kk := ?_)
      refine i_iconst C dL_call_15 (kk := ?_)
      exact i_iret C (d := dL_call_16) (h := ⟨by rw [hR], hK.thrown ht hO (by rw [hR]; decide) hσ⟩)
    · refine ⟨17, ⟨[(0, 10, 13, 25)], [(0, 10, 21, 15)], (0, 10, 17, 13), rfl, (by intro z hz; simp only [tableOf, List.map_cons, List.map_nil, List.mem_cons, List.not_mem_nil, or_false] at hz; rcases hz with rfl <;> first | exact ⟨by decide, _, xl_25, by decide⟩), by decide, by decide, rfl, xl_13, xc_13⟩, fun q => ?_⟩
      refine i_astore C dL_call_17 (kk := ?_)
      refine i_iconst C dL_call_19 (kk := ?_)
      exact i_iret C (d := dL_call_20) (h := ⟨by rw [hR], hK.thrown ht hO (by rw [hR]; decide) hσ⟩)
    · refine ⟨21, ⟨[(0, 10, 13, 25), (0, 10, 17, 13)], [], (0, 10, 21, 15), rfl, (by intro z hz; simp only [tableOf, List.map_cons, List.map_nil, List.mem_cons, List.not_mem_nil, or_false] at hz; rcases hz with rfl | rfl <;> first | exact ⟨by decide, _, xl_25, by decide⟩ | exact ⟨by decide, _, xl_13, by decide⟩), by decide, by decide, rfl, xl_15, xc_15⟩, fun q => ?_⟩
      refine i_astore C dL_call_21 (kk := ?_)
      refine i_iconst C dL_call_23 (kk := ?_)
      exact i_iret C (d := dL_call_24) (h := ⟨by rw [hR], hK.thrown ht hO (by rw [hR]; decide) hσ⟩)
  · have key : (oCall σ i j).1 = 0 ∧ v9 = some (.int (Z32 (oCall σ i j).2.1)) ∧ KPc D w τ ad (oCall σ i j).2.2 w9 := by
      obtain ⟨h1, h2, hl, hu, hW1, o1⟩ := G9
      have e : oCall σ i j = opDr σ (4, i, j) := op3_t ⟨by omega, by omega⟩ (by omega) hl
      rw [e]
      exact ⟨rfl, hu, KPc.off hW1 o1⟩
    obtain ⟨hR, rfl, hK⟩ := key
    have hO9 := hK.out ht hO
    refine i_i2l C dL_call_8 (kk := ?_)
    refine i_lastore C dL_call_9 (hw := hO9) (kk := ?_)
    refine i_goto C dL_call_10 (tgt := 25) (kk := ?_)
    refine i_iconst C dL_call_25 (kk := ?_)
    exact i_iret C (d := dL_call_26) (h := ⟨by rw [hR], hK.store ht hO rfl⟩)

set_option maxRecDepth 100000 in
set_option maxHeartbeats 4000000 in
theorem w_callOn (l : Launch) (hl : l.stackTraces = false) (D : gD) {w : wW} {τ ad : Nat → Nat} {nb tb : Nat} {σ : Sg} {g9 : Nat → Int64} {i : Int} (hW : WkI D w τ ad nb tb σ) (ht : τ (ad 6000) = 6000) (hO : w (ad 6000) = some (lar D 1 g9)) (hi : inR i) : CTh l D yL_callOn cL_callOn 4 (some .int) [(0, 9, 12, 25), (0, 9, 15, 15)] (rmL 22 10 200) [.ref (ad 0), .int (Z32 i), .ref (ad 6000)] w (fun u w1 => u = some (.int (Z32 (oCallOn σ i).1)) ∧ WKP D w τ ad (oCallOn σ i) w1) := by
  refine CTh_of hl rfl (by rfl) (Nat.le_of_ble_eq_true rfl) ?_
  intro G C
  show G 0 0 w [some (.ref (ad 0)), some (.int (Z32 i)), some (.ref (ad 6000)), none] 0 []
  refine i_aload_n C dL_callOn_0 (kk := ?_)
  refine i_iconst C dL_callOn_1 (kk := ?_)
  refine i_aload_n C dL_callOn_2 (kk := ?_)
  refine i_iload_n C dL_callOn_3 (kk := ?_)
  refine i_callVC C lk_L_27 (c_X6_callOn l hl D (hW := hW)) (hcl := rfl) (hst := rfl) dL_callOn_4 (hw := hW.obj) (hxx := fun E w1 H9 => ?_) (kk := fun v9 w9 G9 => ?_)
  · have key : ((E = "java/lang/IndexOutOfBoundsException" ∧ (oCallOn σ i).1 = 1) ∨ (E = "java/lang/IllegalStateException" ∧ (oCallOn σ i).1 = 2)) ∧ (oCallOn σ i).2.2 = σ ∧ KPc D w τ ad σ w1 := by
      rcases H9 with ⟨H9, hw⟩
      rcases H9 with ⟨hE, hn⟩ | ⟨hE, hn⟩
      · have e : oCallOn σ i = (1, 0, σ) := op3_e1 (by omega)
        exact ⟨Or.inl (⟨hE, by rw [e]⟩), by rw [e], KPc.same hW hw⟩
      · have e : oCallOn σ i = (2, 0, σ) := op3_e2 ⟨by omega, by omega⟩ hn.2
        exact ⟨Or.inr (⟨hE, by rw [e]⟩), by rw [e], KPc.same hW hw⟩
    obtain ⟨hc, hσ, hK⟩ := key
    rcases hc with ⟨rfl, hR⟩ | ⟨rfl, hR⟩
    · refine ⟨12, ⟨[], [(0, 9, 15, 15)], (0, 9, 12, 25), rfl, ((fun z hz => nomatch hz)), by decide, by decide, rfl, xl_25, xc_25⟩, fun q => ?_⟩
      refine i_astore_n C dL_callOn_12 (kk := ?_)
      refine i_iconst C dL_callOn_13 (kk := ?_)
      exact i_iret C (d := dL_callOn_14) (h := ⟨by rw [hR], hK.thrown ht hO (by rw [hR]; decide) hσ⟩)
    · refine ⟨15, ⟨[(0, 9, 12, 25)], [], (0, 9, 15, 15), rfl, (by intro z hz; simp only [tableOf, List.map_cons, List.map_nil, List.mem_cons, List.not_mem_nil, or_false] at hz; rcases hz with rfl <;> first | exact ⟨by decide, _, xl_25, by decide⟩), by decide, by decide, rfl, xl_15, xc_15⟩, fun q => ?_⟩
      refine i_astore_n C dL_callOn_15 (kk := ?_)
      refine i_iconst C dL_callOn_16 (kk := ?_)
      exact i_iret C (d := dL_callOn_17) (h := ⟨by rw [hR], hK.thrown ht hO (by rw [hR]; decide) hσ⟩)
  · have key : (oCallOn σ i).1 = 0 ∧ v9 = some (.int (Z32 (oCallOn σ i).2.1)) ∧ KPc D w τ ad (oCallOn σ i).2.2 w9 := by
      obtain ⟨h1, hl, hu, hW1, o1⟩ := G9
      have e : oCallOn σ i = opDr σ (5, i, -1) := op3_t ⟨by omega, by omega⟩ hl trivial
      rw [e]
      exact ⟨rfl, hu, KPc.off hW1 o1⟩
    obtain ⟨hR, rfl, hK⟩ := key
    have hO9 := hK.out ht hO
    refine i_i2l C dL_callOn_7 (kk := ?_)
    refine i_lastore C dL_callOn_8 (hw := hO9) (kk := ?_)
    refine i_goto C dL_callOn_9 (tgt := 18) (kk := ?_)
    refine i_iconst C dL_callOn_18 (kk := ?_)
    exact i_iret C (d := dL_callOn_19) (h := ⟨by rw [hR], hK.store ht hO rfl⟩)

set_option maxRecDepth 100000 in
set_option maxHeartbeats 4000000 in
theorem w_when (l : Launch) (hl : l.stackTraces = false) (D : gD) {w : wW} {τ ad : Nat → Nat} {nb tb : Nat} {σ : Sg} {g9 : Nat → Int64} {j : Int} (hW : WkI D w τ ad nb tb σ) (ht : τ (ad 6000) = 6000) (hO : w (ad 6000) = some (lar D 1 g9)) (hj : inR j) : CTh l D yL_when cL_when 4 (some .int) [(0, 9, 12, 13), (0, 9, 15, 15)] (rmL 22 10 200) [.ref (ad 0), .int (Z32 j), .ref (ad 6000)] w (fun u w1 => u = some (.int (Z32 (oWhen σ j).1)) ∧ WKP D w τ ad (oWhen σ j) w1) := by
  refine CTh_of hl rfl (by rfl) (Nat.le_of_ble_eq_true rfl) ?_
  intro G C
  show G 0 0 w [some (.ref (ad 0)), some (.int (Z32 j)), some (.ref (ad 6000)), none] 0 []
  refine i_aload_n C dL_when_0 (kk := ?_)
  refine i_iconst C dL_when_1 (kk := ?_)
  refine i_aload_n C dL_when_2 (kk := ?_)
  refine i_iload_n C dL_when_3 (kk := ?_)
  refine i_callVC C lk_L_30 (c_X6_when l hl D (hW := hW)) (hcl := rfl) (hst := rfl) dL_when_4 (hw := hW.obj) (hxx := fun E w1 H9 => ?_) (kk := fun v9 w9 G9 => ?_)
  · have key : ((E = "java/lang/IllegalArgumentException" ∧ (oWhen σ j).1 = 1) ∨ (E = "java/lang/IllegalStateException" ∧ (oWhen σ j).1 = 2)) ∧ (oWhen σ j).2.2 = σ ∧ KPc D w τ ad σ w1 := by
      rcases H9 with ⟨H9, hw⟩
      rcases H9 with ⟨hE, hn⟩ | ⟨hE, hn⟩
      · have e : oWhen σ j = (1, 0, σ) := op3_e1 (by omega)
        exact ⟨Or.inl (⟨hE, by rw [e]⟩), by rw [e], KPc.same hW hw⟩
      · have e : oWhen σ j = (2, 0, σ) := op3_e2 ⟨by omega, by omega⟩ hn.2
        exact ⟨Or.inr (⟨hE, by rw [e]⟩), by rw [e], KPc.same hW hw⟩
    obtain ⟨hc, hσ, hK⟩ := key
    rcases hc with ⟨rfl, hR⟩ | ⟨rfl, hR⟩
    · refine ⟨12, ⟨[], [(0, 9, 15, 15)], (0, 9, 12, 13), rfl, ((fun z hz => nomatch hz)), by decide, by decide, rfl, xl_13, xc_13⟩, fun q => ?_⟩
      refine i_astore_n C dL_when_12 (kk := ?_)
      refine i_iconst C dL_when_13 (kk := ?_)
      exact i_iret C (d := dL_when_14) (h := ⟨by rw [hR], hK.thrown ht hO (by rw [hR]; decide) hσ⟩)
    · refine ⟨15, ⟨[(0, 9, 12, 13)], [], (0, 9, 15, 15), rfl, (by intro z hz; simp only [tableOf, List.map_cons, List.map_nil, List.mem_cons, List.not_mem_nil, or_false] at hz; rcases hz with rfl <;> first | exact ⟨by decide, _, xl_13, by decide⟩), by decide, by decide, rfl, xl_15, xc_15⟩, fun q => ?_⟩
      refine i_astore_n C dL_when_15 (kk := ?_)
      refine i_iconst C dL_when_16 (kk := ?_)
      exact i_iret C (d := dL_when_17) (h := ⟨by rw [hR], hK.thrown ht hO (by rw [hR]; decide) hσ⟩)
  · have key : (oWhen σ j).1 = 0 ∧ v9 = some (.int (Z32 (oWhen σ j).2.1)) ∧ KPc D w τ ad (oWhen σ j).2.2 w9 := by
      obtain ⟨h1, hl, hu, hW1, o1⟩ := G9
      have e : oWhen σ j = opDr σ (6, -1, j) := op3_t ⟨by omega, by omega⟩ hl trivial
      rw [e]
      exact ⟨rfl, hu, KPc.off hW1 o1⟩
    obtain ⟨hR, rfl, hK⟩ := key
    have hO9 := hK.out ht hO
    refine i_i2l C dL_when_7 (kk := ?_)
    refine i_lastore C dL_when_8 (hw := hO9) (kk := ?_)
    refine i_goto C dL_when_9 (tgt := 18) (kk := ?_)
    refine i_iconst C dL_when_18 (kk := ?_)
    exact i_iret C (d := dL_when_19) (h := ⟨by rw [hR], hK.store ht hO rfl⟩)

set_option maxRecDepth 100000 in
set_option maxHeartbeats 4000000 in
theorem w_end (l : Launch) (hl : l.stackTraces = false) (D : gD) {w : wW} {τ ad : Nat → Nat} {nb tb : Nat} {σ : Sg} {g9 : Nat → Int64} (hW : WkI D w τ ad nb tb σ) (ht : τ (ad 6000) = 6000) (hO : w (ad 6000) = some (lar D 1 g9)) : CTh l D yL_end cL_end 3 (some .int) [(0, 8, 11, 15)] (rmL 22 10 200) [.ref (ad 0), .ref (ad 6000)] w (fun u w1 => u = some (.int (Z32 (oEnd σ).1)) ∧ WKP D w τ ad (oEnd σ) w1) := by
  refine CTh_of hl rfl (by rfl) (Nat.le_of_ble_eq_true rfl) ?_
  intro G C
  show G 0 0 w [some (.ref (ad 0)), some (.ref (ad 6000)), none] 0 []
  refine i_aload_n C dL_end_0 (kk := ?_)
  refine i_iconst C dL_end_1 (kk := ?_)
  refine i_aload_n C dL_end_2 (kk := ?_)
  refine i_callVC C lk_L_33 (c_X6_end l hl D (hW := hW)) (hcl := rfl) (hst := rfl) dL_end_3 (hw := hW.obj) (hxx := fun E w1 H9 => ?_) (kk := fun v9 w9 G9 => ?_)
  · have key : ((E = "java/lang/IllegalStateException" ∧ (oEnd σ).1 = 1)) ∧ (oEnd σ).2.2 = σ ∧ KPc D w τ ad σ w1 := by
      obtain ⟨hE9, hn9, hw⟩ := H9
      have H9 := And.intro hE9 hn9
      obtain ⟨hE, hn⟩ := H9
      have e : oEnd σ = (1, 0, σ) := op3_e1 (fun q => hn ⟨q.2, q.1⟩)
      exact ⟨⟨hE, by rw [e]⟩, by rw [e], KPc.same hW hw⟩
    obtain ⟨hc, hσ, hK⟩ := key
    obtain ⟨rfl, hR⟩ := hc
    refine ⟨11, ⟨[], [], (0, 8, 11, 15), rfl, ((fun z hz => nomatch hz)), by decide, by decide, rfl, xl_15, xc_15⟩, fun q => ?_⟩
    refine i_astore_n C dL_end_11 (kk := ?_)
    refine i_iconst C dL_end_12 (kk := ?_)
    exact i_iret C (d := dL_end_13) (h := ⟨by rw [hR], hK.thrown ht hO (by rw [hR]; decide) hσ⟩)
  · have key : (oEnd σ).1 = 0 ∧ v9 = some (.int (Z32 (oEnd σ).2.1)) ∧ KPc D w τ ad (oEnd σ).2.2 w9 := by
      obtain ⟨h1, hl, hu, hW1, o1⟩ := G9
      have e : oEnd σ = opDr σ (7, -1, -1) := op3_t ⟨hl, h1⟩ trivial trivial
      rw [e]
      exact ⟨rfl, hu, KPc.off hW1 o1⟩
    obtain ⟨hR, rfl, hK⟩ := key
    have hO9 := hK.out ht hO
    refine i_i2l C dL_end_6 (kk := ?_)
    refine i_lastore C dL_end_7 (hw := hO9) (kk := ?_)
    refine i_goto C dL_end_8 (tgt := 14) (kk := ?_)
    refine i_iconst C dL_end_14 (kk := ?_)
    exact i_iret C (d := dL_end_15) (h := ⟨by rw [hR], hK.store ht hO rfl⟩)

set_option maxRecDepth 100000 in
set_option maxHeartbeats 4000000 in
theorem w_anchor (l : Launch) (hl : l.stackTraces = false) (D : gD) {w : wW} {τ ad : Nat → Nat} {nb tb : Nat} {σ : Sg} {g9 : Nat → Int64} {j : Int} (hW : WkI D w τ ad nb tb σ) (ht : τ (ad 6000) = 6000) (hO : w (ad 6000) = some (lar D 1 g9)) (hj : inR j) : CTh l D yL_anchor cL_anchor 4 (some .int) [(0, 9, 12, 13), (0, 9, 15, 15)] (rmL 22 10 200) [.ref (ad 0), .int (Z32 j), .ref (ad 6000)] w (fun u w1 => u = some (.int (Z32 (oAnchor σ j).1)) ∧ WKP D w τ ad (oAnchor σ j) w1) := by
  refine CTh_of hl rfl (by rfl) (Nat.le_of_ble_eq_true rfl) ?_
  intro G C
  show G 0 0 w [some (.ref (ad 0)), some (.int (Z32 j)), some (.ref (ad 6000)), none] 0 []
  refine i_aload_n C dL_anchor_0 (kk := ?_)
  refine i_iconst C dL_anchor_1 (kk := ?_)
  refine i_aload_n C dL_anchor_2 (kk := ?_)
  refine i_iload_n C dL_anchor_3 (kk := ?_)
  refine i_callVC C lk_L_36 (c_X6_anchor l hl D (hW := hW)) (hcl := rfl) (hst := rfl) dL_anchor_4 (hw := hW.obj) (hxx := fun E w1 H9 => ?_) (kk := fun v9 w9 G9 => ?_)
  · have key : ((E = "java/lang/IllegalArgumentException" ∧ (oAnchor σ j).1 = 1) ∨ (E = "java/lang/IllegalStateException" ∧ (oAnchor σ j).1 = 2)) ∧ (oAnchor σ j).2.2 = σ ∧ KPc D w τ ad σ w1 := by
      rcases H9 with ⟨H9, hw⟩
      rcases H9 with ⟨hE, hn⟩ | ⟨hE, hn⟩
      · have e : oAnchor σ j = (1, 0, σ) := op3_e1 (by omega)
        exact ⟨Or.inl (⟨hE, by rw [e]⟩), by rw [e], KPc.same hW hw⟩
      · have e : oAnchor σ j = (2, 0, σ) := op3_e2 ⟨by omega, by omega⟩ hn.2
        exact ⟨Or.inr (⟨hE, by rw [e]⟩), by rw [e], KPc.same hW hw⟩
    obtain ⟨hc, hσ, hK⟩ := key
    rcases hc with ⟨rfl, hR⟩ | ⟨rfl, hR⟩
    · refine ⟨12, ⟨[], [(0, 9, 15, 15)], (0, 9, 12, 13), rfl, ((fun z hz => nomatch hz)), by decide, by decide, rfl, xl_13, xc_13⟩, fun q => ?_⟩
      refine i_astore_n C dL_anchor_12 (kk := ?_)
      refine i_iconst C dL_anchor_13 (kk := ?_)
      exact i_iret C (d := dL_anchor_14) (h := ⟨by rw [hR], hK.thrown ht hO (by rw [hR]; decide) hσ⟩)
    · refine ⟨15, ⟨[(0, 9, 12, 13)], [], (0, 9, 15, 15), rfl, (by intro z hz; simp only [tableOf, List.map_cons, List.map_nil, List.mem_cons, List.not_mem_nil, or_false] at hz; rcases hz with rfl <;> first | exact ⟨by decide, _, xl_13, by decide⟩), by decide, by decide, rfl, xl_15, xc_15⟩, fun q => ?_⟩
      refine i_astore_n C dL_anchor_15 (kk := ?_)
      refine i_iconst C dL_anchor_16 (kk := ?_)
      exact i_iret C (d := dL_anchor_17) (h := ⟨by rw [hR], hK.thrown ht hO (by rw [hR]; decide) hσ⟩)
  · have key : (oAnchor σ j).1 = 0 ∧ v9 = some (.int (Z32 (oAnchor σ j).2.1)) ∧ KPc D w τ ad (oAnchor σ j).2.2 w9 := by
      obtain ⟨h1, hl, hu, hW1, o1⟩ := G9
      have e : oAnchor σ j = opDr σ (1, -1, j) := op3_t ⟨by omega, by omega⟩ hl trivial
      rw [e]
      exact ⟨rfl, hu, KPc.off hW1 o1⟩
    obtain ⟨hR, rfl, hK⟩ := key
    have hO9 := hK.out ht hO
    refine i_i2l C dL_anchor_7 (kk := ?_)
    refine i_lastore C dL_anchor_8 (hw := hO9) (kk := ?_)
    refine i_goto C dL_anchor_9 (tgt := 18) (kk := ?_)
    refine i_iconst C dL_anchor_18 (kk := ?_)
    exact i_iret C (d := dL_anchor_19) (h := ⟨by rw [hR], hK.store ht hO rfl⟩)

set_option maxRecDepth 100000 in
set_option maxHeartbeats 4000000 in
theorem w_link (l : Launch) (hl : l.stackTraces = false) (D : gD) {w : wW} {τ ad : Nat → Nat} {nb tb : Nat} {σ : Sg} {g9 : Nat → Int64} {i j : Int} (hW : WkI D w τ ad nb tb σ) (ht : τ (ad 6000) = 6000) (hO : w (ad 6000) = some (lar D 1 g9)) (hi : inR i) (hj : inR j) : CTh l D yL_link cL_link 5 (some .int) [(0, 10, 13, 25), (0, 10, 17, 13), (0, 10, 21, 15)] (rmL 22 10 200) [.ref (ad 0), .int (Z32 i), .int (Z32 j), .ref (ad 6000)] w (fun u w1 => u = some (.int (Z32 (oLink σ i j).1)) ∧ WKP D w τ ad (oLink σ i j) w1) := by
  refine CTh_of hl rfl (by rfl) (Nat.le_of_ble_eq_true rfl) ?_
  intro G C
  show G 0 0 w [some (.ref (ad 0)), some (.int (Z32 i)), some (.int (Z32 j)), some (.ref (ad 6000)), none] 0 []
  refine i_aload_n C dL_link_0 (kk := ?_)
  refine i_iconst C dL_link_1 (kk := ?_)
  refine i_aload_n C dL_link_2 (kk := ?_)
  refine i_iload_n C dL_link_3 (kk := ?_)
  refine i_iload_n C dL_link_4 (kk := ?_)
  refine i_callVC C lk_L_39 (c_X6_link l hl D (hW := hW)) (hcl := rfl) (hst := rfl) dL_link_5 (hw := hW.obj) (hxx := fun E w1 H9 => ?_) (kk := fun v9 w9 G9 => ?_)
  · have key : ((E = "java/lang/IndexOutOfBoundsException" ∧ (oLink σ i j).1 = 1) ∨ (E = "java/lang/IllegalArgumentException" ∧ (oLink σ i j).1 = 2) ∨ (E = "java/lang/IllegalStateException" ∧ (oLink σ i j).1 = 3)) ∧ (oLink σ i j).2.2 = σ ∧ KPc D w τ ad σ w1 := by
      rcases H9 with ⟨H9, hw⟩
      rcases H9 with ⟨hE, hn⟩ | ⟨hE, hn⟩ | ⟨hE, hn⟩
      · have e : oLink σ i j = (1, 0, σ) := op3_e1 (by omega)
        exact ⟨Or.inl (⟨hE, by rw [e]⟩), by rw [e], KPc.same hW hw⟩
      · have e : oLink σ i j = (2, 0, σ) := op3_e2 ⟨by omega, by omega⟩ (by omega)
        exact ⟨Or.inr (Or.inl (⟨hE, by rw [e]⟩)), by rw [e], KPc.same hW hw⟩
      · have e : oLink σ i j = (3, 0, σ) := op3_e3 ⟨by omega, by omega⟩ ⟨by omega, by omega⟩ hn.2.2
        exact ⟨Or.inr (Or.inr (⟨hE, by rw [e]⟩)), by rw [e], KPc.same hW hw⟩
    obtain ⟨hc, hσ, hK⟩ := key
    rcases hc with ⟨rfl, hR⟩ | ⟨rfl, hR⟩ | ⟨rfl, hR⟩
    · refine ⟨13, ⟨[], [(0, 10, 17, 13), (0, 10, 21, 15)], (0, 10, 13, 25), rfl, ((fun z hz => nomatch hz)), by decide, by decide, rfl, xl_25, xc_25⟩, fun q => ?_⟩
      refine i_astore C dL_link_13 (kk := ?_)
      refine i_iconst C dL_link_15 (kk := ?_)
      exact i_iret C (d := dL_link_16) (h := ⟨by rw [hR], hK.thrown ht hO (by rw [hR]; decide) hσ⟩)
    · refine ⟨17, ⟨[(0, 10, 13, 25)], [(0, 10, 21, 15)], (0, 10, 17, 13), rfl, (by intro z hz; simp only [tableOf, List.map_cons, List.map_nil, List.mem_cons, List.not_mem_nil, or_false] at hz; rcases hz with rfl <;> first | exact ⟨by decide, _, xl_25, by decide⟩), by decide, by decide, rfl, xl_13, xc_13⟩, fun q => ?_⟩
      refine i_astore C dL_link_17 (kk := ?_)
      refine i_iconst C dL_link_19 (kk := ?_)
      exact i_iret C (d := dL_link_20) (h := ⟨by rw [hR], hK.thrown ht hO (by rw [hR]; decide) hσ⟩)
    · refine ⟨21, ⟨[(0, 10, 13, 25), (0, 10, 17, 13)], [], (0, 10, 21, 15), rfl, (by intro z hz; simp only [tableOf, List.map_cons, List.map_nil, List.mem_cons, List.not_mem_nil, or_false] at hz; rcases hz with rfl | rfl <;> first | exact ⟨by decide, _, xl_25, by decide⟩ | exact ⟨by decide, _, xl_13, by decide⟩), by decide, by decide, rfl, xl_15, xc_15⟩, fun q => ?_⟩
      refine i_astore C dL_link_21 (kk := ?_)
      refine i_iconst C dL_link_23 (kk := ?_)
      exact i_iret C (d := dL_link_24) (h := ⟨by rw [hR], hK.thrown ht hO (by rw [hR]; decide) hσ⟩)
  · have key : (oLink σ i j).1 = 0 ∧ v9 = some (.int (Z32 (oLink σ i j).2.1)) ∧ KPc D w τ ad (oLink σ i j).2.2 w9 := by
      obtain ⟨h1, h2, hl, hu, hW1, o1⟩ := G9
      have e : oLink σ i j = opDr σ (2, i, j) := op3_t ⟨by omega, by omega⟩ ⟨by omega, by omega⟩ hl
      rw [e]
      exact ⟨rfl, hu, KPc.off hW1 o1⟩
    obtain ⟨hR, rfl, hK⟩ := key
    have hO9 := hK.out ht hO
    refine i_i2l C dL_link_8 (kk := ?_)
    refine i_lastore C dL_link_9 (hw := hO9) (kk := ?_)
    refine i_goto C dL_link_10 (tgt := 25) (kk := ?_)
    refine i_iconst C dL_link_25 (kk := ?_)
    exact i_iret C (d := dL_link_26) (h := ⟨by rw [hR], hK.store ht hO rfl⟩)

set_option maxRecDepth 100000 in
set_option maxHeartbeats 4000000 in
theorem w_redirect (l : Launch) (hl : l.stackTraces = false) (D : gD) {w : wW} {τ ad : Nat → Nat} {nb tb : Nat} {σ : Sg} {g9 : Nat → Int64} {i : Int} (hW : WkI D w τ ad nb tb σ) (ht : τ (ad 6000) = 6000) (hO : w (ad 6000) = some (lar D 1 g9)) (hi : inR i) : CTh l D yL_redirect cL_redirect 4 (some .int) [(0, 9, 12, 25), (0, 9, 15, 15)] (rmL 22 10 200) [.ref (ad 0), .int (Z32 i), .ref (ad 6000)] w (fun u w1 => u = some (.int (Z32 (oRedirect σ i).1)) ∧ WKP D w τ ad (oRedirect σ i) w1) := by
  refine CTh_of hl rfl (by rfl) (Nat.le_of_ble_eq_true rfl) ?_
  intro G C
  show G 0 0 w [some (.ref (ad 0)), some (.int (Z32 i)), some (.ref (ad 6000)), none] 0 []
  refine i_aload_n C dL_redirect_0 (kk := ?_)
  refine i_iconst C dL_redirect_1 (kk := ?_)
  refine i_aload_n C dL_redirect_2 (kk := ?_)
  refine i_iload_n C dL_redirect_3 (kk := ?_)
  refine i_callVC C lk_L_42 (c_X6_redirect l hl D (hW := hW)) (hcl := rfl) (hst := rfl) dL_redirect_4 (hw := hW.obj) (hxx := fun E w1 H9 => ?_) (kk := fun v9 w9 G9 => ?_)
  · have key : ((E = "java/lang/IndexOutOfBoundsException" ∧ (oRedirect σ i).1 = 1) ∨ (E = "java/lang/IllegalStateException" ∧ (oRedirect σ i).1 = 2)) ∧ (oRedirect σ i).2.2 = σ ∧ KPc D w τ ad σ w1 := by
      rcases H9 with ⟨H9, hw⟩
      rcases H9 with ⟨hE, hn⟩ | ⟨hE, hn⟩
      · have e : oRedirect σ i = (1, 0, σ) := op3_e1 (by omega)
        exact ⟨Or.inl (⟨hE, by rw [e]⟩), by rw [e], KPc.same hW hw⟩
      · have e : oRedirect σ i = (2, 0, σ) := op3_e2 ⟨by omega, by omega⟩ hn.2
        exact ⟨Or.inr (⟨hE, by rw [e]⟩), by rw [e], KPc.same hW hw⟩
    obtain ⟨hc, hσ, hK⟩ := key
    rcases hc with ⟨rfl, hR⟩ | ⟨rfl, hR⟩
    · refine ⟨12, ⟨[], [(0, 9, 15, 15)], (0, 9, 12, 25), rfl, ((fun z hz => nomatch hz)), by decide, by decide, rfl, xl_25, xc_25⟩, fun q => ?_⟩
      refine i_astore_n C dL_redirect_12 (kk := ?_)
      refine i_iconst C dL_redirect_13 (kk := ?_)
      exact i_iret C (d := dL_redirect_14) (h := ⟨by rw [hR], hK.thrown ht hO (by rw [hR]; decide) hσ⟩)
    · refine ⟨15, ⟨[(0, 9, 12, 25)], [], (0, 9, 15, 15), rfl, (by intro z hz; simp only [tableOf, List.map_cons, List.map_nil, List.mem_cons, List.not_mem_nil, or_false] at hz; rcases hz with rfl <;> first | exact ⟨by decide, _, xl_25, by decide⟩), by decide, by decide, rfl, xl_15, xc_15⟩, fun q => ?_⟩
      refine i_astore_n C dL_redirect_15 (kk := ?_)
      refine i_iconst C dL_redirect_16 (kk := ?_)
      exact i_iret C (d := dL_redirect_17) (h := ⟨by rw [hR], hK.thrown ht hO (by rw [hR]; decide) hσ⟩)
  · have key : (oRedirect σ i).1 = 0 ∧ v9 = some (.int (Z32 (oRedirect σ i).2.1)) ∧ KPc D w τ ad (oRedirect σ i).2.2 w9 := by
      obtain ⟨h1, hl, hu, hW1, o1⟩ := G9
      have e : oRedirect σ i = opDr σ (8, i, -1) := op3_t ⟨by omega, by omega⟩ hl trivial
      rw [e]
      exact ⟨rfl, hu, KPc.off hW1 o1⟩
    obtain ⟨hR, rfl, hK⟩ := key
    have hO9 := hK.out ht hO
    refine i_i2l C dL_redirect_7 (kk := ?_)
    refine i_lastore C dL_redirect_8 (hw := hO9) (kk := ?_)
    refine i_goto C dL_redirect_9 (tgt := 18) (kk := ?_)
    refine i_iconst C dL_redirect_18 (kk := ?_)
    exact i_iret C (d := dL_redirect_19) (h := ⟨by rw [hR], hK.store ht hO rfl⟩)

set_option maxRecDepth 100000 in
set_option maxHeartbeats 4000000 in
theorem w_edit (l : Launch) (hl : l.stackTraces = false) (D : gD) {w : wW} {τ ad : Nat → Nat} {nb tb : Nat} {σ : Sg} {g9 : Nat → Int64} {i0 i : Int} (hW : WkI D w τ ad nb tb σ) (ht : τ (ad 6000) = 6000) (hO : w (ad 6000) = some (lar D 1 g9)) (hi0 : inR i0) (hi : inR i) : CTh l D yL_edit cL_edit 5 (some .int) [(0, 10, 13, 25), (0, 10, 17, 15)] (rmL 22 10 200) [.ref (ad 0), .int (Z32 i0), .int (Z32 i), .ref (ad 6000)] w (fun u w1 => u = some (.int (Z32 (oEdit σ i0 i).1)) ∧ WKP D w τ ad (oEdit σ i0 i) w1) := by
  refine CTh_of hl rfl (by rfl) (Nat.le_of_ble_eq_true rfl) ?_
  intro G C
  show G 0 0 w [some (.ref (ad 0)), some (.int (Z32 i0)), some (.int (Z32 i)), some (.ref (ad 6000)), none] 0 []
  refine i_aload_n C dL_edit_0 (kk := ?_)
  refine i_iconst C dL_edit_1 (kk := ?_)
  refine i_aload_n C dL_edit_2 (kk := ?_)
  refine i_iload_n C dL_edit_3 (kk := ?_)
  refine i_iload_n C dL_edit_4 (kk := ?_)
  refine i_callVC C lk_L_45 (c_X6_edit l hl D (hW := hW)) (hcl := rfl) (hst := rfl) dL_edit_5 (hw := hW.obj) (hxx := fun E w1 H9 => ?_) (kk := fun v9 w9 G9 => ?_)
  · have key : ((E = "java/lang/IndexOutOfBoundsException" ∧ (oEdit σ i0 i).1 = 1) ∨ (E = "java/lang/IllegalStateException" ∧ (oEdit σ i0 i).1 = 2)) ∧ (oEdit σ i0 i).2.2 = σ ∧ KPc D w τ ad σ w1 := by
      rcases H9 with ⟨H9, hw⟩
      rcases H9 with ⟨hE, hn⟩ | ⟨hE, hn⟩
      · have e : oEdit σ i0 i = (1, 0, σ) := op3_e1 (by omega)
        exact ⟨Or.inl (⟨hE, by rw [e]⟩), by rw [e], KPc.same hW hw⟩
      · have e : oEdit σ i0 i = (2, 0, σ) := by obtain ⟨k, p, hk, rfl, hp, rfl, hc⟩ := hn; exact op3_e2 ⟨⟨by omega, by omega⟩, by omega, by omega⟩ (fun q => by have h1 := q.2.1; have h2 := q.2.2; rw [Int.toNat_natCast] at h2; omega)
        exact ⟨Or.inr (⟨hE, by rw [e]⟩), by rw [e], KPc.same hW hw⟩
    obtain ⟨hc, hσ, hK⟩ := key
    rcases hc with ⟨rfl, hR⟩ | ⟨rfl, hR⟩
    · refine ⟨13, ⟨[], [(0, 10, 17, 15)], (0, 10, 13, 25), rfl, ((fun z hz => nomatch hz)), by decide, by decide, rfl, xl_25, xc_25⟩, fun q => ?_⟩
      refine i_astore C dL_edit_13 (kk := ?_)
      refine i_iconst C dL_edit_15 (kk := ?_)
      exact i_iret C (d := dL_edit_16) (h := ⟨by rw [hR], hK.thrown ht hO (by rw [hR]; decide) hσ⟩)
    · refine ⟨17, ⟨[(0, 10, 13, 25)], [], (0, 10, 17, 15), rfl, (by intro z hz; simp only [tableOf, List.map_cons, List.map_nil, List.mem_cons, List.not_mem_nil, or_false] at hz; rcases hz with rfl <;> first | exact ⟨by decide, _, xl_25, by decide⟩), by decide, by decide, rfl, xl_15, xc_15⟩, fun q => ?_⟩
      refine i_astore C dL_edit_17 (kk := ?_)
      refine i_iconst C dL_edit_19 (kk := ?_)
      exact i_iret C (d := dL_edit_20) (h := ⟨by rw [hR], hK.thrown ht hO (by rw [hR]; decide) hσ⟩)
  · have key : (oEdit σ i0 i).1 = 0 ∧ v9 = some (.int (Z32 (oEdit σ i0 i).2.1)) ∧ KPc D w τ ad (oEdit σ i0 i).2.2 w9 := by
      obtain ⟨k, p, hk, rfl, hp, rfl, ho, hn, hc⟩ := G9
      have e : oEdit σ (k : Int) (p : Int) = _ := op3_t ⟨⟨by omega, by omega⟩, by omega, by omega⟩ ⟨⟨⟨by omega, by omega⟩, by omega, by omega⟩, ho, by rw [Int.toNat_natCast]; exact hn⟩ trivial
      rw [Int.toNat_natCast, Int.toNat_natCast] at e
      rw [e]
      rcases hc with ⟨hne, hu, hW1, o1⟩ | ⟨he, hu, τ2, ad2, hW1, had, hk9⟩
      · rw [if_neg hne]
        exact ⟨rfl, hu, KPc.off hW1 o1⟩
      · rw [if_pos he]
        exact ⟨rfl, hu, τ2, ad2, _, _, hW1, had 0 (Or.inl (by omega)), fun r hr => had r (Or.inr hr), hk9⟩
    obtain ⟨hR, rfl, hK⟩ := key
    have hO9 := hK.out ht hO
    refine i_i2l C dL_edit_8 (kk := ?_)
    refine i_lastore C dL_edit_9 (hw := hO9) (kk := ?_)
    refine i_goto C dL_edit_10 (tgt := 21) (kk := ?_)
    refine i_iconst C dL_edit_21 (kk := ?_)
    exact i_iret C (d := dL_edit_22) (h := ⟨by rw [hR], hK.store ht hO rfl⟩)

set_option maxRecDepth 100000 in
set_option maxHeartbeats 4000000 in
theorem w_undo (l : Launch) (hl : l.stackTraces = false) (D : gD) {w : wW} {τ ad : Nat → Nat} {nb tb : Nat} {σ : Sg} {g9 : Nat → Int64} {i0 i : Int} (hW : WkI D w τ ad nb tb σ) (ht : τ (ad 6000) = 6000) (hO : w (ad 6000) = some (lar D 1 g9)) (hi0 : inR i0) (hi : inR i) : CTh l D yL_undo cL_undo 5 (some .int) [(0, 10, 13, 25), (0, 10, 17, 15)] (rmL 22 10 200) [.ref (ad 0), .int (Z32 i0), .int (Z32 i), .ref (ad 6000)] w (fun u w1 => u = some (.int (Z32 (oUndo σ i0 i).1)) ∧ WKP D w τ ad (oUndo σ i0 i) w1) := by
  refine CTh_of hl rfl (by rfl) (Nat.le_of_ble_eq_true rfl) ?_
  intro G C
  show G 0 0 w [some (.ref (ad 0)), some (.int (Z32 i0)), some (.int (Z32 i)), some (.ref (ad 6000)), none] 0 []
  refine i_aload_n C dL_undo_0 (kk := ?_)
  refine i_iconst C dL_undo_1 (kk := ?_)
  refine i_aload_n C dL_undo_2 (kk := ?_)
  refine i_iload_n C dL_undo_3 (kk := ?_)
  refine i_iload_n C dL_undo_4 (kk := ?_)
  refine i_callVC C lk_L_48 (c_X6_undo l hl D (hW := hW)) (hcl := rfl) (hst := rfl) dL_undo_5 (hw := hW.obj) (hxx := fun E w1 H9 => ?_) (kk := fun v9 w9 G9 => ?_)
  · have key : ((E = "java/lang/IndexOutOfBoundsException" ∧ (oUndo σ i0 i).1 = 1) ∨ (E = "java/lang/IllegalStateException" ∧ (oUndo σ i0 i).1 = 2)) ∧ (oUndo σ i0 i).2.2 = σ ∧ KPc D w τ ad σ w1 := by
      rcases H9 with ⟨H9, hw⟩
      rcases H9 with ⟨hE, hn⟩ | ⟨hE, hn⟩
      · have e : oUndo σ i0 i = (1, 0, σ) := op3_e1 (by omega)
        exact ⟨Or.inl (⟨hE, by rw [e]⟩), by rw [e], KPc.same hW hw⟩
      · have e : oUndo σ i0 i = (2, 0, σ) := by obtain ⟨k, p, hk, rfl, hp, rfl, hc⟩ := hn; exact op3_e2 ⟨⟨by omega, by omega⟩, by omega, by omega⟩ (fun q => by have h2 := q.2; rw [Int.toNat_natCast] at h2; omega)
        exact ⟨Or.inr (⟨hE, by rw [e]⟩), by rw [e], KPc.same hW hw⟩
    obtain ⟨hc, hσ, hK⟩ := key
    rcases hc with ⟨rfl, hR⟩ | ⟨rfl, hR⟩
    · refine ⟨13, ⟨[], [(0, 10, 17, 15)], (0, 10, 13, 25), rfl, ((fun z hz => nomatch hz)), by decide, by decide, rfl, xl_25, xc_25⟩, fun q => ?_⟩
      refine i_astore C dL_undo_13 (kk := ?_)
      refine i_iconst C dL_undo_15 (kk := ?_)
      exact i_iret C (d := dL_undo_16) (h := ⟨by rw [hR], hK.thrown ht hO (by rw [hR]; decide) hσ⟩)
    · refine ⟨17, ⟨[(0, 10, 13, 25)], [], (0, 10, 17, 15), rfl, (by intro z hz; simp only [tableOf, List.map_cons, List.map_nil, List.mem_cons, List.not_mem_nil, or_false] at hz; rcases hz with rfl <;> first | exact ⟨by decide, _, xl_25, by decide⟩), by decide, by decide, rfl, xl_15, xc_15⟩, fun q => ?_⟩
      refine i_astore C dL_undo_17 (kk := ?_)
      refine i_iconst C dL_undo_19 (kk := ?_)
      exact i_iret C (d := dL_undo_20) (h := ⟨by rw [hR], hK.thrown ht hO (by rw [hR]; decide) hσ⟩)
  · have key : (oUndo σ i0 i).1 = 0 ∧ v9 = some (.int (Z32 (oUndo σ i0 i).2.1)) ∧ KPc D w τ ad (oUndo σ i0 i).2.2 w9 := by
      obtain ⟨k, p, hk, rfl, hp, rfl, hn, o1, hc⟩ := G9
      have e : oUndo σ (k : Int) (p : Int) = _ := op3_t ⟨⟨by omega, by omega⟩, by omega, by omega⟩ ⟨⟨⟨by omega, by omega⟩, by omega, by omega⟩, by rw [Int.toNat_natCast]; exact hn⟩ trivial
      rw [Int.toNat_natCast, Int.toNat_natCast] at e
      rw [e]
      rcases hc with ⟨hne, hu, hW1⟩ | ⟨he, hu, hW1⟩
      · rw [if_neg hne]
        exact ⟨rfl, hu, KPc.off hW1 o1⟩
      · rw [if_pos he]
        exact ⟨rfl, hu, KPc.off hW1 o1⟩
    obtain ⟨hR, rfl, hK⟩ := key
    have hO9 := hK.out ht hO
    refine i_i2l C dL_undo_8 (kk := ?_)
    refine i_lastore C dL_undo_9 (hw := hO9) (kk := ?_)
    refine i_goto C dL_undo_10 (tgt := 21) (kk := ?_)
    refine i_iconst C dL_undo_21 (kk := ?_)
    exact i_iret C (d := dL_undo_22) (h := ⟨by rw [hR], hK.store ht hO rfl⟩)

set_option maxRecDepth 100000 in
set_option maxHeartbeats 4000000 in
theorem w_approve (l : Launch) (hl : l.stackTraces = false) (D : gD) {w : wW} {τ ad : Nat → Nat} {nb tb : Nat} {σ : Sg} {g9 : Nat → Int64} {i0 i : Int} (hW : WkI D w τ ad nb tb σ) (ht : τ (ad 6000) = 6000) (hO : w (ad 6000) = some (lar D 1 g9)) (hi0 : inR i0) (hi : inR i) : CTh l D yL_approve cL_approve 5 (some .int) [(0, 17, 20, 25)] (rmL 22 10 200) [.ref (ad 0), .int (Z32 i0), .int (Z32 i), .ref (ad 6000)] w (fun u w1 => u = some (.int (Z32 (oApprove σ i0 i).1)) ∧ WKP D w τ ad (oApprove σ i0 i) w1) := by
  refine CTh_of hl rfl (by rfl) (Nat.le_of_ble_eq_true rfl) ?_
  intro G C
  show G 0 0 w [some (.ref (ad 0)), some (.int (Z32 i0)), some (.int (Z32 i)), some (.ref (ad 6000)), none] 0 []
  refine i_aload_n C dL_approve_0 (kk := ?_)
  refine i_iconst C dL_approve_1 (kk := ?_)
  refine i_aload_n C dL_approve_2 (kk := ?_)
  refine i_iload_n C dL_approve_3 (kk := ?_)
  refine i_iload_n C dL_approve_4 (kk := ?_)
  refine i_callVC C lk_L_51 (c_X6_approve l hl D (hW := hW)) (hcl := rfl) (hst := rfl) dL_approve_5 (hw := hW.obj) (hxx := fun E w1 H9 => ?_) (kk := fun v9 w9 G9 => ?_)
  · have key : ((E = "java/lang/IndexOutOfBoundsException" ∧ (oApprove σ i0 i).1 = 1)) ∧ (oApprove σ i0 i).2.2 = σ ∧ KPc D w τ ad σ w1 := by
      obtain ⟨hE9, hn9, hw⟩ := H9
      have H9 := And.intro hE9 hn9
      obtain ⟨hE, hn⟩ := H9
      have e : oApprove σ i0 i = (1, 0, σ) := op3_e1 (by omega)
      exact ⟨⟨hE, by rw [e]⟩, by rw [e], KPc.same hW hw⟩
    obtain ⟨hc, hσ, hK⟩ := key
    obtain ⟨rfl, hR⟩ := hc
    refine ⟨20, ⟨[], [], (0, 17, 20, 25), rfl, ((fun z hz => nomatch hz)), by decide, by decide, rfl, xl_25, xc_25⟩, fun q => ?_⟩
    refine i_astore C dL_approve_20 (kk := ?_)
    refine i_iconst C dL_approve_22 (kk := ?_)
    exact i_iret C (d := dL_approve_23) (h := ⟨by rw [hR], hK.thrown ht hO (by rw [hR]; decide) hσ⟩)
  · have key : (oApprove σ i0 i).1 = 0 ∧ v9 = some (.int (Z32 (oApprove σ i0 i).2.1)) ∧ KPc D w τ ad (oApprove σ i0 i).2.2 w9 ∧ ((oApprove σ i0 i).2.1 = 0 ∨ (oApprove σ i0 i).2.1 = 1) := by
      obtain ⟨k, p, hk, rfl, hp, rfl, hc⟩ := G9
      have e : oApprove σ (k : Int) (p : Int) = _ := op3_t ⟨⟨by omega, by omega⟩, by omega, by omega⟩ trivial trivial
      rw [Int.toNat_natCast, Int.toNat_natCast] at e
      rw [e]
      rcases hc with ⟨⟨hne, hu⟩, hw⟩ | ⟨⟨he, hu⟩, hW1, o1⟩
      · rw [if_neg hne]
        exact ⟨rfl, hu, KPc.same hW hw, Or.inl rfl⟩
      · rw [if_pos he]
        exact ⟨rfl, hu, KPc.off hW1 o1, Or.inr rfl⟩
    obtain ⟨hR, rfl, hK, hb⟩ := key
    have hO9 := hK.out ht hO
    rcases hb with hb | hb
    · rw [hb]
      refine i_if_eq C dL_approve_8 (tgt := 15) (ha := by decide) (kt := fun hB => ?_) (kf := fun hB => ?_)
      · refine i_lconst C dL_approve_15 (kk := ?_)
        refine i_lastore C dL_approve_16 (hw := hO9) (kk := ?_)
        refine i_goto C dL_approve_17 (tgt := 24) (kk := ?_)
        refine i_iconst C dL_approve_24 (kk := ?_)
        exact i_iret C (d := dL_approve_25) (h := ⟨by rw [hR], hK.store ht hO (by rw [hb]; decide)⟩)
      · exact absurd rfl hB
    · rw [hb]
      refine i_if_eq C dL_approve_8 (tgt := 15) (ha := by decide) (kt := fun hB => ?_) (kf := fun hB => ?_)
      · exact absurd hB (by decide)
      · refine i_lconst C dL_approve_11 (kk := ?_)
        refine i_goto C dL_approve_12 (tgt := 16) (kk := ?_)
        refine i_lastore C dL_approve_16 (hw := hO9) (kk := ?_)
        refine i_goto C dL_approve_17 (tgt := 24) (kk := ?_)
        refine i_iconst C dL_approve_24 (kk := ?_)
        exact i_iret C (d := dL_approve_25) (h := ⟨by rw [hR], hK.store ht hO (by rw [hb]; decide)⟩)

set_option maxRecDepth 100000 in
set_option maxHeartbeats 4000000 in
theorem w_lock (l : Launch) (hl : l.stackTraces = false) (D : gD) {w : wW} {τ ad : Nat → Nat} {nb tb : Nat} {σ : Sg} {g9 : Nat → Int64} {i0 i j : Int} (hW : WkI D w τ ad nb tb σ) (ht : τ (ad 6000) = 6000) (hO : w (ad 6000) = some (lar D 1 g9)) (hi0 : inR i0) (hi : inR i) (hj : inR j) : CTh l D yL_lock cL_lock 6 (some .int) [(0, 12, 15, 25), (0, 12, 19, 13)] (rmL 22 10 200) [.ref (ad 0), .int (Z32 i0), .int (Z32 i), .int (Z32 j), .ref (ad 6000)] w (fun u w1 => u = some (.int (Z32 (oLock σ i0 i j).1)) ∧ WKP D w τ ad (oLock σ i0 i j) w1) := by
  refine CTh_of hl rfl (by rfl) (Nat.le_of_ble_eq_true rfl) ?_
  intro G C
  show G 0 0 w [some (.ref (ad 0)), some (.int (Z32 i0)), some (.int (Z32 i)), some (.int (Z32 j)), some (.ref (ad 6000)), none] 0 []
  refine i_aload C dL_lock_0 (kk := ?_)
  refine i_iconst C dL_lock_2 (kk := ?_)
  refine i_aload_n C dL_lock_3 (kk := ?_)
  refine i_iload_n C dL_lock_4 (kk := ?_)
  refine i_iload_n C dL_lock_5 (kk := ?_)
  refine i_iload_n C dL_lock_6 (kk := ?_)
  refine i_callVC C lk_L_55 (c_X6_lock l hl D (hW := hW)) (hcl := rfl) (hst := rfl) dL_lock_7 (hw := hW.obj) (hxx := fun E w1 H9 => ?_) (kk := fun v9 w9 G9 => ?_)
  · have key : ((E = "java/lang/IndexOutOfBoundsException" ∧ (oLock σ i0 i j).1 = 1) ∨ (E = "java/lang/IllegalArgumentException" ∧ (oLock σ i0 i j).1 = 2)) ∧ (oLock σ i0 i j).2.2 = σ ∧ KPc D w τ ad σ w1 := by
      rcases H9 with ⟨H9, hw⟩
      rcases H9 with ⟨hE, hn⟩ | ⟨hE, hn⟩
      · have e : oLock σ i0 i j = (1, 0, σ) := op3_e1 (by omega)
        exact ⟨Or.inl (⟨hE, by rw [e]⟩), by rw [e], KPc.same hW hw⟩
      · have e : oLock σ i0 i j = (2, 0, σ) := op3_e2 ⟨⟨by omega, by omega⟩, by omega, by omega⟩ (by omega)
        exact ⟨Or.inr (⟨hE, by rw [e]⟩), by rw [e], KPc.same hW hw⟩
    obtain ⟨hc, hσ, hK⟩ := key
    rcases hc with ⟨rfl, hR⟩ | ⟨rfl, hR⟩
    · refine ⟨15, ⟨[], [(0, 12, 19, 13)], (0, 12, 15, 25), rfl, ((fun z hz => nomatch hz)), by decide, by decide, rfl, xl_25, xc_25⟩, fun q => ?_⟩
      refine i_astore C dL_lock_15 (kk := ?_)
      refine i_iconst C dL_lock_17 (kk := ?_)
      exact i_iret C (d := dL_lock_18) (h := ⟨by rw [hR], hK.thrown ht hO (by rw [hR]; decide) hσ⟩)
    · refine ⟨19, ⟨[(0, 12, 15, 25)], [], (0, 12, 19, 13), rfl, (by intro z hz; simp only [tableOf, List.map_cons, List.map_nil, List.mem_cons, List.not_mem_nil, or_false] at hz; rcases hz with rfl <;> first | exact ⟨by decide, _, xl_25, by decide⟩), by decide, by decide, rfl, xl_13, xc_13⟩, fun q => ?_⟩
      refine i_astore C dL_lock_19 (kk := ?_)
      refine i_iconst C dL_lock_21 (kk := ?_)
      exact i_iret C (d := dL_lock_22) (h := ⟨by rw [hR], hK.thrown ht hO (by rw [hR]; decide) hσ⟩)
  · have key : (oLock σ i0 i j).1 = 0 ∧ v9 = some (.int (Z32 (oLock σ i0 i j).2.1)) ∧ KPc D w τ ad (oLock σ i0 i j).2.2 w9 := by
      obtain ⟨k, p, hk, rfl, hp, rfl, hj9, hc⟩ := G9
      have e : oLock σ (k : Int) (p : Int) j = _ := op3_t ⟨⟨by omega, by omega⟩, by omega, by omega⟩ ⟨by omega, by omega⟩ trivial
      rw [Int.toNat_natCast, Int.toNat_natCast] at e
      rw [e]
      rcases hc with ⟨⟨hne, hu⟩, hw⟩ | ⟨⟨he, hu⟩, hW1, o1⟩
      · rw [if_pos hne]
        exact ⟨rfl, hu, KPc.same hW hw⟩
      · rw [if_neg he]
        exact ⟨rfl, hu, KPc.off hW1 o1⟩
    obtain ⟨hR, rfl, hK⟩ := key
    have hO9 := hK.out ht hO
    refine i_i2l C dL_lock_10 (kk := ?_)
    refine i_lastore C dL_lock_11 (hw := hO9) (kk := ?_)
    refine i_goto C dL_lock_12 (tgt := 23) (kk := ?_)
    refine i_iconst C dL_lock_23 (kk := ?_)
    exact i_iret C (d := dL_lock_24) (h := ⟨by rw [hR], hK.store ht hO rfl⟩)

set_option maxRecDepth 100000 in
set_option maxHeartbeats 4000000 in
theorem w_setRank (l : Launch) (hl : l.stackTraces = false) (D : gD) {w : wW} {τ ad : Nat → Nat} {nb tb : Nat} {σ : Sg} {g9 : Nat → Int64} {i j : Int} (hW : WkI D w τ ad nb tb σ) (ht : τ (ad 6000) = 6000) (hO : w (ad 6000) = some (lar D 1 g9)) (hi : inR i) (hj : inR j) : CTh l D yL_setRank cL_setRank 5 (some .int) [(0, 10, 13, 25), (0, 10, 17, 13)] (rmL 22 10 200) [.ref (ad 0), .int (Z32 i), .int (Z32 j), .ref (ad 6000)] w (fun u w1 => u = some (.int (Z32 (oSetRank σ i j).1)) ∧ WKP D w τ ad (oSetRank σ i j) w1) := by
  refine CTh_of hl rfl (by rfl) (Nat.le_of_ble_eq_true rfl) ?_
  intro G C
  show G 0 0 w [some (.ref (ad 0)), some (.int (Z32 i)), some (.int (Z32 j)), some (.ref (ad 6000)), none] 0 []
  refine i_aload_n C dL_setRank_0 (kk := ?_)
  refine i_iconst C dL_setRank_1 (kk := ?_)
  refine i_aload_n C dL_setRank_2 (kk := ?_)
  refine i_iload_n C dL_setRank_3 (kk := ?_)
  refine i_iload_n C dL_setRank_4 (kk := ?_)
  refine i_callVC C lk_L_59 (c_X6_setRank l hl D (hW := hW)) (hcl := rfl) (hst := rfl) dL_setRank_5 (hw := hW.obj) (hxx := fun E w1 H9 => ?_) (kk := fun v9 w9 G9 => ?_)
  · have key : ((E = "java/lang/IndexOutOfBoundsException" ∧ (oSetRank σ i j).1 = 1) ∨ (E = "java/lang/IllegalArgumentException" ∧ (oSetRank σ i j).1 = 2)) ∧ (oSetRank σ i j).2.2 = σ ∧ KPc D w τ ad σ w1 := by
      rcases H9 with ⟨H9, hw⟩
      rcases H9 with ⟨hE, hn⟩ | ⟨hE, hn⟩
      · have e : oSetRank σ i j = (1, 0, σ) := op3_e1 (by omega)
        exact ⟨Or.inl (⟨hE, by rw [e]⟩), by rw [e], KPc.same hW hw⟩
      · have e : oSetRank σ i j = (2, 0, σ) := op3_e2 ⟨by omega, by omega⟩ (by omega)
        exact ⟨Or.inr (⟨hE, by rw [e]⟩), by rw [e], KPc.same hW hw⟩
    obtain ⟨hc, hσ, hK⟩ := key
    rcases hc with ⟨rfl, hR⟩ | ⟨rfl, hR⟩
    · refine ⟨13, ⟨[], [(0, 10, 17, 13)], (0, 10, 13, 25), rfl, ((fun z hz => nomatch hz)), by decide, by decide, rfl, xl_25, xc_25⟩, fun q => ?_⟩
      refine i_astore C dL_setRank_13 (kk := ?_)
      refine i_iconst C dL_setRank_15 (kk := ?_)
      exact i_iret C (d := dL_setRank_16) (h := ⟨by rw [hR], hK.thrown ht hO (by rw [hR]; decide) hσ⟩)
    · refine ⟨17, ⟨[(0, 10, 13, 25)], [], (0, 10, 17, 13), rfl, (by intro z hz; simp only [tableOf, List.map_cons, List.map_nil, List.mem_cons, List.not_mem_nil, or_false] at hz; rcases hz with rfl <;> first | exact ⟨by decide, _, xl_25, by decide⟩), by decide, by decide, rfl, xl_13, xc_13⟩, fun q => ?_⟩
      refine i_astore C dL_setRank_17 (kk := ?_)
      refine i_iconst C dL_setRank_19 (kk := ?_)
      exact i_iret C (d := dL_setRank_20) (h := ⟨by rw [hR], hK.thrown ht hO (by rw [hR]; decide) hσ⟩)
  · have key : (oSetRank σ i j).1 = 0 ∧ v9 = some (.int (Z32 (oSetRank σ i j).2.1)) ∧ KPc D w τ ad (oSetRank σ i j).2.2 w9 := by
      obtain ⟨k, hk, rfl, hj9, hu, hW1, o1⟩ := G9
      have e : oSetRank σ (k : Int) j = _ := op3_t ⟨by omega, by omega⟩ ⟨by omega, by omega⟩ trivial
      rw [Int.toNat_natCast] at e
      rw [e]
      exact ⟨rfl, hu, KPc.off hW1 o1⟩
    obtain ⟨hR, rfl, hK⟩ := key
    have hO9 := hK.out ht hO
    refine i_i2l C dL_setRank_8 (kk := ?_)
    refine i_lastore C dL_setRank_9 (hw := hO9) (kk := ?_)
    refine i_goto C dL_setRank_10 (tgt := 21) (kk := ?_)
    refine i_iconst C dL_setRank_21 (kk := ?_)
    exact i_iret C (d := dL_setRank_22) (h := ⟨by rw [hR], hK.store ht hO rfl⟩)

set_option maxRecDepth 100000 in
set_option maxHeartbeats 4000000 in
theorem w_version (l : Launch) (hl : l.stackTraces = false) (D : gD) {w : wW} {τ ad : Nat → Nat} {nb tb : Nat} {σ : Sg} {g9 : Nat → Int64} {i : Int} (hW : WkI D w τ ad nb tb σ) (ht : τ (ad 6000) = 6000) (hO : w (ad 6000) = some (lar D 1 g9)) (hi : inR i) : CTh l D yL_version cL_version 4 (some .int) [(0, 9, 12, 25)] (rmL 22 10 200) [.ref (ad 0), .int (Z32 i), .ref (ad 6000)] w (fun u w1 => u = some (.int (Z32 (oVersion σ i).1)) ∧ WKP D w τ ad (oVersion σ i) w1) := by
  refine CTh_of hl rfl (by rfl) (Nat.le_of_ble_eq_true rfl) ?_
  intro G C
  show G 0 0 w [some (.ref (ad 0)), some (.int (Z32 i)), some (.ref (ad 6000)), none] 0 []
  refine i_aload_n C dL_version_0 (kk := ?_)
  refine i_iconst C dL_version_1 (kk := ?_)
  refine i_aload_n C dL_version_2 (kk := ?_)
  refine i_iload_n C dL_version_3 (kk := ?_)
  refine i_callVC C lk_L_62 (c_X6_version l hl D (hW := hW)) (hcl := rfl) (hst := rfl) dL_version_4 (hw := hW.obj) (hxx := fun E w1 H9 => ?_) (kk := fun v9 w9 G9 => ?_)
  · have key : ((E = "java/lang/IndexOutOfBoundsException" ∧ (oVersion σ i).1 = 1)) ∧ (oVersion σ i).2.2 = σ ∧ KPc D w τ ad σ w1 := by
      obtain ⟨hE9, hn9, hw⟩ := H9
      have H9 := And.intro hE9 hn9
      obtain ⟨hE, hn⟩ := H9
      have e : oVersion σ i = (1, 0, σ) := op3_e1 (by omega)
      exact ⟨⟨hE, by rw [e]⟩, by rw [e], KPc.same hW hw⟩
    obtain ⟨hc, hσ, hK⟩ := key
    obtain ⟨rfl, hR⟩ := hc
    refine ⟨12, ⟨[], [], (0, 9, 12, 25), rfl, ((fun z hz => nomatch hz)), by decide, by decide, rfl, xl_25, xc_25⟩, fun q => ?_⟩
    refine i_astore_n C dL_version_12 (kk := ?_)
    refine i_iconst C dL_version_13 (kk := ?_)
    exact i_iret C (d := dL_version_14) (h := ⟨by rw [hR], hK.thrown ht hO (by rw [hR]; decide) hσ⟩)
  · have key : (oVersion σ i).1 = 0 ∧ v9 = some (.int (Z32 (oVersion σ i).2.1)) ∧ KPc D w τ ad (oVersion σ i).2.2 w9 := by
      obtain ⟨⟨p, hp, rfl, hu⟩, hw⟩ := G9
      have e : oVersion σ (p : Int) = _ := op3_t ⟨by omega, by omega⟩ trivial trivial
      rw [Int.toNat_natCast] at e
      rw [e]
      exact ⟨rfl, hu, KPc.same hW hw⟩
    obtain ⟨hR, rfl, hK⟩ := key
    have hO9 := hK.out ht hO
    refine i_i2l C dL_version_7 (kk := ?_)
    refine i_lastore C dL_version_8 (hw := hO9) (kk := ?_)
    refine i_goto C dL_version_9 (tgt := 15) (kk := ?_)
    refine i_iconst C dL_version_15 (kk := ?_)
    exact i_iret C (d := dL_version_16) (h := ⟨by rw [hR], hK.store ht hO rfl⟩)

set_option maxRecDepth 100000 in
set_option maxHeartbeats 4000000 in
theorem w_rankOf (l : Launch) (hl : l.stackTraces = false) (D : gD) {w : wW} {τ ad : Nat → Nat} {nb tb : Nat} {σ : Sg} {g9 : Nat → Int64} {i : Int} (hW : WkI D w τ ad nb tb σ) (ht : τ (ad 6000) = 6000) (hO : w (ad 6000) = some (lar D 1 g9)) (hi : inR i) : CTh l D yL_rankOf cL_rankOf 4 (some .int) [(0, 9, 12, 25)] (rmL 22 10 200) [.ref (ad 0), .int (Z32 i), .ref (ad 6000)] w (fun u w1 => u = some (.int (Z32 (oRankOf σ i).1)) ∧ WKP D w τ ad (oRankOf σ i) w1) := by
  refine CTh_of hl rfl (by rfl) (Nat.le_of_ble_eq_true rfl) ?_
  intro G C
  show G 0 0 w [some (.ref (ad 0)), some (.int (Z32 i)), some (.ref (ad 6000)), none] 0 []
  refine i_aload_n C dL_rankOf_0 (kk := ?_)
  refine i_iconst C dL_rankOf_1 (kk := ?_)
  refine i_aload_n C dL_rankOf_2 (kk := ?_)
  refine i_iload_n C dL_rankOf_3 (kk := ?_)
  refine i_callVC C lk_L_65 (c_X6_rankOf l hl D (hW := hW)) (hcl := rfl) (hst := rfl) dL_rankOf_4 (hw := hW.obj) (hxx := fun E w1 H9 => ?_) (kk := fun v9 w9 G9 => ?_)
  · have key : ((E = "java/lang/IndexOutOfBoundsException" ∧ (oRankOf σ i).1 = 1)) ∧ (oRankOf σ i).2.2 = σ ∧ KPc D w τ ad σ w1 := by
      obtain ⟨hE9, hn9, hw⟩ := H9
      have H9 := And.intro hE9 hn9
      obtain ⟨hE, hn⟩ := H9
      have e : oRankOf σ i = (1, 0, σ) := op3_e1 (by omega)
      exact ⟨⟨hE, by rw [e]⟩, by rw [e], KPc.same hW hw⟩
    obtain ⟨hc, hσ, hK⟩ := key
    obtain ⟨rfl, hR⟩ := hc
    refine ⟨12, ⟨[], [], (0, 9, 12, 25), rfl, ((fun z hz => nomatch hz)), by decide, by decide, rfl, xl_25, xc_25⟩, fun q => ?_⟩
    refine i_astore_n C dL_rankOf_12 (kk := ?_)
    refine i_iconst C dL_rankOf_13 (kk := ?_)
    exact i_iret C (d := dL_rankOf_14) (h := ⟨by rw [hR], hK.thrown ht hO (by rw [hR]; decide) hσ⟩)
  · have key : (oRankOf σ i).1 = 0 ∧ v9 = some (.int (Z32 (oRankOf σ i).2.1)) ∧ KPc D w τ ad (oRankOf σ i).2.2 w9 := by
      obtain ⟨⟨p, hp, rfl, hu⟩, hw⟩ := G9
      have e : oRankOf σ (p : Int) = _ := op3_t ⟨by omega, by omega⟩ trivial trivial
      rw [Int.toNat_natCast] at e
      rw [e]
      exact ⟨rfl, hu, KPc.same hW hw⟩
    obtain ⟨hR, rfl, hK⟩ := key
    have hO9 := hK.out ht hO
    refine i_i2l C dL_rankOf_7 (kk := ?_)
    refine i_lastore C dL_rankOf_8 (hw := hO9) (kk := ?_)
    refine i_goto C dL_rankOf_9 (tgt := 15) (kk := ?_)
    refine i_iconst C dL_rankOf_15 (kk := ?_)
    exact i_iret C (d := dL_rankOf_16) (h := ⟨by rw [hR], hK.store ht hO rfl⟩)

set_option maxRecDepth 100000 in
set_option maxHeartbeats 4000000 in
theorem w_force (l : Launch) (hl : l.stackTraces = false) (D : gD) {w : wW} {τ ad : Nat → Nat} {nb tb : Nat} {σ : Sg} {g9 : Nat → Int64} {i : Int} (hW : WkI D w τ ad nb tb σ) (ht : τ (ad 6000) = 6000) (hO : w (ad 6000) = some (lar D 1 g9)) (hi : inR i) : CTh l D yL_force cL_force 4 (some .int) [(0, 9, 12, 25)] (rmL 22 10 200) [.ref (ad 0), .int (Z32 i), .ref (ad 6000)] w (fun u w1 => u = some (.int (Z32 (oForce σ i).1)) ∧ WKP D w τ ad (oForce σ i) w1) := by
  refine CTh_of hl rfl (by rfl) (Nat.le_of_ble_eq_true rfl) ?_
  intro G C
  show G 0 0 w [some (.ref (ad 0)), some (.int (Z32 i)), some (.ref (ad 6000)), none] 0 []
  refine i_aload_n C dL_force_0 (kk := ?_)
  refine i_iconst C dL_force_1 (kk := ?_)
  refine i_aload_n C dL_force_2 (kk := ?_)
  refine i_iload_n C dL_force_3 (kk := ?_)
  refine i_callVC C lk_L_68 (c_X6_force l hl D (hW := hW)) (hcl := rfl) (hst := rfl) dL_force_4 (hw := hW.obj) (hxx := fun E w1 H9 => ?_) (kk := fun v9 w9 G9 => ?_)
  · have key : ((E = "java/lang/IndexOutOfBoundsException" ∧ (oForce σ i).1 = 1)) ∧ (oForce σ i).2.2 = σ ∧ KPc D w τ ad σ w1 := by
      obtain ⟨hE9, hn9, hw⟩ := H9
      have H9 := And.intro hE9 hn9
      obtain ⟨hE, hn⟩ := H9
      have e : oForce σ i = (1, 0, σ) := op3_e1 (by omega)
      exact ⟨⟨hE, by rw [e]⟩, by rw [e], KPc.same hW hw⟩
    obtain ⟨hc, hσ, hK⟩ := key
    obtain ⟨rfl, hR⟩ := hc
    refine ⟨12, ⟨[], [], (0, 9, 12, 25), rfl, ((fun z hz => nomatch hz)), by decide, by decide, rfl, xl_25, xc_25⟩, fun q => ?_⟩
    refine i_astore_n C dL_force_12 (kk := ?_)
    refine i_iconst C dL_force_13 (kk := ?_)
    exact i_iret C (d := dL_force_14) (h := ⟨by rw [hR], hK.thrown ht hO (by rw [hR]; decide) hσ⟩)
  · have key : (oForce σ i).1 = 0 ∧ v9 = some (.int (Z32 (oForce σ i).2.1)) ∧ KPc D w τ ad (oForce σ i).2.2 w9 := by
      obtain ⟨⟨p, hp, rfl, hu⟩, hw⟩ := G9
      have e : oForce σ (p : Int) = _ := op3_t ⟨by omega, by omega⟩ trivial trivial
      rw [Int.toNat_natCast] at e
      rw [e]
      exact ⟨rfl, hu, KPc.same hW hw⟩
    obtain ⟨hR, rfl, hK⟩ := key
    have hO9 := hK.out ht hO
    refine i_i2l C dL_force_7 (kk := ?_)
    refine i_lastore C dL_force_8 (hw := hO9) (kk := ?_)
    refine i_goto C dL_force_9 (tgt := 15) (kk := ?_)
    refine i_iconst C dL_force_15 (kk := ?_)
    exact i_iret C (d := dL_force_16) (h := ⟨by rw [hR], hK.store ht hO rfl⟩)

set_option maxRecDepth 100000 in
set_option maxHeartbeats 4000000 in
theorem w_reaches (l : Launch) (hl : l.stackTraces = false) (D : gD) {w : wW} {τ ad : Nat → Nat} {nb tb : Nat} {σ : Sg} {g9 : Nat → Int64} {i : Int} (hW : WkI D w τ ad nb tb σ) (ht : τ (ad 6000) = 6000) (hO : w (ad 6000) = some (lar D 1 g9)) (hi : inR i) : CTh l D yL_reaches cL_reaches 4 (some .int) [(0, 9, 12, 25)] (rmL 22 10 200) [.ref (ad 0), .int (Z32 i), .ref (ad 6000)] w (fun u w1 => u = some (.int (Z32 (oReaches σ i).1)) ∧ WKP D w τ ad (oReaches σ i) w1) := by
  refine CTh_of hl rfl (by rfl) (Nat.le_of_ble_eq_true rfl) ?_
  intro G C
  show G 0 0 w [some (.ref (ad 0)), some (.int (Z32 i)), some (.ref (ad 6000)), none] 0 []
  refine i_aload_n C dL_reaches_0 (kk := ?_)
  refine i_iconst C dL_reaches_1 (kk := ?_)
  refine i_aload_n C dL_reaches_2 (kk := ?_)
  refine i_iload_n C dL_reaches_3 (kk := ?_)
  refine i_callVC C lk_L_71 (c_X6_reaches l hl D (hW := hW)) (hcl := rfl) (hst := rfl) dL_reaches_4 (hw := hW.obj) (hxx := fun E w1 H9 => ?_) (kk := fun v9 w9 G9 => ?_)
  · have key : ((E = "java/lang/IndexOutOfBoundsException" ∧ (oReaches σ i).1 = 1)) ∧ (oReaches σ i).2.2 = σ ∧ KPc D w τ ad σ w1 := by
      obtain ⟨hE9, hn9, hw⟩ := H9
      have H9 := And.intro hE9 hn9
      obtain ⟨hE, hn⟩ := H9
      have e : oReaches σ i = (1, 0, σ) := op3_e1 (by omega)
      exact ⟨⟨hE, by rw [e]⟩, by rw [e], KPc.same hW hw⟩
    obtain ⟨hc, hσ, hK⟩ := key
    obtain ⟨rfl, hR⟩ := hc
    refine ⟨12, ⟨[], [], (0, 9, 12, 25), rfl, ((fun z hz => nomatch hz)), by decide, by decide, rfl, xl_25, xc_25⟩, fun q => ?_⟩
    refine i_astore_n C dL_reaches_12 (kk := ?_)
    refine i_iconst C dL_reaches_13 (kk := ?_)
    exact i_iret C (d := dL_reaches_14) (h := ⟨by rw [hR], hK.thrown ht hO (by rw [hR]; decide) hσ⟩)
  · have key : (oReaches σ i).1 = 0 ∧ v9 = some (.int (Z32 (oReaches σ i).2.1)) ∧ KPc D w τ ad (oReaches σ i).2.2 w9 := by
      obtain ⟨⟨p, hp, rfl, hu⟩, hw⟩ := G9
      have e : oReaches σ (p : Int) = _ := op3_t ⟨by omega, by omega⟩ trivial trivial
      rw [Int.toNat_natCast] at e
      rw [e]
      exact ⟨rfl, hu, KPc.same hW hw⟩
    obtain ⟨hR, rfl, hK⟩ := key
    have hO9 := hK.out ht hO
    refine i_i2l C dL_reaches_7 (kk := ?_)
    refine i_lastore C dL_reaches_8 (hw := hO9) (kk := ?_)
    refine i_goto C dL_reaches_9 (tgt := 15) (kk := ?_)
    refine i_iconst C dL_reaches_15 (kk := ?_)
    exact i_iret C (d := dL_reaches_16) (h := ⟨by rw [hR], hK.store ht hO rfl⟩)

set_option maxRecDepth 100000 in
set_option maxHeartbeats 4000000 in
theorem w_extent (l : Launch) (hl : l.stackTraces = false) (D : gD) {w : wW} {τ ad : Nat → Nat} {nb tb : Nat} {σ : Sg} {g9 : Nat → Int64} {i : Int} (hW : WkI D w τ ad nb tb σ) (ht : τ (ad 6000) = 6000) (hO : w (ad 6000) = some (lar D 1 g9)) (hi : inR i) : CTh l D yL_extent cL_extent 4 (some .int) [(0, 9, 12, 25)] (rmL 22 10 200) [.ref (ad 0), .int (Z32 i), .ref (ad 6000)] w (fun u w1 => u = some (.int (Z32 (oExtent σ i).1)) ∧ WKP D w τ ad (oExtent σ i) w1) := by
  refine CTh_of hl rfl (by rfl) (Nat.le_of_ble_eq_true rfl) ?_
  intro G C
  show G 0 0 w [some (.ref (ad 0)), some (.int (Z32 i)), some (.ref (ad 6000)), none] 0 []
  refine i_aload_n C dL_extent_0 (kk := ?_)
  refine i_iconst C dL_extent_1 (kk := ?_)
  refine i_aload_n C dL_extent_2 (kk := ?_)
  refine i_iload_n C dL_extent_3 (kk := ?_)
  refine i_callVC C lk_L_74 (c_X6_extent l hl D (hW := hW)) (hcl := rfl) (hst := rfl) dL_extent_4 (hw := hW.obj) (hxx := fun E w1 H9 => ?_) (kk := fun v9 w9 G9 => ?_)
  · have key : ((E = "java/lang/IndexOutOfBoundsException" ∧ (oExtent σ i).1 = 1)) ∧ (oExtent σ i).2.2 = σ ∧ KPc D w τ ad σ w1 := by
      obtain ⟨hE9, hn9, hw⟩ := H9
      have H9 := And.intro hE9 hn9
      obtain ⟨hE, hn⟩ := H9
      have e : oExtent σ i = (1, 0, σ) := op3_e1 (by omega)
      exact ⟨⟨hE, by rw [e]⟩, by rw [e], KPc.same hW hw⟩
    obtain ⟨hc, hσ, hK⟩ := key
    obtain ⟨rfl, hR⟩ := hc
    refine ⟨12, ⟨[], [], (0, 9, 12, 25), rfl, ((fun z hz => nomatch hz)), by decide, by decide, rfl, xl_25, xc_25⟩, fun q => ?_⟩
    refine i_astore_n C dL_extent_12 (kk := ?_)
    refine i_iconst C dL_extent_13 (kk := ?_)
    exact i_iret C (d := dL_extent_14) (h := ⟨by rw [hR], hK.thrown ht hO (by rw [hR]; decide) hσ⟩)
  · have key : (oExtent σ i).1 = 0 ∧ v9 = some (.int (Z32 (oExtent σ i).2.1)) ∧ KPc D w τ ad (oExtent σ i).2.2 w9 := by
      obtain ⟨⟨p, hp, rfl, hu⟩, hw⟩ := G9
      have e : oExtent σ (p : Int) = _ := op3_t ⟨by omega, by omega⟩ trivial trivial
      rw [Int.toNat_natCast] at e
      rw [e]
      exact ⟨rfl, hu, KPc.same hW hw⟩
    obtain ⟨hR, rfl, hK⟩ := key
    have hO9 := hK.out ht hO
    refine i_i2l C dL_extent_7 (kk := ?_)
    refine i_lastore C dL_extent_8 (hw := hO9) (kk := ?_)
    refine i_goto C dL_extent_9 (tgt := 15) (kk := ?_)
    refine i_iconst C dL_extent_15 (kk := ?_)
    exact i_iret C (d := dL_extent_16) (h := ⟨by rw [hR], hK.store ht hO rfl⟩)

set_option maxRecDepth 100000 in
set_option maxHeartbeats 4000000 in
theorem w_items (l : Launch) (hl : l.stackTraces = false) (D : gD) {w : wW} {τ ad : Nat → Nat} {nb tb : Nat} {σ : Sg} {g9 : Nat → Int64} {i j : Int} (hW : WkI D w τ ad nb tb σ) (ht : τ (ad 6000) = 6000) (hO : w (ad 6000) = some (lar D 1 g9)) (hi : inR i) (hj : inR j) : CTh l D yL_items cL_items 5 (some .int) [(0, 10, 13, 25), (0, 10, 17, 13)] (rmL 22 10 200) [.ref (ad 0), .int (Z32 i), .int (Z32 j), .ref (ad 6000)] w (fun u w1 => u = some (.int (Z32 (oItems σ i j).1)) ∧ WKP D w τ ad (oItems σ i j) w1) := by
  refine CTh_of hl rfl (by rfl) (Nat.le_of_ble_eq_true rfl) ?_
  intro G C
  show G 0 0 w [some (.ref (ad 0)), some (.int (Z32 i)), some (.int (Z32 j)), some (.ref (ad 6000)), none] 0 []
  refine i_aload_n C dL_items_0 (kk := ?_)
  refine i_iconst C dL_items_1 (kk := ?_)
  refine i_aload_n C dL_items_2 (kk := ?_)
  refine i_iload_n C dL_items_3 (kk := ?_)
  refine i_iload_n C dL_items_4 (kk := ?_)
  refine i_callVC C lk_L_77 (c_X6_items l hl D (hW := hW)) (hcl := rfl) (hst := rfl) dL_items_5 (hw := hW.obj) (hxx := fun E w1 H9 => ?_) (kk := fun v9 w9 G9 => ?_)
  · have key : ((E = "java/lang/IndexOutOfBoundsException" ∧ (oItems σ i j).1 = 1) ∨ (E = "java/lang/IllegalArgumentException" ∧ (oItems σ i j).1 = 2)) ∧ (oItems σ i j).2.2 = σ ∧ KPc D w τ ad σ w1 := by
      rcases H9 with ⟨H9, hw⟩
      rcases H9 with ⟨hE, hn⟩ | ⟨hE, hn⟩
      · have e : oItems σ i j = (1, 0, σ) := op3_e1 (by omega)
        exact ⟨Or.inl (⟨hE, by rw [e]⟩), by rw [e], KPc.same hW hw⟩
      · have e : oItems σ i j = (2, 0, σ) := op3_e2 ⟨by omega, by omega⟩ (fun q => hn.2 (by omega))
        exact ⟨Or.inr (⟨hE, by rw [e]⟩), by rw [e], KPc.same hW hw⟩
    obtain ⟨hc, hσ, hK⟩ := key
    rcases hc with ⟨rfl, hR⟩ | ⟨rfl, hR⟩
    · refine ⟨13, ⟨[], [(0, 10, 17, 13)], (0, 10, 13, 25), rfl, ((fun z hz => nomatch hz)), by decide, by decide, rfl, xl_25, xc_25⟩, fun q => ?_⟩
      refine i_astore C dL_items_13 (kk := ?_)
      refine i_iconst C dL_items_15 (kk := ?_)
      exact i_iret C (d := dL_items_16) (h := ⟨by rw [hR], hK.thrown ht hO (by rw [hR]; decide) hσ⟩)
    · refine ⟨17, ⟨[(0, 10, 13, 25)], [], (0, 10, 17, 13), rfl, (by intro z hz; simp only [tableOf, List.map_cons, List.map_nil, List.mem_cons, List.not_mem_nil, or_false] at hz; rcases hz with rfl <;> first | exact ⟨by decide, _, xl_25, by decide⟩), by decide, by decide, rfl, xl_13, xc_13⟩, fun q => ?_⟩
      refine i_astore C dL_items_17 (kk := ?_)
      refine i_iconst C dL_items_19 (kk := ?_)
      exact i_iret C (d := dL_items_20) (h := ⟨by rw [hR], hK.thrown ht hO (by rw [hR]; decide) hσ⟩)
  · have key : (oItems σ i j).1 = 0 ∧ v9 = some (.int (Z32 (oItems σ i j).2.1)) ∧ KPc D w τ ad (oItems σ i j).2.2 w9 := by
      obtain ⟨⟨p, hp, rfl, hj9, hu⟩, hw⟩ := G9
      have e : oItems σ (p : Int) j = _ := op3_t ⟨by omega, by omega⟩ ⟨⟨by omega, by omega⟩, by omega⟩ trivial
      rw [Int.toNat_natCast, shl_len] at e
      rw [e]
      exact ⟨rfl, hu, KPc.same hW hw⟩
    obtain ⟨hR, rfl, hK⟩ := key
    have hO9 := hK.out ht hO
    refine i_i2l C dL_items_8 (kk := ?_)
    refine i_lastore C dL_items_9 (hw := hO9) (kk := ?_)
    refine i_goto C dL_items_10 (tgt := 21) (kk := ?_)
    refine i_iconst C dL_items_21 (kk := ?_)
    exact i_iret C (d := dL_items_22) (h := ⟨by rw [hR], hK.store ht hO rfl⟩)

set_option maxRecDepth 100000 in
set_option maxHeartbeats 4000000 in
theorem w_sortAt (l : Launch) (hl : l.stackTraces = false) (D : gD) {w : wW} {τ ad : Nat → Nat} {nb tb : Nat} {σ : Sg} {g9 : Nat → Int64} {i j k : Int} (hW : WkI D w τ ad nb tb σ) (ht : τ (ad 6000) = 6000) (hO : w (ad 6000) = some (lar D 1 g9)) (hi : inR i) (hj : inR j) (hk : inR k) : CTh l D yL_sortAt cL_sortAt 6 (some .int) [(0, 12, 15, 25), (0, 12, 19, 13), (0, 12, 23, 83)] (rmL 22 10 200) [.ref (ad 0), .int (Z32 i), .int (Z32 j), .int (Z32 k), .ref (ad 6000)] w (fun u w1 => u = some (.int (Z32 (oSortAt σ i j k).1)) ∧ WKP D w τ ad (oSortAt σ i j k) w1) := by
  refine CTh_of hl rfl (by rfl) (Nat.le_of_ble_eq_true rfl) ?_
  intro G C
  show G 0 0 w [some (.ref (ad 0)), some (.int (Z32 i)), some (.int (Z32 j)), some (.int (Z32 k)), some (.ref (ad 6000)), none] 0 []
  refine i_aload C dL_sortAt_0 (kk := ?_)
  refine i_iconst C dL_sortAt_2 (kk := ?_)
  refine i_aload_n C dL_sortAt_3 (kk := ?_)
  refine i_iload_n C dL_sortAt_4 (kk := ?_)
  refine i_iload_n C dL_sortAt_5 (kk := ?_)
  refine i_iload_n C dL_sortAt_6 (kk := ?_)
  refine i_callVC C lk_L_80 (c_X6_sortAt l hl D (hW := hW)) (hcl := rfl) (hst := rfl) dL_sortAt_7 (hw := hW.obj) (hxx := fun E w1 H9 => ?_) (kk := fun v9 w9 G9 => ?_)
  · have key : ((E = "java/lang/IndexOutOfBoundsException" ∧ (oSortAt σ i j k).1 = 1) ∨ (E = "java/lang/IllegalArgumentException" ∧ (oSortAt σ i j k).1 = 2) ∨ (E = "java/util/NoSuchElementException" ∧ (oSortAt σ i j k).1 = 3)) ∧ (oSortAt σ i j k).2.2 = σ ∧ KPc D w τ ad σ w1 := by
      rcases H9 with ⟨H9, hw⟩
      rcases H9 with ⟨hE, hn⟩ | ⟨hE, hn⟩ | ⟨hE, hn⟩
      · have e : oSortAt σ i j k = (1, 0, σ) := op3_e1 (by omega)
        exact ⟨Or.inl (⟨hE, by rw [e]⟩), by rw [e], KPc.same hW hw⟩
      · have e : oSortAt σ i j k = (2, 0, σ) := op3_e2 ⟨by omega, by omega⟩ (fun q => hn.2 (by omega))
        exact ⟨Or.inr (Or.inl (⟨hE, by rw [e]⟩)), by rw [e], KPc.same hW hw⟩
      · have e : oSortAt σ i j k = (3, 0, σ) := by obtain ⟨hj9, p, hp, rfl, hlen⟩ := hn; exact op3_e3 ⟨by omega, by omega⟩ ⟨⟨by omega, by omega⟩, by omega⟩ (fun q => by have h1 := q.2.1; have h2 := q.2.2; rw [Int.toNat_natCast] at h2; have h3 := hlen k.toNat (by omega); omega)
        exact ⟨Or.inr (Or.inr (⟨hE, by rw [e]⟩)), by rw [e], KPc.same hW hw⟩
    obtain ⟨hc, hσ, hK⟩ := key
    rcases hc with ⟨rfl, hR⟩ | ⟨rfl, hR⟩ | ⟨rfl, hR⟩
    · refine ⟨15, ⟨[], [(0, 12, 19, 13), (0, 12, 23, 83)], (0, 12, 15, 25), rfl, ((fun z hz => nomatch hz)), by decide, by decide, rfl, xl_25, xc_25⟩, fun q => ?_⟩
      refine i_astore C dL_sortAt_15 (kk := ?_)
      refine i_iconst C dL_sortAt_17 (kk := ?_)
      exact i_iret C (d := dL_sortAt_18) (h := ⟨by rw [hR], hK.thrown ht hO (by rw [hR]; decide) hσ⟩)
    · refine ⟨19, ⟨[(0, 12, 15, 25)], [(0, 12, 23, 83)], (0, 12, 19, 13), rfl, (by intro z hz; simp only [tableOf, List.map_cons, List.map_nil, List.mem_cons, List.not_mem_nil, or_false] at hz; rcases hz with rfl <;> first | exact ⟨by decide, _, xl_25, by decide⟩), by decide, by decide, rfl, xl_13, xc_13⟩, fun q => ?_⟩
      refine i_astore C dL_sortAt_19 (kk := ?_)
      refine i_iconst C dL_sortAt_21 (kk := ?_)
      exact i_iret C (d := dL_sortAt_22) (h := ⟨by rw [hR], hK.thrown ht hO (by rw [hR]; decide) hσ⟩)
    · refine ⟨23, ⟨[(0, 12, 15, 25), (0, 12, 19, 13)], [], (0, 12, 23, 83), rfl, (by intro z hz; simp only [tableOf, List.map_cons, List.map_nil, List.mem_cons, List.not_mem_nil, or_false] at hz; rcases hz with rfl | rfl <;> first | exact ⟨by decide, _, xl_25, by decide⟩ | exact ⟨by decide, _, xl_13, by decide⟩), by decide, by decide, rfl, xl_83, xc_83⟩, fun q => ?_⟩
      refine i_astore C dL_sortAt_23 (kk := ?_)
      refine i_iconst C dL_sortAt_25 (kk := ?_)
      exact i_iret C (d := dL_sortAt_26) (h := ⟨by rw [hR], hK.thrown ht hO (by rw [hR]; decide) hσ⟩)
  · have key : (oSortAt σ i j k).1 = 0 ∧ v9 = some (.int (Z32 (oSortAt σ i j k).2.1)) ∧ KPc D w τ ad (oSortAt σ i j k).2.2 w9 := by
      obtain ⟨⟨p, hp, rfl, hj9, n, x, rfl, hx, hu⟩, hw⟩ := G9
      have hn9 := (List.getElem?_eq_some_iff.mp hx).1
      have e : oSortAt σ (p : Int) j (n : Int) = _ := op3_t ⟨by omega, by omega⟩ ⟨⟨by omega, by omega⟩, by omega⟩ ⟨⟨⟨by omega, by omega⟩, by omega⟩, by omega, by rw [Int.toNat_natCast]; omega⟩
      rw [Int.toNat_natCast, Int.toNat_natCast, getD_some hx] at e
      rw [e]
      exact ⟨rfl, hu, KPc.same hW hw⟩
    obtain ⟨hR, rfl, hK⟩ := key
    have hO9 := hK.out ht hO
    refine i_i2l C dL_sortAt_10 (kk := ?_)
    refine i_lastore C dL_sortAt_11 (hw := hO9) (kk := ?_)
    refine i_goto C dL_sortAt_12 (tgt := 27) (kk := ?_)
    refine i_iconst C dL_sortAt_27 (kk := ?_)
    exact i_iret C (d := dL_sortAt_28) (h := ⟨by rw [hR], hK.store ht hO rfl⟩)

set_option maxRecDepth 100000 in
set_option maxHeartbeats 4000000 in
theorem w_itemAt (l : Launch) (hl : l.stackTraces = false) (D : gD) {w : wW} {τ ad : Nat → Nat} {nb tb : Nat} {σ : Sg} {g9 : Nat → Int64} {i j k : Int} (hW : WkI D w τ ad nb tb σ) (ht : τ (ad 6000) = 6000) (hO : w (ad 6000) = some (lar D 1 g9)) (hi : inR i) (hj : inR j) (hk : inR k) : CTh l D yL_itemAt cL_itemAt 6 (some .int) [(0, 12, 15, 25), (0, 12, 19, 13), (0, 12, 23, 83)] (rmL 22 10 200) [.ref (ad 0), .int (Z32 i), .int (Z32 j), .int (Z32 k), .ref (ad 6000)] w (fun u w1 => u = some (.int (Z32 (oItemAt σ i j k).1)) ∧ WKP D w τ ad (oItemAt σ i j k) w1) := by
  refine CTh_of hl rfl (by rfl) (Nat.le_of_ble_eq_true rfl) ?_
  intro G C
  show G 0 0 w [some (.ref (ad 0)), some (.int (Z32 i)), some (.int (Z32 j)), some (.int (Z32 k)), some (.ref (ad 6000)), none] 0 []
  refine i_aload C dL_itemAt_0 (kk := ?_)
  refine i_iconst C dL_itemAt_2 (kk := ?_)
  refine i_aload_n C dL_itemAt_3 (kk := ?_)
  refine i_iload_n C dL_itemAt_4 (kk := ?_)
  refine i_iload_n C dL_itemAt_5 (kk := ?_)
  refine i_iload_n C dL_itemAt_6 (kk := ?_)
  refine i_callVC C lk_L_85 (c_X6_itemAt l hl D (hW := hW)) (hcl := rfl) (hst := rfl) dL_itemAt_7 (hw := hW.obj) (hxx := fun E w1 H9 => ?_) (kk := fun v9 w9 G9 => ?_)
  · have key : ((E = "java/lang/IndexOutOfBoundsException" ∧ (oItemAt σ i j k).1 = 1) ∨ (E = "java/lang/IllegalArgumentException" ∧ (oItemAt σ i j k).1 = 2) ∨ (E = "java/util/NoSuchElementException" ∧ (oItemAt σ i j k).1 = 3)) ∧ (oItemAt σ i j k).2.2 = σ ∧ KPc D w τ ad σ w1 := by
      rcases H9 with ⟨H9, hw⟩
      rcases H9 with ⟨hE, hn⟩ | ⟨hE, hn⟩ | ⟨hE, hn⟩
      · have e : oItemAt σ i j k = (1, 0, σ) := op3_e1 (by omega)
        exact ⟨Or.inl (⟨hE, by rw [e]⟩), by rw [e], KPc.same hW hw⟩
      · have e : oItemAt σ i j k = (2, 0, σ) := op3_e2 ⟨by omega, by omega⟩ (fun q => hn.2 (by omega))
        exact ⟨Or.inr (Or.inl (⟨hE, by rw [e]⟩)), by rw [e], KPc.same hW hw⟩
      · have e : oItemAt σ i j k = (3, 0, σ) := by obtain ⟨hj9, p, hp, rfl, hlen⟩ := hn; exact op3_e3 ⟨by omega, by omega⟩ ⟨⟨by omega, by omega⟩, by omega⟩ (fun q => by have h1 := q.2.1; have h2 := q.2.2; rw [Int.toNat_natCast] at h2; have h3 := hlen k.toNat (by omega); omega)
        exact ⟨Or.inr (Or.inr (⟨hE, by rw [e]⟩)), by rw [e], KPc.same hW hw⟩
    obtain ⟨hc, hσ, hK⟩ := key
    rcases hc with ⟨rfl, hR⟩ | ⟨rfl, hR⟩ | ⟨rfl, hR⟩
    · refine ⟨15, ⟨[], [(0, 12, 19, 13), (0, 12, 23, 83)], (0, 12, 15, 25), rfl, ((fun z hz => nomatch hz)), by decide, by decide, rfl, xl_25, xc_25⟩, fun q => ?_⟩
      refine i_astore C dL_itemAt_15 (kk := ?_)
      refine i_iconst C dL_itemAt_17 (kk := ?_)
      exact i_iret C (d := dL_itemAt_18) (h := ⟨by rw [hR], hK.thrown ht hO (by rw [hR]; decide) hσ⟩)
    · refine ⟨19, ⟨[(0, 12, 15, 25)], [(0, 12, 23, 83)], (0, 12, 19, 13), rfl, (by intro z hz; simp only [tableOf, List.map_cons, List.map_nil, List.mem_cons, List.not_mem_nil, or_false] at hz; rcases hz with rfl <;> first | exact ⟨by decide, _, xl_25, by decide⟩), by decide, by decide, rfl, xl_13, xc_13⟩, fun q => ?_⟩
      refine i_astore C dL_itemAt_19 (kk := ?_)
      refine i_iconst C dL_itemAt_21 (kk := ?_)
      exact i_iret C (d := dL_itemAt_22) (h := ⟨by rw [hR], hK.thrown ht hO (by rw [hR]; decide) hσ⟩)
    · refine ⟨23, ⟨[(0, 12, 15, 25), (0, 12, 19, 13)], [], (0, 12, 23, 83), rfl, (by intro z hz; simp only [tableOf, List.map_cons, List.map_nil, List.mem_cons, List.not_mem_nil, or_false] at hz; rcases hz with rfl | rfl <;> first | exact ⟨by decide, _, xl_25, by decide⟩ | exact ⟨by decide, _, xl_13, by decide⟩), by decide, by decide, rfl, xl_83, xc_83⟩, fun q => ?_⟩
      refine i_astore C dL_itemAt_23 (kk := ?_)
      refine i_iconst C dL_itemAt_25 (kk := ?_)
      exact i_iret C (d := dL_itemAt_26) (h := ⟨by rw [hR], hK.thrown ht hO (by rw [hR]; decide) hσ⟩)
  · have key : (oItemAt σ i j k).1 = 0 ∧ v9 = some (.int (Z32 (oItemAt σ i j k).2.1)) ∧ KPc D w τ ad (oItemAt σ i j k).2.2 w9 := by
      obtain ⟨⟨p, hp, rfl, hj9, n, x, rfl, hx, hu⟩, hw⟩ := G9
      have hn9 := (List.getElem?_eq_some_iff.mp hx).1
      have e : oItemAt σ (p : Int) j (n : Int) = _ := op3_t ⟨by omega, by omega⟩ ⟨⟨by omega, by omega⟩, by omega⟩ ⟨⟨⟨by omega, by omega⟩, by omega⟩, by omega, by rw [Int.toNat_natCast]; omega⟩
      rw [Int.toNat_natCast, Int.toNat_natCast, getD_some hx] at e
      rw [e]
      exact ⟨rfl, hu, KPc.same hW hw⟩
    obtain ⟨hR, rfl, hK⟩ := key
    have hO9 := hK.out ht hO
    refine i_i2l C dL_itemAt_10 (kk := ?_)
    refine i_lastore C dL_itemAt_11 (hw := hO9) (kk := ?_)
    refine i_goto C dL_itemAt_12 (tgt := 27) (kk := ?_)
    refine i_iconst C dL_itemAt_27 (kk := ?_)
    exact i_iret C (d := dL_itemAt_28) (h := ⟨by rw [hR], hK.store ht hO rfl⟩)

set_option maxRecDepth 100000 in
set_option maxHeartbeats 4000000 in
theorem w_itemAnew (l : Launch) (hl : l.stackTraces = false) (D : gD) {w : wW} {τ ad : Nat → Nat} {nb tb : Nat} {σ : Sg} {g9 : Nat → Int64} {i j k : Int} (hW : WkI D w τ ad nb tb σ) (ht : τ (ad 6000) = 6000) (hO : w (ad 6000) = some (lar D 1 g9)) (hi : inR i) (hj : inR j) (hk : inR k) : CTh l D yL_itemAnew cL_itemAnew 6 (some .int) [(0, 12, 15, 25), (0, 12, 19, 13), (0, 12, 23, 83)] (rmL 22 10 200) [.ref (ad 0), .int (Z32 i), .int (Z32 j), .int (Z32 k), .ref (ad 6000)] w (fun u w1 => u = some (.int (Z32 (oItemAt σ i j k).1)) ∧ WKP D w τ ad (oItemAt σ i j k) w1) := by
  refine CTh_of hl rfl (by rfl) (Nat.le_of_ble_eq_true rfl) ?_
  intro G C
  show G 0 0 w [some (.ref (ad 0)), some (.int (Z32 i)), some (.int (Z32 j)), some (.int (Z32 k)), some (.ref (ad 6000)), none] 0 []
  refine i_aload C dL_itemAnew_0 (kk := ?_)
  refine i_iconst C dL_itemAnew_2 (kk := ?_)
  refine i_aload_n C dL_itemAnew_3 (kk := ?_)
  refine i_iload_n C dL_itemAnew_4 (kk := ?_)
  refine i_iload_n C dL_itemAnew_5 (kk := ?_)
  refine i_iload_n C dL_itemAnew_6 (kk := ?_)
  refine i_callVC C lk_L_88 (c_X6_itemAnew l hl D (hW := hW)) (hcl := rfl) (hst := rfl) dL_itemAnew_7 (hw := hW.obj) (hxx := fun E w1 H9 => ?_) (kk := fun v9 w9 G9 => ?_)
  · have key : ((E = "java/lang/IndexOutOfBoundsException" ∧ (oItemAt σ i j k).1 = 1) ∨ (E = "java/lang/IllegalArgumentException" ∧ (oItemAt σ i j k).1 = 2) ∨ (E = "java/util/NoSuchElementException" ∧ (oItemAt σ i j k).1 = 3)) ∧ (oItemAt σ i j k).2.2 = σ ∧ KPc D w τ ad σ w1 := by
      rcases H9 with ⟨H9, hw⟩
      rcases H9 with ⟨hE, hn⟩ | ⟨hE, hn⟩ | ⟨hE, hn⟩
      · have e : oItemAt σ i j k = (1, 0, σ) := op3_e1 (by omega)
        exact ⟨Or.inl (⟨hE, by rw [e]⟩), by rw [e], kpW.kp hw⟩
      · have e : oItemAt σ i j k = (2, 0, σ) := op3_e2 ⟨by omega, by omega⟩ (fun q => hn.2 (by omega))
        exact ⟨Or.inr (Or.inl (⟨hE, by rw [e]⟩)), by rw [e], kpW.kp hw⟩
      · have e : oItemAt σ i j k = (3, 0, σ) := by obtain ⟨hj9, p, hp, rfl, hlen⟩ := hn; exact op3_e3 ⟨by omega, by omega⟩ ⟨⟨by omega, by omega⟩, by omega⟩ (fun q => by have h1 := q.2.1; have h2 := q.2.2; rw [Int.toNat_natCast] at h2; have h3 := hlen k.toNat (by omega); omega)
        exact ⟨Or.inr (Or.inr (⟨hE, by rw [e]⟩)), by rw [e], kpW.kp hw⟩
    obtain ⟨hc, hσ, hK⟩ := key
    rcases hc with ⟨rfl, hR⟩ | ⟨rfl, hR⟩ | ⟨rfl, hR⟩
    · refine ⟨15, ⟨[], [(0, 12, 19, 13), (0, 12, 23, 83)], (0, 12, 15, 25), rfl, ((fun z hz => nomatch hz)), by decide, by decide, rfl, xl_25, xc_25⟩, fun q => ?_⟩
      refine i_astore C dL_itemAnew_15 (kk := ?_)
      refine i_iconst C dL_itemAnew_17 (kk := ?_)
      exact i_iret C (d := dL_itemAnew_18) (h := ⟨by rw [hR], hK.thrown ht hO (by rw [hR]; decide) hσ⟩)
    · refine ⟨19, ⟨[(0, 12, 15, 25)], [(0, 12, 23, 83)], (0, 12, 19, 13), rfl, (by intro z hz; simp only [tableOf, List.map_cons, List.map_nil, List.mem_cons, List.not_mem_nil, or_false] at hz; rcases hz with rfl <;> first | exact ⟨by decide, _, xl_25, by decide⟩), by decide, by decide, rfl, xl_13, xc_13⟩, fun q => ?_⟩
      refine i_astore C dL_itemAnew_19 (kk := ?_)
      refine i_iconst C dL_itemAnew_21 (kk := ?_)
      exact i_iret C (d := dL_itemAnew_22) (h := ⟨by rw [hR], hK.thrown ht hO (by rw [hR]; decide) hσ⟩)
    · refine ⟨23, ⟨[(0, 12, 15, 25), (0, 12, 19, 13)], [], (0, 12, 23, 83), rfl, (by intro z hz; simp only [tableOf, List.map_cons, List.map_nil, List.mem_cons, List.not_mem_nil, or_false] at hz; rcases hz with rfl | rfl <;> first | exact ⟨by decide, _, xl_25, by decide⟩ | exact ⟨by decide, _, xl_13, by decide⟩), by decide, by decide, rfl, xl_83, xc_83⟩, fun q => ?_⟩
      refine i_astore C dL_itemAnew_23 (kk := ?_)
      refine i_iconst C dL_itemAnew_25 (kk := ?_)
      exact i_iret C (d := dL_itemAnew_26) (h := ⟨by rw [hR], hK.thrown ht hO (by rw [hR]; decide) hσ⟩)
  · have key : (oItemAt σ i j k).1 = 0 ∧ v9 = some (.int (Z32 (oItemAt σ i j k).2.1)) ∧ KPc D w τ ad (oItemAt σ i j k).2.2 w9 := by
      obtain ⟨⟨p, hp, rfl, hj9, n, x, rfl, hx, hu⟩, hw⟩ := G9
      have hn9 := (List.getElem?_eq_some_iff.mp hx).1
      have e : oItemAt σ (p : Int) j (n : Int) = _ := op3_t ⟨by omega, by omega⟩ ⟨⟨by omega, by omega⟩, by omega⟩ ⟨⟨⟨by omega, by omega⟩, by omega⟩, by omega, by rw [Int.toNat_natCast]; omega⟩
      rw [Int.toNat_natCast, Int.toNat_natCast, getD_some hx] at e
      rw [e]
      exact ⟨rfl, hu, kpW.kp hw⟩
    obtain ⟨hR, rfl, hK⟩ := key
    have hO9 := hK.out ht hO
    refine i_i2l C dL_itemAnew_10 (kk := ?_)
    refine i_lastore C dL_itemAnew_11 (hw := hO9) (kk := ?_)
    refine i_goto C dL_itemAnew_12 (tgt := 27) (kk := ?_)
    refine i_iconst C dL_itemAnew_27 (kk := ?_)
    exact i_iret C (d := dL_itemAnew_28) (h := ⟨by rw [hR], hK.store ht hO rfl⟩)

set_option maxRecDepth 100000 in
set_option maxHeartbeats 4000000 in
theorem w_sourceAt (l : Launch) (hl : l.stackTraces = false) (D : gD) {w : wW} {τ ad : Nat → Nat} {nb tb : Nat} {σ : Sg} {g9 : Nat → Int64} {i j k : Int} (hW : WkI D w τ ad nb tb σ) (ht : τ (ad 6000) = 6000) (hO : w (ad 6000) = some (lar D 1 g9)) (hi : inR i) (hj : inR j) (hk : inR k) : CTh l D yL_sourceAt cL_sourceAt 6 (some .int) [(0, 12, 15, 25), (0, 12, 19, 13), (0, 12, 23, 83)] (rmL 22 10 200) [.ref (ad 0), .int (Z32 i), .int (Z32 j), .int (Z32 k), .ref (ad 6000)] w (fun u w1 => u = some (.int (Z32 (oSourceAt σ i j k).1)) ∧ WKP D w τ ad (oSourceAt σ i j k) w1) := by
  refine CTh_of hl rfl (by rfl) (Nat.le_of_ble_eq_true rfl) ?_
  intro G C
  show G 0 0 w [some (.ref (ad 0)), some (.int (Z32 i)), some (.int (Z32 j)), some (.int (Z32 k)), some (.ref (ad 6000)), none] 0 []
  refine i_aload C dL_sourceAt_0 (kk := ?_)
  refine i_iconst C dL_sourceAt_2 (kk := ?_)
  refine i_aload_n C dL_sourceAt_3 (kk := ?_)
  refine i_iload_n C dL_sourceAt_4 (kk := ?_)
  refine i_iload_n C dL_sourceAt_5 (kk := ?_)
  refine i_iload_n C dL_sourceAt_6 (kk := ?_)
  refine i_callVC C lk_L_91 (c_X6_sourceAt l hl D (hW := hW)) (hcl := rfl) (hst := rfl) dL_sourceAt_7 (hw := hW.obj) (hxx := fun E w1 H9 => ?_) (kk := fun v9 w9 G9 => ?_)
  · have key : ((E = "java/lang/IndexOutOfBoundsException" ∧ (oSourceAt σ i j k).1 = 1) ∨ (E = "java/lang/IllegalArgumentException" ∧ (oSourceAt σ i j k).1 = 2) ∨ (E = "java/util/NoSuchElementException" ∧ (oSourceAt σ i j k).1 = 3)) ∧ (oSourceAt σ i j k).2.2 = σ ∧ KPc D w τ ad σ w1 := by
      rcases H9 with ⟨H9, hw⟩
      rcases H9 with ⟨hE, hn⟩ | ⟨hE, hn⟩ | ⟨hE, hn⟩
      · have e : oSourceAt σ i j k = (1, 0, σ) := op3_e1 (by omega)
        exact ⟨Or.inl (⟨hE, by rw [e]⟩), by rw [e], KPc.same hW hw⟩
      · have e : oSourceAt σ i j k = (2, 0, σ) := op3_e2 ⟨by omega, by omega⟩ (fun q => hn.2 (by omega))
        exact ⟨Or.inr (Or.inl (⟨hE, by rw [e]⟩)), by rw [e], KPc.same hW hw⟩
      · have e : oSourceAt σ i j k = (3, 0, σ) := by obtain ⟨hj9, p, hp, rfl, hlen⟩ := hn; exact op3_e3 ⟨by omega, by omega⟩ ⟨⟨by omega, by omega⟩, by omega⟩ (fun q => by have h1 := q.2.1; have h2 := q.2.2; rw [Int.toNat_natCast] at h2; have h3 := hlen k.toNat (by omega); omega)
        exact ⟨Or.inr (Or.inr (⟨hE, by rw [e]⟩)), by rw [e], KPc.same hW hw⟩
    obtain ⟨hc, hσ, hK⟩ := key
    rcases hc with ⟨rfl, hR⟩ | ⟨rfl, hR⟩ | ⟨rfl, hR⟩
    · refine ⟨15, ⟨[], [(0, 12, 19, 13), (0, 12, 23, 83)], (0, 12, 15, 25), rfl, ((fun z hz => nomatch hz)), by decide, by decide, rfl, xl_25, xc_25⟩, fun q => ?_⟩
      refine i_astore C dL_sourceAt_15 (kk := ?_)
      refine i_iconst C dL_sourceAt_17 (kk := ?_)
      exact i_iret C (d := dL_sourceAt_18) (h := ⟨by rw [hR], hK.thrown ht hO (by rw [hR]; decide) hσ⟩)
    · refine ⟨19, ⟨[(0, 12, 15, 25)], [(0, 12, 23, 83)], (0, 12, 19, 13), rfl, (by intro z hz; simp only [tableOf, List.map_cons, List.map_nil, List.mem_cons, List.not_mem_nil, or_false] at hz; rcases hz with rfl <;> first | exact ⟨by decide, _, xl_25, by decide⟩), by decide, by decide, rfl, xl_13, xc_13⟩, fun q => ?_⟩
      refine i_astore C dL_sourceAt_19 (kk := ?_)
      refine i_iconst C dL_sourceAt_21 (kk := ?_)
      exact i_iret C (d := dL_sourceAt_22) (h := ⟨by rw [hR], hK.thrown ht hO (by rw [hR]; decide) hσ⟩)
    · refine ⟨23, ⟨[(0, 12, 15, 25), (0, 12, 19, 13)], [], (0, 12, 23, 83), rfl, (by intro z hz; simp only [tableOf, List.map_cons, List.map_nil, List.mem_cons, List.not_mem_nil, or_false] at hz; rcases hz with rfl | rfl <;> first | exact ⟨by decide, _, xl_25, by decide⟩ | exact ⟨by decide, _, xl_13, by decide⟩), by decide, by decide, rfl, xl_83, xc_83⟩, fun q => ?_⟩
      refine i_astore C dL_sourceAt_23 (kk := ?_)
      refine i_iconst C dL_sourceAt_25 (kk := ?_)
      exact i_iret C (d := dL_sourceAt_26) (h := ⟨by rw [hR], hK.thrown ht hO (by rw [hR]; decide) hσ⟩)
  · have key : (oSourceAt σ i j k).1 = 0 ∧ v9 = some (.int (Z32 (oSourceAt σ i j k).2.1)) ∧ KPc D w τ ad (oSourceAt σ i j k).2.2 w9 := by
      obtain ⟨⟨p, hp, rfl, hj9, n, x, rfl, hx, hu⟩, hw⟩ := G9
      have hn9 := (List.getElem?_eq_some_iff.mp hx).1
      have e : oSourceAt σ (p : Int) j (n : Int) = _ := op3_t ⟨by omega, by omega⟩ ⟨⟨by omega, by omega⟩, by omega⟩ ⟨⟨⟨by omega, by omega⟩, by omega⟩, by omega, by rw [Int.toNat_natCast]; omega⟩
      rw [Int.toNat_natCast, Int.toNat_natCast, getD_some hx] at e
      rw [e]
      exact ⟨rfl, hu, KPc.same hW hw⟩
    obtain ⟨hR, rfl, hK⟩ := key
    have hO9 := hK.out ht hO
    refine i_i2l C dL_sourceAt_10 (kk := ?_)
    refine i_lastore C dL_sourceAt_11 (hw := hO9) (kk := ?_)
    refine i_goto C dL_sourceAt_12 (tgt := 27) (kk := ?_)
    refine i_iconst C dL_sourceAt_27 (kk := ?_)
    exact i_iret C (d := dL_sourceAt_28) (h := ⟨by rw [hR], hK.store ht hO rfl⟩)

set_option maxRecDepth 100000 in
set_option maxHeartbeats 4000000 in
theorem w_standsFor (l : Launch) (hl : l.stackTraces = false) (D : gD) {w : wW} {τ ad : Nat → Nat} {nb tb : Nat} {σ : Sg} {g9 : Nat → Int64} {i : Int} (hW : WkI D w τ ad nb tb σ) (ht : τ (ad 6000) = 6000) (hO : w (ad 6000) = some (lar D 1 g9)) (hi : inR i) : CTh l D yL_standsFor cL_standsFor 4 (some .int) [(0, 9, 12, 25)] (rmL 22 10 200) [.ref (ad 0), .int (Z32 i), .ref (ad 6000)] w (fun u w1 => u = some (.int (Z32 (oStandsFor σ i).1)) ∧ WKP D w τ ad (oStandsFor σ i) w1) := by
  refine CTh_of hl rfl (by rfl) (Nat.le_of_ble_eq_true rfl) ?_
  intro G C
  show G 0 0 w [some (.ref (ad 0)), some (.int (Z32 i)), some (.ref (ad 6000)), none] 0 []
  refine i_aload_n C dL_standsFor_0 (kk := ?_)
  refine i_iconst C dL_standsFor_1 (kk := ?_)
  refine i_aload_n C dL_standsFor_2 (kk := ?_)
  refine i_iload_n C dL_standsFor_3 (kk := ?_)
  refine i_callVC C lk_L_94 (c_X6_standsFor l hl D (hW := hW)) (hcl := rfl) (hst := rfl) dL_standsFor_4 (hw := hW.obj) (hxx := fun E w1 H9 => ?_) (kk := fun v9 w9 G9 => ?_)
  · have key : ((E = "java/lang/IndexOutOfBoundsException" ∧ (oStandsFor σ i).1 = 1)) ∧ (oStandsFor σ i).2.2 = σ ∧ KPc D w τ ad σ w1 := by
      obtain ⟨hE9, hn9, hw⟩ := H9
      have H9 := And.intro hE9 hn9
      obtain ⟨hE, hn⟩ := H9
      have e : oStandsFor σ i = (1, 0, σ) := op3_e1 (by omega)
      exact ⟨⟨hE, by rw [e]⟩, by rw [e], KPc.same hW hw⟩
    obtain ⟨hc, hσ, hK⟩ := key
    obtain ⟨rfl, hR⟩ := hc
    refine ⟨12, ⟨[], [], (0, 9, 12, 25), rfl, ((fun z hz => nomatch hz)), by decide, by decide, rfl, xl_25, xc_25⟩, fun q => ?_⟩
    refine i_astore_n C dL_standsFor_12 (kk := ?_)
    refine i_iconst C dL_standsFor_13 (kk := ?_)
    exact i_iret C (d := dL_standsFor_14) (h := ⟨by rw [hR], hK.thrown ht hO (by rw [hR]; decide) hσ⟩)
  · have key : (oStandsFor σ i).1 = 0 ∧ v9 = some (.int (Z32 (oStandsFor σ i).2.1)) ∧ KPc D w τ ad (oStandsFor σ i).2.2 w9 := by
      obtain ⟨⟨p, hp, rfl, hu⟩, hw⟩ := G9
      have e : oStandsFor σ (p : Int) = _ := op3_t ⟨by omega, by omega⟩ trivial trivial
      rw [Int.toNat_natCast] at e
      rw [e]
      exact ⟨rfl, hu, KPc.same hW hw⟩
    obtain ⟨hR, rfl, hK⟩ := key
    have hO9 := hK.out ht hO
    refine i_i2l C dL_standsFor_7 (kk := ?_)
    refine i_lastore C dL_standsFor_8 (hw := hO9) (kk := ?_)
    refine i_goto C dL_standsFor_9 (tgt := 15) (kk := ?_)
    refine i_iconst C dL_standsFor_15 (kk := ?_)
    exact i_iret C (d := dL_standsFor_16) (h := ⟨by rw [hR], hK.store ht hO rfl⟩)

set_option maxRecDepth 100000 in
set_option maxHeartbeats 4000000 in
theorem w_links (l : Launch) (hl : l.stackTraces = false) (D : gD) {w : wW} {τ ad : Nat → Nat} {nb tb : Nat} {σ : Sg} {g9 : Nat → Int64} {i : Int} (hW : WkI D w τ ad nb tb σ) (ht : τ (ad 6000) = 6000) (hO : w (ad 6000) = some (lar D 1 g9)) (hi : inR i) : CTh l D yL_links cL_links 4 (some .int) [(0, 9, 12, 25)] (rmL 22 10 200) [.ref (ad 0), .int (Z32 i), .ref (ad 6000)] w (fun u w1 => u = some (.int (Z32 (oLinks σ i).1)) ∧ WKP D w τ ad (oLinks σ i) w1) := by
  refine CTh_of hl rfl (by rfl) (Nat.le_of_ble_eq_true rfl) ?_
  intro G C
  show G 0 0 w [some (.ref (ad 0)), some (.int (Z32 i)), some (.ref (ad 6000)), none] 0 []
  refine i_aload_n C dL_links_0 (kk := ?_)
  refine i_iconst C dL_links_1 (kk := ?_)
  refine i_aload_n C dL_links_2 (kk := ?_)
  refine i_iload_n C dL_links_3 (kk := ?_)
  refine i_callVC C lk_L_97 (c_X6_links l hl D (hW := hW)) (hcl := rfl) (hst := rfl) dL_links_4 (hw := hW.obj) (hxx := fun E w1 H9 => ?_) (kk := fun v9 w9 G9 => ?_)
  · have key : ((E = "java/lang/IndexOutOfBoundsException" ∧ (oLinks σ i).1 = 1)) ∧ (oLinks σ i).2.2 = σ ∧ KPc D w τ ad σ w1 := by
      obtain ⟨hE9, hn9, hw⟩ := H9
      have H9 := And.intro hE9 hn9
      obtain ⟨hE, hn⟩ := H9
      have e : oLinks σ i = (1, 0, σ) := op3_e1 (by omega)
      exact ⟨⟨hE, by rw [e]⟩, by rw [e], KPc.same hW hw⟩
    obtain ⟨hc, hσ, hK⟩ := key
    obtain ⟨rfl, hR⟩ := hc
    refine ⟨12, ⟨[], [], (0, 9, 12, 25), rfl, ((fun z hz => nomatch hz)), by decide, by decide, rfl, xl_25, xc_25⟩, fun q => ?_⟩
    refine i_astore_n C dL_links_12 (kk := ?_)
    refine i_iconst C dL_links_13 (kk := ?_)
    exact i_iret C (d := dL_links_14) (h := ⟨by rw [hR], hK.thrown ht hO (by rw [hR]; decide) hσ⟩)
  · have key : (oLinks σ i).1 = 0 ∧ v9 = some (.int (Z32 (oLinks σ i).2.1)) ∧ KPc D w τ ad (oLinks σ i).2.2 w9 := by
      obtain ⟨⟨p, hp, rfl, hu⟩, hw⟩ := G9
      have e : oLinks σ (p : Int) = _ := op3_t ⟨by omega, by omega⟩ trivial trivial
      rw [Int.toNat_natCast] at e
      rw [e]
      exact ⟨rfl, hu, KPc.same hW hw⟩
    obtain ⟨hR, rfl, hK⟩ := key
    have hO9 := hK.out ht hO
    refine i_i2l C dL_links_7 (kk := ?_)
    refine i_lastore C dL_links_8 (hw := hO9) (kk := ?_)
    refine i_goto C dL_links_9 (tgt := 15) (kk := ?_)
    refine i_iconst C dL_links_15 (kk := ?_)
    exact i_iret C (d := dL_links_16) (h := ⟨by rw [hR], hK.store ht hO rfl⟩)

set_option maxRecDepth 100000 in
set_option maxHeartbeats 4000000 in
theorem w_broken (l : Launch) (hl : l.stackTraces = false) (D : gD) {w : wW} {τ ad : Nat → Nat} {nb tb : Nat} {σ : Sg} {g9 : Nat → Int64} {i : Int} (hW : WkI D w τ ad nb tb σ) (ht : τ (ad 6000) = 6000) (hO : w (ad 6000) = some (lar D 1 g9)) (hi : inR i) : CTh l D yL_broken cL_broken 4 (some .int) [(0, 9, 12, 25)] (rmL 22 10 200) [.ref (ad 0), .int (Z32 i), .ref (ad 6000)] w (fun u w1 => u = some (.int (Z32 (oBroken σ i).1)) ∧ WKP D w τ ad (oBroken σ i) w1) := by
  refine CTh_of hl rfl (by rfl) (Nat.le_of_ble_eq_true rfl) ?_
  intro G C
  show G 0 0 w [some (.ref (ad 0)), some (.int (Z32 i)), some (.ref (ad 6000)), none] 0 []
  refine i_aload_n C dL_broken_0 (kk := ?_)
  refine i_iconst C dL_broken_1 (kk := ?_)
  refine i_aload_n C dL_broken_2 (kk := ?_)
  refine i_iload_n C dL_broken_3 (kk := ?_)
  refine i_callVC C lk_L_100 (c_X6_broken l hl D (hW := hW)) (hcl := rfl) (hst := rfl) dL_broken_4 (hw := hW.obj) (hxx := fun E w1 H9 => ?_) (kk := fun v9 w9 G9 => ?_)
  · have key : ((E = "java/lang/IndexOutOfBoundsException" ∧ (oBroken σ i).1 = 1)) ∧ (oBroken σ i).2.2 = σ ∧ KPc D w τ ad σ w1 := by
      obtain ⟨hE9, hn9, hw⟩ := H9
      have H9 := And.intro hE9 hn9
      obtain ⟨hE, hn⟩ := H9
      have e : oBroken σ i = (1, 0, σ) := op3_e1 (by omega)
      exact ⟨⟨hE, by rw [e]⟩, by rw [e], KPc.same hW hw⟩
    obtain ⟨hc, hσ, hK⟩ := key
    obtain ⟨rfl, hR⟩ := hc
    refine ⟨12, ⟨[], [], (0, 9, 12, 25), rfl, ((fun z hz => nomatch hz)), by decide, by decide, rfl, xl_25, xc_25⟩, fun q => ?_⟩
    refine i_astore_n C dL_broken_12 (kk := ?_)
    refine i_iconst C dL_broken_13 (kk := ?_)
    exact i_iret C (d := dL_broken_14) (h := ⟨by rw [hR], hK.thrown ht hO (by rw [hR]; decide) hσ⟩)
  · have key : (oBroken σ i).1 = 0 ∧ v9 = some (.int (Z32 (oBroken σ i).2.1)) ∧ KPc D w τ ad (oBroken σ i).2.2 w9 := by
      obtain ⟨⟨p, hp, rfl, hu⟩, hw⟩ := G9
      have e : oBroken σ (p : Int) = _ := op3_t ⟨by omega, by omega⟩ trivial trivial
      rw [Int.toNat_natCast] at e
      rw [e]
      exact ⟨rfl, hu, KPc.same hW hw⟩
    obtain ⟨hR, rfl, hK⟩ := key
    have hO9 := hK.out ht hO
    refine i_i2l C dL_broken_7 (kk := ?_)
    refine i_lastore C dL_broken_8 (hw := hO9) (kk := ?_)
    refine i_goto C dL_broken_9 (tgt := 15) (kk := ?_)
    refine i_iconst C dL_broken_15 (kk := ?_)
    exact i_iret C (d := dL_broken_16) (h := ⟨by rw [hR], hK.store ht hO rfl⟩)

set_option maxRecDepth 100000 in
set_option maxHeartbeats 4000000 in
theorem w_firstBroken (l : Launch) (hl : l.stackTraces = false) (D : gD) {w : wW} {τ ad : Nat → Nat} {nb tb : Nat} {σ : Sg} {g9 : Nat → Int64} {i : Int} (hW : WkI D w τ ad nb tb σ) (ht : τ (ad 6000) = 6000) (hO : w (ad 6000) = some (lar D 1 g9)) (hi : inR i) : CTh l D yL_firstBroken cL_firstBroken 4 (some .int) [(0, 9, 12, 25)] (rmL 22 10 200) [.ref (ad 0), .int (Z32 i), .ref (ad 6000)] w (fun u w1 => u = some (.int (Z32 (oFirstBroken σ i).1)) ∧ WKP D w τ ad (oFirstBroken σ i) w1) := by
  refine CTh_of hl rfl (by rfl) (Nat.le_of_ble_eq_true rfl) ?_
  intro G C
  show G 0 0 w [some (.ref (ad 0)), some (.int (Z32 i)), some (.ref (ad 6000)), none] 0 []
  refine i_aload_n C dL_firstBroken_0 (kk := ?_)
  refine i_iconst C dL_firstBroken_1 (kk := ?_)
  refine i_aload_n C dL_firstBroken_2 (kk := ?_)
  refine i_iload_n C dL_firstBroken_3 (kk := ?_)
  refine i_callVC C lk_L_103 (c_X6_firstBroken l hl D (hW := hW)) (hcl := rfl) (hst := rfl) dL_firstBroken_4 (hw := hW.obj) (hxx := fun E w1 H9 => ?_) (kk := fun v9 w9 G9 => ?_)
  · have key : ((E = "java/lang/IndexOutOfBoundsException" ∧ (oFirstBroken σ i).1 = 1)) ∧ (oFirstBroken σ i).2.2 = σ ∧ KPc D w τ ad σ w1 := by
      obtain ⟨hE9, hn9, hw⟩ := H9
      have H9 := And.intro hE9 hn9
      obtain ⟨hE, hn⟩ := H9
      have e : oFirstBroken σ i = (1, 0, σ) := op3_e1 (by omega)
      exact ⟨⟨hE, by rw [e]⟩, by rw [e], KPc.same hW hw⟩
    obtain ⟨hc, hσ, hK⟩ := key
    obtain ⟨rfl, hR⟩ := hc
    refine ⟨12, ⟨[], [], (0, 9, 12, 25), rfl, ((fun z hz => nomatch hz)), by decide, by decide, rfl, xl_25, xc_25⟩, fun q => ?_⟩
    refine i_astore_n C dL_firstBroken_12 (kk := ?_)
    refine i_iconst C dL_firstBroken_13 (kk := ?_)
    exact i_iret C (d := dL_firstBroken_14) (h := ⟨by rw [hR], hK.thrown ht hO (by rw [hR]; decide) hσ⟩)
  · have key : (oFirstBroken σ i).1 = 0 ∧ v9 = some (.int (Z32 (oFirstBroken σ i).2.1)) ∧ KPc D w τ ad (oFirstBroken σ i).2.2 w9 := by
      obtain ⟨⟨p, hp, rfl, hu⟩, hw⟩ := G9
      have e : oFirstBroken σ (p : Int) = _ := op3_t ⟨by omega, by omega⟩ trivial trivial
      rw [Int.toNat_natCast] at e
      rw [e]
      exact ⟨rfl, hu, KPc.same hW hw⟩
    obtain ⟨hR, rfl, hK⟩ := key
    have hO9 := hK.out ht hO
    refine i_i2l C dL_firstBroken_7 (kk := ?_)
    refine i_lastore C dL_firstBroken_8 (hw := hO9) (kk := ?_)
    refine i_goto C dL_firstBroken_9 (tgt := 15) (kk := ?_)
    refine i_iconst C dL_firstBroken_15 (kk := ?_)
    exact i_iret C (d := dL_firstBroken_16) (h := ⟨by rw [hR], hK.store ht hO rfl⟩)

set_option maxRecDepth 100000 in
set_option maxHeartbeats 4000000 in
theorem w_linkedFrom (l : Launch) (hl : l.stackTraces = false) (D : gD) {w : wW} {τ ad : Nat → Nat} {nb tb : Nat} {σ : Sg} {g9 : Nat → Int64} {i : Int} (hW : WkI D w τ ad nb tb σ) (ht : τ (ad 6000) = 6000) (hO : w (ad 6000) = some (lar D 1 g9)) (hi : inR i) : CTh l D yL_linkedFrom cL_linkedFrom 4 (some .int) [(0, 9, 12, 25)] (rmL 22 10 200) [.ref (ad 0), .int (Z32 i), .ref (ad 6000)] w (fun u w1 => u = some (.int (Z32 (oLinkedFrom σ i).1)) ∧ WKP D w τ ad (oLinkedFrom σ i) w1) := by
  refine CTh_of hl rfl (by rfl) (Nat.le_of_ble_eq_true rfl) ?_
  intro G C
  show G 0 0 w [some (.ref (ad 0)), some (.int (Z32 i)), some (.ref (ad 6000)), none] 0 []
  refine i_aload_n C dL_linkedFrom_0 (kk := ?_)
  refine i_iconst C dL_linkedFrom_1 (kk := ?_)
  refine i_aload_n C dL_linkedFrom_2 (kk := ?_)
  refine i_iload_n C dL_linkedFrom_3 (kk := ?_)
  refine i_callVC C lk_L_106 (c_X6_linkedFrom l hl D (hW := hW)) (hcl := rfl) (hst := rfl) dL_linkedFrom_4 (hw := hW.obj) (hxx := fun E w1 H9 => ?_) (kk := fun v9 w9 G9 => ?_)
  · have key : ((E = "java/lang/IndexOutOfBoundsException" ∧ (oLinkedFrom σ i).1 = 1)) ∧ (oLinkedFrom σ i).2.2 = σ ∧ KPc D w τ ad σ w1 := by
      obtain ⟨hE9, hn9, hw⟩ := H9
      have H9 := And.intro hE9 hn9
      obtain ⟨hE, hn⟩ := H9
      have e : oLinkedFrom σ i = (1, 0, σ) := op3_e1 (by omega)
      exact ⟨⟨hE, by rw [e]⟩, by rw [e], KPc.same hW hw⟩
    obtain ⟨hc, hσ, hK⟩ := key
    obtain ⟨rfl, hR⟩ := hc
    refine ⟨12, ⟨[], [], (0, 9, 12, 25), rfl, ((fun z hz => nomatch hz)), by decide, by decide, rfl, xl_25, xc_25⟩, fun q => ?_⟩
    refine i_astore_n C dL_linkedFrom_12 (kk := ?_)
    refine i_iconst C dL_linkedFrom_13 (kk := ?_)
    exact i_iret C (d := dL_linkedFrom_14) (h := ⟨by rw [hR], hK.thrown ht hO (by rw [hR]; decide) hσ⟩)
  · have key : (oLinkedFrom σ i).1 = 0 ∧ v9 = some (.int (Z32 (oLinkedFrom σ i).2.1)) ∧ KPc D w τ ad (oLinkedFrom σ i).2.2 w9 := by
      obtain ⟨⟨p, hp, rfl, hu⟩, hw⟩ := G9
      have e : oLinkedFrom σ (p : Int) = _ := op3_t ⟨by omega, by omega⟩ trivial trivial
      rw [Int.toNat_natCast] at e
      rw [e]
      exact ⟨rfl, hu, KPc.same hW hw⟩
    obtain ⟨hR, rfl, hK⟩ := key
    have hO9 := hK.out ht hO
    refine i_i2l C dL_linkedFrom_7 (kk := ?_)
    refine i_lastore C dL_linkedFrom_8 (hw := hO9) (kk := ?_)
    refine i_goto C dL_linkedFrom_9 (tgt := 15) (kk := ?_)
    refine i_iconst C dL_linkedFrom_15 (kk := ?_)
    exact i_iret C (d := dL_linkedFrom_16) (h := ⟨by rw [hR], hK.store ht hO rfl⟩)

set_option maxRecDepth 100000 in
set_option maxHeartbeats 4000000 in
theorem w_breaches (l : Launch) (hl : l.stackTraces = false) (D : gD) {w : wW} {τ ad : Nat → Nat} {nb tb : Nat} {σ : Sg} {g9 : Nat → Int64} {i : Int} (hW : WkI D w τ ad nb tb σ) (ht : τ (ad 6000) = 6000) (hO : w (ad 6000) = some (lar D 1 g9)) (hi : inR i) : CTh l D yL_breaches cL_breaches 4 (some .int) [(0, 9, 12, 25)] (rmL 22 10 200) [.ref (ad 0), .int (Z32 i), .ref (ad 6000)] w (fun u w1 => u = some (.int (Z32 (oBreaches σ i).1)) ∧ WKP D w τ ad (oBreaches σ i) w1) := by
  refine CTh_of hl rfl (by rfl) (Nat.le_of_ble_eq_true rfl) ?_
  intro G C
  show G 0 0 w [some (.ref (ad 0)), some (.int (Z32 i)), some (.ref (ad 6000)), none] 0 []
  refine i_aload_n C dL_breaches_0 (kk := ?_)
  refine i_iconst C dL_breaches_1 (kk := ?_)
  refine i_aload_n C dL_breaches_2 (kk := ?_)
  refine i_iload_n C dL_breaches_3 (kk := ?_)
  refine i_callVC C lk_L_109 (c_X6_breaches l hl D (hW := hW)) (hcl := rfl) (hst := rfl) dL_breaches_4 (hw := hW.obj) (hxx := fun E w1 H9 => ?_) (kk := fun v9 w9 G9 => ?_)
  · have key : ((E = "java/lang/IndexOutOfBoundsException" ∧ (oBreaches σ i).1 = 1)) ∧ (oBreaches σ i).2.2 = σ ∧ KPc D w τ ad σ w1 := by
      obtain ⟨hE9, hn9, hw⟩ := H9
      have H9 := And.intro hE9 hn9
      obtain ⟨hE, hn⟩ := H9
      have e : oBreaches σ i = (1, 0, σ) := op3_e1 (by omega)
      exact ⟨⟨hE, by rw [e]⟩, by rw [e], KPc.same hW hw⟩
    obtain ⟨hc, hσ, hK⟩ := key
    obtain ⟨rfl, hR⟩ := hc
    refine ⟨12, ⟨[], [], (0, 9, 12, 25), rfl, ((fun z hz => nomatch hz)), by decide, by decide, rfl, xl_25, xc_25⟩, fun q => ?_⟩
    refine i_astore_n C dL_breaches_12 (kk := ?_)
    refine i_iconst C dL_breaches_13 (kk := ?_)
    exact i_iret C (d := dL_breaches_14) (h := ⟨by rw [hR], hK.thrown ht hO (by rw [hR]; decide) hσ⟩)
  · have key : (oBreaches σ i).1 = 0 ∧ v9 = some (.int (Z32 (oBreaches σ i).2.1)) ∧ KPc D w τ ad (oBreaches σ i).2.2 w9 := by
      obtain ⟨⟨p, hp, rfl, hu⟩, hw⟩ := G9
      have e : oBreaches σ (p : Int) = _ := op3_t ⟨by omega, by omega⟩ trivial trivial
      rw [Int.toNat_natCast] at e
      rw [e]
      exact ⟨rfl, hu, KPc.same hW hw⟩
    obtain ⟨hR, rfl, hK⟩ := key
    have hO9 := hK.out ht hO
    refine i_i2l C dL_breaches_7 (kk := ?_)
    refine i_lastore C dL_breaches_8 (hw := hO9) (kk := ?_)
    refine i_goto C dL_breaches_9 (tgt := 15) (kk := ?_)
    refine i_iconst C dL_breaches_15 (kk := ?_)
    exact i_iret C (d := dL_breaches_16) (h := ⟨by rw [hR], hK.store ht hO rfl⟩)
