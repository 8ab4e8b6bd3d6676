set_option maxRecDepth 100000 in
set_option maxHeartbeats 4000000 in
theorem c_X6_requireBelow (l : Launch) (hl : l.stackTraces = false) (D : gD) {w : wW} {i j : Int} (hi : inR i := by omega) (hj : inR j := by omega) : CTx l D yX6_requireBelow cX6_requireBelow 2 none (rmL 6 1 6) [.int (Z32 i), .int (Z32 j)] w (fun u w1 => u = none ∧ (0 ≤ i ∧ i < j) ∧ w1 = w) (fun E w1 => E = "java/lang/IllegalArgumentException" ∧ ¬ (0 ≤ i ∧ i < j) ∧ w1 = w) := by
  refine CTx_of hl rfl (by rfl) (Nat.le_of_ble_eq_true rfl) ?_
  intro G C
  show G 0 0 w [some (.int (Z32 i)), some (.int (Z32 j))] 0 []
  refine i_iload_n C dX6_requireBelow_0 (kk := ?_)
  refine i_if_lt C dX6_requireBelow_1 (tgt := 9) (kt := fun hB1 => ?_) (kf := fun hB1 => ?_)
  · exact i_throw C th_189_191_193 dX6_requireBelow_9 dX6_requireBelow_12 dX6_requireBelow_13 dX6_requireBelow_15 dX6_requireBelow_18 (hX := ⟨rfl, by omega, rfl⟩)
  · refine i_iload_n C dX6_requireBelow_4 (kk := ?_)
    refine i_iload_n C dX6_requireBelow_5 (kk := ?_)
    refine i_icmp_lt C dX6_requireBelow_6 (tgt := 19) (kt := fun hB6 => ?_) (kf := fun hB6 => ?_)
    · exact i_vret C (d := dX6_requireBelow_19) (h := ⟨rfl, ⟨by omega, by omega⟩, rfl⟩)
    · exact i_throw C th_189_191_193 dX6_requireBelow_9 dX6_requireBelow_12 dX6_requireBelow_13 dX6_requireBelow_15 dX6_requireBelow_18 (hX := ⟨rfl, by omega, rfl⟩)

set_option maxRecDepth 100000 in
set_option maxHeartbeats 4000000 in
theorem c_X6_requireArgument (l : Launch) (hl : l.stackTraces = false) (D : gD) {w : wW} {i : Int} (hi : inR i := by omega) : CTx l D yX6_requireArgument cX6_requireArgument 1 none (rmL 7 1 6) [.int (Z32 i)] w (fun u w1 => u = none ∧ (-1 ≤ i ∧ i < 26) ∧ w1 = w) (fun E w1 => E = "java/lang/IllegalArgumentException" ∧ ¬ (-1 ≤ i ∧ i < 26) ∧ w1 = w) := by
  refine CTx_of hl rfl (by rfl) (Nat.le_of_ble_eq_true rfl) ?_
  intro G C
  show G 0 0 w [some (.int (Z32 i))] 0 []
  refine i_iload_n C dX6_requireArgument_0 (kk := ?_)
  refine i_iconst C dX6_requireArgument_1 (kk := ?_)
  refine i_icmp_eq C dX6_requireArgument_2 (tgt := 11) (kt := fun hB2 => ?_) (kf := fun hB2 => ?_)
  · exact i_vret C (d := dX6_requireArgument_11) (h := ⟨rfl, ⟨by omega, by omega⟩, rfl⟩)
  · refine i_iload_n C dX6_requireArgument_5 (kk := ?_)
    refine i_bipush C dX6_requireArgument_6 (kk := ?_)
    refine i_callSX C lk_X6_37 (c_X6_requireBelow l hl D) (hst := rfl) dX6_requireArgument_8 (hxx := fun E w1 h => ⟨h.1, fun q => h.2.1 ⟨by omega, q.2⟩, h.2.2⟩) (kk := fun v8 w8 g8 => ?_)
    obtain ⟨rfl, q8, q9⟩ := g8
    have q9 := q9.symm
    subst q9
    exact i_vret C (d := dX6_requireArgument_11) (h := ⟨rfl, ⟨by omega, by omega⟩, rfl⟩)

set_option maxRecDepth 100000 in
set_option maxHeartbeats 4000000 in
theorem c_X6_requirePage (l : Launch) (hl : l.stackTraces = false) (D : gD) {w : wW} {i : Int} (hi : inR i := by omega) : CTx l D yX6_requirePage cX6_requirePage 1 none (rmL 6 1 6) [.int (Z32 i)] w (fun u w1 => u = none ∧ (0 ≤ i ∧ i < 12) ∧ w1 = w) (fun E w1 => E = "java/lang/IndexOutOfBoundsException" ∧ ¬ (0 ≤ i ∧ i < 12) ∧ w1 = w) := by
  refine CTx_of hl rfl (by rfl) (Nat.le_of_ble_eq_true rfl) ?_
  intro G C
  show G 0 0 w [some (.int (Z32 i))] 0 []
  refine i_iload_n C dX6_requirePage_0 (kk := ?_)
  refine i_if_lt C dX6_requirePage_1 (tgt := 10) (kt := fun hB1 => ?_) (kf := fun hB1 => ?_)
  · exact i_throw C th_194_196_198 dX6_requirePage_10 dX6_requirePage_13 dX6_requirePage_14 dX6_requirePage_16 dX6_requirePage_19 (hX := ⟨rfl, by omega, rfl⟩)
  · refine i_iload_n C dX6_requirePage_4 (kk := ?_)
    refine i_bipush C dX6_requirePage_5 (kk := ?_)
    refine i_icmp_lt C dX6_requirePage_7 (tgt := 20) (kt := fun hB7 => ?_) (kf := fun hB7 => ?_)
    · exact i_vret C (d := dX6_requirePage_20) (h := ⟨rfl, ⟨by omega, by omega⟩, rfl⟩)
    · exact i_throw C th_194_196_198 dX6_requirePage_10 dX6_requirePage_13 dX6_requirePage_14 dX6_requirePage_16 dX6_requirePage_19 (hX := ⟨rfl, by omega, rfl⟩)

set_option maxRecDepth 100000 in
set_option maxHeartbeats 4000000 in
theorem cx_X6_pageAt (l : Launch) (hl : l.stackTraces = false) (D : gD) {w : wW} {τ ad : Nat → Nat} {nb tb : Nat} {σ : Sg} {i : Int} (hW : WkI D w τ ad nb tb σ := by assumption) (hi : inR i := by omega) : CTx l D yX6_pageAt cX6_pageAt 3 (some (.object "MacroWiki$Page")) (rmL 6 1 6) [.ref (ad 0), .int (Z32 i)] w (fun u w1 => (∃ p : Nat, p < 12 ∧ i = (p : Int) ∧ u = some (.ref (ad (100 + p)))) ∧ w1 = w) (fun E w1 => E = "java/lang/IndexOutOfBoundsException" ∧ ¬ (0 ≤ i ∧ i < 12) ∧ w1 = w) := by
  refine CTx_of hl rfl (by rfl) (Nat.le_of_ble_eq_true rfl) ?_
  intro G C
  show G 0 0 w [some (.ref (ad 0)), some (.int (Z32 i)), none] 0 []
  obtain ⟨a0, a1, a2, ⟨pf, b1, b2⟩, ⟨uf, c1, c2⟩, d1⟩ := hW.2.2.1
  refine i_iload_n C dX6_pageAt_0 (kk := ?_)
  refine i_if_lt C dX6_pageAt_1 (tgt := 22) (kt := fun hB1 => ?_) (kf := fun hB1 => ?_)
  · refine i_null C dX6_pageAt_22 (kk := ?_)
    refine i_astore_nN C dX6_pageAt_23 (kk := ?_)
    refine i_aload_nN C dX6_pageAt_24 (kk := ?_)
    refine i_ifnonnullN C dX6_pageAt_25 (kk := ?_)
    exact i_throw C th_194_196_198 dX6_pageAt_28 dX6_pageAt_31 dX6_pageAt_32 dX6_pageAt_34 dX6_pageAt_37 (hX := ⟨rfl, by omega, rfl⟩)
  · refine i_iload_n C dX6_pageAt_4 (kk := ?_)
    refine i_aload_n C dX6_pageAt_5 (kk := ?_)
    refine i_getf C f_X6_32 dX6_pageAt_6 (hw := hW.obj) (kk := ?_)
    refine i_alenP C dX6_pageAt_9 (hw := b1) (kk := ?_)
    refine i_icmp_ge C dX6_pageAt_10 (tgt := 22) (kt := fun hB10 => ?_) (kf := fun hB10 => ?_)
    · refine i_null C dX6_pageAt_22 (kk := ?_)
      refine i_astore_nN C dX6_pageAt_23 (kk := ?_)
      refine i_aload_nN C dX6_pageAt_24 (kk := ?_)
      refine i_ifnonnullN C dX6_pageAt_25 (kk := ?_)
      exact i_throw C th_194_196_198 dX6_pageAt_28 dX6_pageAt_31 dX6_pageAt_32 dX6_pageAt_34 dX6_pageAt_37 (hX := ⟨rfl, by omega, rfl⟩)
    · refine i_aload_n C dX6_pageAt_13 (kk := ?_)
      refine i_getf C f_X6_32 dX6_pageAt_14 (hw := hW.obj) (kk := ?_)
      refine i_iload_n C dX6_pageAt_17 (kk := ?_)
      refine i_aaload C dX6_pageAt_18 (hw := b1) (v := .ref (ad (100 + i.toNat))) (hv := by rw [b2 _ (by omega)]; rfl) (kk := ?_)
      refine i_goto C dX6_pageAt_19 (tgt := 23) (kk := ?_)
      refine i_astore_n C dX6_pageAt_23 (kk := ?_)
      refine i_aload_n C dX6_pageAt_24 (kk := ?_)
      refine i_ifnonnull C dX6_pageAt_25 (tgt := 38) (kk := ?_)
      refine i_aload_n C dX6_pageAt_38 (kk := ?_)
      exact i_aret C (d := dX6_pageAt_39) (h := ⟨⟨i.toNat, by omega, by omega, rfl⟩, rfl⟩)

set_option maxRecDepth 100000 in
set_option maxHeartbeats 4000000 in
theorem c_X6_pageAt (l : Launch) (hl : l.stackTraces = false) (D : gD) {w : wW} {τ ad : Nat → Nat} {nb tb : Nat} {σ : Sg} {p : Nat} (hW : WkI D w τ ad nb tb σ := by assumption) (hp : p < 12 := by omega) : CTm l D yX6_pageAt cX6_pageAt 3 (some (.object "MacroWiki$Page")) (rmL 1 0 0) [.ref (ad 0), .int (Z32 (p : Int))] w (fun u w1 => u = some (.ref (ad (100 + p))) ∧ w1 = w) := by
  refine CTm_of hl false rfl (by rfl) (Nat.le_of_ble_eq_true rfl) (fun h => nomatch h) ?_
  intro G C
  show G 0 0 w [some (.ref (ad 0)), some (.int (Z32 (p : Int))), none] 0 []
  obtain ⟨a0, a1, a2, ⟨pf, b1, b2⟩, ⟨uf, c1, c2⟩, d1⟩ := hW.2.2.1
  refine i_iload_n C dX6_pageAt_0 (kk := ?_)
  refine i_if_lt C dX6_pageAt_1 (tgt := 22) (kt := fun hB1 => ?_) (kf := fun hB1 => ?_)
  · exfalso; omega
  · refine i_iload_n C dX6_pageAt_4 (kk := ?_)
    refine i_aload_n C dX6_pageAt_5 (kk := ?_)
    refine i_getf C f_X6_32 dX6_pageAt_6 (hw := hW.obj) (kk := ?_)
    refine i_alenP C dX6_pageAt_9 (hw := b1) (kk := ?_)
    refine i_icmp_ge C dX6_pageAt_10 (tgt := 22) (kt := fun hB10 => ?_) (kf := fun hB10 => ?_)
    · exfalso; omega
    · refine i_aload_n C dX6_pageAt_13 (kk := ?_)
      refine i_getf C f_X6_32 dX6_pageAt_14 (hw := hW.obj) (kk := ?_)
      refine i_iload_n C dX6_pageAt_17 (kk := ?_)
      refine i_aaload C dX6_pageAt_18 (hw := b1) (v := .ref (ad (100 + p))) (hv := by rw [Int.toNat_natCast, b2 _ (by omega)]; rfl) (kk := ?_)
      refine i_goto C dX6_pageAt_19 (tgt := 23) (kk := ?_)
      refine i_astore_n C dX6_pageAt_23 (kk := ?_)
      refine i_aload_n C dX6_pageAt_24 (kk := ?_)
      refine i_ifnonnull C dX6_pageAt_25 (tgt := 38) (kk := ?_)
      refine i_aload_n C dX6_pageAt_38 (kk := ?_)
      exact i_aret C (d := dX6_pageAt_39) (h := ⟨rfl, rfl⟩)

set_option maxRecDepth 100000 in
set_option maxHeartbeats 4000000 in
theorem c_X6_rankOfUser (l : Launch) (hl : l.stackTraces = false) (D : gD) {w : wW} {τ ad : Nat → Nat} {nb tb : Nat} {σ : Sg} {i : Int} (hW : WkI D w τ ad nb tb σ := by assumption) (hi : inR i := by omega) : CTx l D yX6_rankOfUser cX6_rankOfUser 2 (some .int) (rmL 6 1 6) [.ref (ad 0), .int (Z32 i)] w (fun u w1 => (∃ k : Nat, k < 6 ∧ i = (k : Int) ∧ u = some (.int (Z32 (sUr σ k)))) ∧ w1 = w) (fun E w1 => E = "java/lang/IndexOutOfBoundsException" ∧ ¬ (0 ≤ i ∧ i < 6) ∧ w1 = w) := by
  refine CTx_of hl rfl (by rfl) (Nat.le_of_ble_eq_true rfl) ?_
  intro G C
  show G 0 0 w [some (.ref (ad 0)), some (.int (Z32 i))] 0 []
  obtain ⟨a0, a1, a2, ⟨pf, b1, b2⟩, ⟨uf, c1, c2⟩, d1⟩ := hW.2.2.1
  refine i_iload_n C dX6_rankOfUser_0 (kk := ?_)
  refine i_if_lt C dX6_rankOfUser_1 (tgt := 10) (kt := fun hB1 => ?_) (kf := fun hB1 => ?_)
  · exact i_throw C th_194_199_198 dX6_rankOfUser_10 dX6_rankOfUser_13 dX6_rankOfUser_14 dX6_rankOfUser_16 dX6_rankOfUser_19 (hX := ⟨rfl, by omega, rfl⟩)
  · refine i_iload_n C dX6_rankOfUser_4 (kk := ?_)
    refine i_bipush C dX6_rankOfUser_5 (kk := ?_)
    refine i_icmp_lt C dX6_rankOfUser_7 (tgt := 20) (kt := fun hB7 => ?_) (kf := fun hB7 => ?_)
    · refine i_aload_n C dX6_rankOfUser_20 (kk := ?_)
      refine i_getf C f_X6_16 dX6_rankOfUser_21 (hw := hW.obj) (kk := ?_)
      refine i_iload_n C dX6_rankOfUser_24 (kk := ?_)
      refine i_callS C lk_X6_201 (c_X6_at l hl D (hw := c1)) (hst := rfl) dX6_rankOfUser_25 (kk := fun v25 w25 g25 => ?_)
      obtain ⟨rfl, q25⟩ := g25
      have q25 := q25.symm
      subst q25
      exact i_iret C (d := dX6_rankOfUser_28) (h := ⟨⟨i.toNat, by omega, by omega, by rw [atz_in (by omega) (by omega), c2 _ (by omega)]⟩, rfl⟩)
    · exact i_throw C th_194_199_198 dX6_rankOfUser_10 dX6_rankOfUser_13 dX6_rankOfUser_14 dX6_rankOfUser_16 dX6_rankOfUser_19 (hX := ⟨rfl, by omega, rfl⟩)

set_option maxRecDepth 100000 in
set_option maxHeartbeats 4000000 in
theorem c_X6_forceOn (l : Launch) (hl : l.stackTraces = false) (D : gD) {w : wW} {τ ad : Nat → Nat} {nb tb : Nat} {σ : Sg} {p : Nat} {fc fo fr fd fx : Nat → Nat} (hW : WkI D w τ ad nb tb σ := by assumption) (kN : NtD D w τ ad nb fc fo fr fd fx) (hp : p < 12 := by omega) : CTm l D yX6_forceOn cX6_forceOn 4 (some .int) (rmL 3 0 0) [.ref (ad 0), .int (Z32 (p : Int))] w (fun u w1 => u = some (.int (Z32 (frcN (sLk σ) fr p 12))) ∧ w1 = w) := by
  refine CTm_of hl false rfl (by rfl) (Nat.le_of_ble_eq_true rfl) (fun h => nomatch h) ?_
  intro G C
  show G 0 0 w [some (.ref (ad 0)), some (.int (Z32 (p : Int))), none, none] 0 []
  refine i_aload_n C dX6_forceOn_0 (kk := ?_)
  refine i_iload_n C dX6_forceOn_1 (kk := ?_)
  refine i_callV C lk_X6_67 (c_X6_pageAt l hl D (hW := hW)) (hcl := rfl) (hst := rfl) dX6_forceOn_2 (hw := hW.obj) (kk := fun v2 w2 g2 => ?_)
  obtain ⟨rfl, q2⟩ := g2
  have q2 := q2.symm
  subst q2
  refine i_getf C f_X6_116 dX6_forceOn_5 (hw := hW.page hp) (kk := ?_)
  refine i_istore_n C dX6_forceOn_8 (kk := ?_)
  refine i_iconst C dX6_forceOn_9 (kk := ?_)
  refine i_istore_n C dX6_forceOn_10 (kk := ?_)
  have lp : ∀ (m j : Nat), 12 + 1 ≤ m + j → j ≤ 12 → G 0 0 w [some (.ref (ad 0)), some (.int (Z32 (p : Int))), some (.int (Z32 (frcN (sLk σ) fr p j))), some (.int (Z32 (j : Int)))] 11 [] := by
    intro m
    induction m with
    | zero => intro j h1 h2; omega
    | succ m ih =>
    intro j h1 h2
    have hf := frcN_R (fr := fr) (p := p) (fun i hi => (hW.1.2.1 i hi).2.1) hp j h2
    refine i_iload_n C dX6_forceOn_11 (kk := ?_)
    refine i_bipush C dX6_forceOn_12 (kk := ?_)
    refine i_icmp_ge C dX6_forceOn_14 (tgt := 51) (kt := fun hB14 => ?_) (kf := fun hB14 => ?_)
    · refine i_iload_n C dX6_forceOn_51 (kk := ?_)
      exact i_iret C (d := dX6_forceOn_52) (h := ⟨by rw [show j = 12 by omega], rfl⟩)
    · refine i_aload_n C dX6_forceOn_17 (kk := ?_)
      refine i_getf C f_X6_23 dX6_forceOn_18 (hw := hW.obj) (kk := ?_)
      refine i_iload_n C dX6_forceOn_21 (kk := ?_)
      refine i_callV C lk_X6_123 (c_X0_reachedFrom l hl D (hN := kN)) (hcl := rfl) (hst := rfl) dX6_forceOn_22 (hw := kN.2.2.2.2.2.2.1) (kk := fun v22 w22 g22 => ?_)
      obtain ⟨rfl, q22⟩ := g22
      have q22 := q22.symm
      subst q22
      refine i_iload_n C dX6_forceOn_25 (kk := ?_)
      have e1 := kN.2.2.2.2.2.2.2.2.2.2.2.2.2.2.1 j
      refine i_callS C lk_X6_226 (c_X6_contains l hl D (s := fr j) (p := p) (by omega) (by omega)) (hst := rfl) dX6_forceOn_26 (kk := fun v26 w26 g26 => ?_)
      obtain ⟨rfl, q26⟩ := g26
      have q26 := q26.symm
      subst q26
      refine i_if_eq C dX6_forceOn_29 (tgt := 45) (ha := by split <;> decide) (kt := fun hB29 => ?_) (kf := fun hB29 => ?_)
      · have e8 : ¬ (fr j).testBit p = true := by intro q; rw [if_pos q] at hB29; cases hB29
        have e9 : frcN (sLk σ) fr p (j + 1) = frcN (sLk σ) fr p j := if_neg e8
        refine i_iinc C dX6_forceOn_45 (kk := ?_)
        refine i_goto C dX6_forceOn_48 (tgt := 11) (kk := ?_)
        first | exact ih (j + 1) (by omega) (by omega) | (rw [← e9]; exact ih (j + 1) (by omega) (by omega))
      · have e8 : (fr j).testBit p = true := by apply Decidable.byContradiction; intro q; rw [if_neg q] at hB29; exact hB29 rfl
        have e9 : frcN (sLk σ) fr p (j + 1) = max (frcN (sLk σ) fr p j) (sLk σ j) := if_pos e8
        refine i_iload_n C dX6_forceOn_32 (kk := ?_)
        refine i_aload_n C dX6_forceOn_33 (kk := ?_)
        refine i_iload_n C dX6_forceOn_34 (kk := ?_)
        refine i_callV C lk_X6_67 (c_X6_pageAt l hl D (hW := hW) (p := j)) (hcl := rfl) (hst := rfl) dX6_forceOn_35 (hw := hW.obj) (kk := fun v35 w35 g35 => ?_)
        obtain ⟨rfl, q35⟩ := g35
        have q35 := q35.symm
        subst q35
        refine i_getf C f_X6_116 dX6_forceOn_38 (hw := hW.page (by omega)) (kk := ?_)
        have e2 := (hW.1.2.1 j (by omega)).2.1
        refine i_max C lk_X6_251 dX6_forceOn_41 (kk := ?_)
        rw [← e9]
        refine i_istore_n C dX6_forceOn_44 (kk := ?_)
        refine i_iinc C dX6_forceOn_45 (kk := ?_)
        refine i_goto C dX6_forceOn_48 (tgt := 11) (kk := ?_)
        first | exact ih (j + 1) (by omega) (by omega) | (rw [← e9]; exact ih (j + 1) (by omega) (by omega))
  exact lp 13 0 (by omega) (by omega)
