set_option maxRecDepth 100000 in
set_option maxHeartbeats 4000000 in
theorem c_X3_sortOf (l : Launch) (hl : l.stackTraces = false) (D : gD) {w : wW} {τ : Nat → Nat} {r t a b c : Nat} {ps : List Pc3} {i : Nat} (hT : TxT D w τ r t a b c ps := by assumption) (hi : i < ps.length := by omega) : CTm l D yX3_sortOf cX3_sortOf 2 (some .int) (rmL 2 0 0) [.ref t, .int (Z32 (i : Int))] w (fun v w1 => v = some (.int (Z32 (pcs ps i).1)) ∧ w1 = w) := by
  refine CTm_of hl false rfl (by rfl) (Nat.le_of_ble_eq_true rfl) (fun h => nomatch h) ?_
  intro G C
  show G 0 0 w [some (.ref t), some (.int (Z32 (i : Int)))] 0 []
  obtain ⟨h1, h2, h3, h4, h5, h6, h7, h8, fs, fp, fg, g1, g2, g3, g4⟩ := hT
  have w1 := h7.all
  have w2 := owc_le ps
  have e := g4 i hi
  refine i_aload_n C dX3_sortOf_0 (kk := ?_)
  refine i_getf C f_X3_9 dX3_sortOf_1 (kk := ?_)
  refine i_iload_n C dX3_sortOf_4 (kk := ?_)
  refine i_callSN C lk_X3_46 (c_X6_at l hl D) (hst := rfl) dX3_sortOf_5 (kk := fun v5 w5 g5 => ?_)
  obtain ⟨rfl, rfl⟩ := g5
  exact i_iret C (d := dX3_sortOf_8) (h := ⟨by rw [← e, atz_nat (by omega)], rfl⟩)

set_option maxRecDepth 100000 in
set_option maxHeartbeats 4000000 in
theorem c_X3_pageOf (l : Launch) (hl : l.stackTraces = false) (D : gD) {w : wW} {τ : Nat → Nat} {r t a b c : Nat} {ps : List Pc3} {i : Nat} (hT : TxT D w τ r t a b c ps := by assumption) (hi : i < ps.length := by omega) : CTm l D yX3_pageOf cX3_pageOf 2 (some .int) (rmL 2 0 0) [.ref t, .int (Z32 (i : Int))] w (fun v w1 => v = some (.int (Z32 (pcs ps i).2.1)) ∧ w1 = w) := by
  refine CTm_of hl false rfl (by rfl) (Nat.le_of_ble_eq_true rfl) (fun h => nomatch h) ?_
  intro G C
  show G 0 0 w [some (.ref t), some (.int (Z32 (i : Int)))] 0 []
  obtain ⟨h1, h2, h3, h4, h5, h6, h7, h8, fs, fp, fg, g1, g2, g3, g4⟩ := hT
  have w1 := h7.all
  have w2 := owc_le ps
  have e := g4 i hi
  refine i_aload_n C dX3_pageOf_0 (kk := ?_)
  refine i_getf C f_X3_15 dX3_pageOf_1 (kk := ?_)
  refine i_iload_n C dX3_pageOf_4 (kk := ?_)
  refine i_callSN C lk_X3_46 (c_X6_at l hl D) (hst := rfl) dX3_pageOf_5 (kk := fun v5 w5 g5 => ?_)
  obtain ⟨rfl, rfl⟩ := g5
  exact i_iret C (d := dX3_pageOf_8) (h := ⟨by rw [← e, atz_nat (by omega)], rfl⟩)

set_option maxRecDepth 100000 in
set_option maxHeartbeats 4000000 in
theorem c_X3_signOf (l : Launch) (hl : l.stackTraces = false) (D : gD) {w : wW} {τ : Nat → Nat} {r t a b c : Nat} {ps : List Pc3} {i : Nat} (hT : TxT D w τ r t a b c ps := by assumption) (hi : i < ps.length := by omega) : CTm l D yX3_signOf cX3_signOf 2 (some .int) (rmL 2 0 0) [.ref t, .int (Z32 (i : Int))] w (fun v w1 => v = some (.int (Z32 (pcs ps i).2.2)) ∧ w1 = w) := by
  refine CTm_of hl false rfl (by rfl) (Nat.le_of_ble_eq_true rfl) (fun h => nomatch h) ?_
  intro G C
  show G 0 0 w [some (.ref t), some (.int (Z32 (i : Int)))] 0 []
  obtain ⟨h1, h2, h3, h4, h5, h6, h7, h8, fs, fp, fg, g1, g2, g3, g4⟩ := hT
  have w1 := h7.all
  have w2 := owc_le ps
  have e := g4 i hi
  refine i_aload_n C dX3_signOf_0 (kk := ?_)
  refine i_getf C f_X3_18 dX3_signOf_1 (kk := ?_)
  refine i_iload_n C dX3_signOf_4 (kk := ?_)
  refine i_callSN C lk_X3_46 (c_X6_at l hl D) (hst := rfl) dX3_signOf_5 (kk := fun v5 w5 g5 => ?_)
  obtain ⟨rfl, rfl⟩ := g5
  exact i_iret C (d := dX3_signOf_8) (h := ⟨by rw [← e, atz_nat (by omega)], rfl⟩)

set_option maxRecDepth 100000 in
set_option maxHeartbeats 4000000 in
theorem c_X3_hasOpenWhen (l : Launch) (hl : l.stackTraces = false) (D : gD) {w : wW} {τ : Nat → Nat} {r t a b c : Nat} {ps : List Pc3} (hT : TxT D w τ r t a b c ps := by assumption) : CTm l D yX3_hasOpenWhen cX3_hasOpenWhen 1 (some .boolean) (rmL 1 0 0) [.ref t] w (fun v w1 => v = some (.int (Z32 (if 0 < owc ps then 1 else 0))) ∧ w1 = w) := by
  refine CTm_of hl false rfl (by rfl) (Nat.le_of_ble_eq_true rfl) (fun h => nomatch h) ?_
  intro G C
  show G 0 0 w [some (.ref t)] 0 []
  obtain ⟨h1, h2, h3, h4, h5, h6, h7, h8, fs, fp, fg, g1, g2, g3, g4⟩ := hT
  have w1 := h7.all
  have w2 := owc_le ps
  refine i_aload_n C dX3_hasOpenWhen_0 (kk := ?_)
  refine i_getf C f_X3_25 dX3_hasOpenWhen_1 (kk := ?_)
  refine i_if_le C dX3_hasOpenWhen_4 (tgt := 11) (kt := fun hB4 => ?_) (kf := fun hB4 => ?_)
  · refine i_iconst C dX3_hasOpenWhen_11 (kk := ?_)
    exact i_zret C (d := dX3_hasOpenWhen_12) (ha := by first | exact Or.inl rfl | exact Or.inr rfl) (h := ⟨by first | rw [if_pos (by omega)] | rw [if_neg (by omega)], rfl⟩)
  · refine i_iconst C dX3_hasOpenWhen_7 (kk := ?_)
    refine i_goto C dX3_hasOpenWhen_8 (tgt := 12) (kk := ?_)
    exact i_zret C (d := dX3_hasOpenWhen_12) (ha := by first | exact Or.inl rfl | exact Or.inr rfl) (h := ⟨by first | rw [if_pos (by omega)] | rw [if_neg (by omega)], rfl⟩)

set_option maxRecDepth 100000 in
set_option maxHeartbeats 4000000 in
theorem c_X3_isRedirectAlone (l : Launch) (hl : l.stackTraces = false) (D : gD) {w : wW} {τ : Nat → Nat} {r t a b c : Nat} {ps : List Pc3} (hT : TxT D w τ r t a b c ps := by assumption) : CTm l D yX3_isRedirectAlone cX3_isRedirectAlone 1 (some .boolean) (rmL 3 0 0) [.ref t] w (fun v w1 => v = some (.int (Z32 (if ps.length = 1 ∧ (pcs ps 0).1 = 8 then 1 else 0))) ∧ w1 = w) := by
  refine CTm_of hl false rfl (by rfl) (Nat.le_of_ble_eq_true rfl) (fun h => nomatch h) ?_
  intro G C
  show G 0 0 w [some (.ref t)] 0 []
  have hT9 := hT
  obtain ⟨h1, h2, h3, h4, h5, h6, h7, h8, fs, fp, fg, g1, g2, g3, g4⟩ := hT
  have w1 := h7.all
  have w2 := owc_le ps
  refine i_aload_n C dX3_isRedirectAlone_0 (kk := ?_)
  refine i_getf C f_X3_21 dX3_isRedirectAlone_1 (kk := ?_)
  refine i_iconst C dX3_isRedirectAlone_4 (kk := ?_)
  refine i_icmp_ne C dX3_isRedirectAlone_5 (tgt := 22) (kt := fun hB5 => ?_) (kf := fun hB5 => ?_)
  · refine i_iconst C dX3_isRedirectAlone_22 (kk := ?_)
    exact i_zret C (d := dX3_isRedirectAlone_23) (ha := by first | exact Or.inl rfl | exact Or.inr rfl) (h := ⟨by first | (rw [if_pos ⟨by omega, by omega⟩]; done) | (rw [if_neg (by omega)]; done), rfl⟩)
  · refine i_aload_n C dX3_isRedirectAlone_8 (kk := ?_)
    refine i_iconst C dX3_isRedirectAlone_9 (kk := ?_)
    refine i_callV C lk_X3_32 (c_X3_sortOf l hl D (i := 0)) (hcl := rfl) (hst := rfl) dX3_isRedirectAlone_10 (kk := fun v10 w10 g10 => ?_)
    obtain ⟨rfl, rfl⟩ := g10
    have e := (h8 _ (pcs_mem (i := 0) (by omega))).R
    refine i_bipush C dX3_isRedirectAlone_13 (kk := ?_)
    refine i_icmp_ne C dX3_isRedirectAlone_15 (tgt := 22) (kt := fun hB15 => ?_) (kf := fun hB15 => ?_)
    · refine i_iconst C dX3_isRedirectAlone_22 (kk := ?_)
      exact i_zret C (d := dX3_isRedirectAlone_23) (ha := by first | exact Or.inl rfl | exact Or.inr rfl) (h := ⟨by first | (rw [if_pos ⟨by omega, by omega⟩]; done) | (rw [if_neg (by omega)]; done), rfl⟩)
    · refine i_iconst C dX3_isRedirectAlone_18 (kk := ?_)
      refine i_goto C dX3_isRedirectAlone_19 (tgt := 23) (kk := ?_)
      exact i_zret C (d := dX3_isRedirectAlone_23) (ha := by first | exact Or.inl rfl | exact Or.inr rfl) (h := ⟨by first | (rw [if_pos ⟨by omega, by omega⟩]; done) | (rw [if_neg (by omega)]; done), rfl⟩)

set_option maxRecDepth 100000 in
set_option maxHeartbeats 4000000 in
theorem c_X3_clear (l : Launch) (hl : l.stackTraces = false) (D : gD) {w : wW} {τ : Nat → Nat} {r t a b c : Nat} {ps : List Pc3} (hT : TxT D w τ r t a b c ps := by assumption) : CTm l D yX3_clear cX3_clear 1 none (rmL 1 0 0) [.ref t] w (fun v w1 => v = none ∧ TxT D w1 τ r t a b c [] ∧ offR τ w w1 r (r + 4)) := by
  refine CTm_of hl false rfl (by rfl) (Nat.le_of_ble_eq_true rfl) (fun h => nomatch h) ?_
  intro G C
  show G 0 0 w [some (.ref t)] 0 []
  obtain ⟨h1, h2, h3, h4, h5, h6, h7, h8, fs, fp, fg, g1, g2, g3, g4⟩ := hT
  have w1 := h7.all
  have w2 := owc_le ps
  have n1 : a ≠ t := tne (τ := τ) (by omega)
  have n2 : b ≠ t := tne (τ := τ) (by omega)
  have n3 : c ≠ t := tne (τ := τ) (by omega)
  have n4 : a ≠ b := tne (τ := τ) (by omega)
  have n5 : a ≠ c := tne (τ := τ) (by omega)
  have n6 : b ≠ c := tne (τ := τ) (by omega)
  refine i_aload_n C dX3_clear_0 (kk := ?_)
  refine i_iconst C dX3_clear_1 (kk := ?_)
  refine i_putf C fk_X3_21 dX3_clear_2 (hw := by first | assumption | exact wset_eq | (refine (wset_ne ?_).trans ?_; (first | assumption | exact Ne.symm (by assumption)); (assumption))) (kk := ?_)
  refine i_aload_n C dX3_clear_5 (kk := ?_)
  refine i_iconst C dX3_clear_6 (kk := ?_)
  refine i_putf C fk_X3_25 dX3_clear_7 (hw := by first | assumption | exact wset_eq | (refine (wset_ne ?_).trans ?_; (first | assumption | exact Ne.symm (by assumption)); (assumption))) (kk := ?_)
  exact i_vret C (d := dX3_clear_10) (h := ⟨rfl, ⟨h1, h2, h3, h4, wset_eq, by decide, OWp.nil, (fun p hp => nomatch hp), fs, fp, fg, by rw [wset_ne n1, wset_ne n1]; exact g1, by rw [wset_ne n2, wset_ne n2]; exact g2, by rw [wset_ne n3, wset_ne n3]; exact g3, (fun i hi => absurd hi (Nat.not_lt_zero i))⟩, (offR.rf.put (by omega) (by omega)).put (by omega) (by omega)⟩)

set_option maxRecDepth 100000 in
set_option maxHeartbeats 4000000 in
theorem c_X3_itemOf (l : Launch) (hl : l.stackTraces = false) (D : gD) {w : wW} {τ : Nat → Nat} {r t a b c : Nat} {ps : List Pc3} {i : Nat} (hT : TxT D w τ r t a b c ps := by assumption) (hi : i < ps.length := by omega) : CTm l D yX3_itemOf cX3_itemOf 2 (some .int) (rmL 3 0 0) [.ref t, .int (Z32 (i : Int))] w (fun v w1 => v = some (.int (Z32 (if (pcs ps i).1 = 2 then 10 * (pcs ps i).2.1 + (pcs ps i).2.2 else (pcs ps i).2.2))) ∧ w1 = w) := by
  refine CTm_of hl false rfl (by rfl) (Nat.le_of_ble_eq_true rfl) (fun h => nomatch h) ?_
  intro G C
  show G 0 0 w [some (.ref t), some (.int (Z32 (i : Int)))] 0 []
  have hT9 := hT
  obtain ⟨h1, h2, h3, h4, h5, h6, h7, h8, fs, fp, fg, g1, g2, g3, g4⟩ := hT
  have w1 := h7.all
  have w2 := owc_le ps
  have e := (h8 _ (pcs_mem hi)).R
  refine i_aload_n C dX3_itemOf_0 (kk := ?_)
  refine i_iload_n C dX3_itemOf_1 (kk := ?_)
  refine i_callV C lk_X3_32 (c_X3_sortOf l hl D) (hcl := rfl) (hst := rfl) dX3_itemOf_2 (kk := fun v2 w2 g2 => ?_)
  obtain ⟨rfl, rfl⟩ := g2
  refine i_iconst C dX3_itemOf_5 (kk := ?_)
  refine i_icmp_ne C dX3_itemOf_6 (tgt := 26) (kt := fun hB6 => ?_) (kf := fun hB6 => ?_)
  · refine i_aload_n C dX3_itemOf_26 (kk := ?_)
    refine i_iload_n C dX3_itemOf_27 (kk := ?_)
    refine i_callV C lk_X3_39 (c_X3_signOf l hl D) (hcl := rfl) (hst := rfl) dX3_itemOf_28 (kk := fun v28 w28 g28 => ?_)
    obtain ⟨rfl, rfl⟩ := g28
    exact i_iret C (d := dX3_itemOf_31) (h := ⟨by first | (rw [if_pos (by omega)]; done) | (rw [if_neg (by omega)]; done), rfl⟩)
  · refine i_bipush C dX3_itemOf_9 (kk := ?_)
    refine i_aload_n C dX3_itemOf_11 (kk := ?_)
    refine i_iload_n C dX3_itemOf_12 (kk := ?_)
    refine i_callV C lk_X3_36 (c_X3_pageOf l hl D) (hcl := rfl) (hst := rfl) dX3_itemOf_13 (kk := fun v13 w13 g13 => ?_)
    obtain ⟨rfl, rfl⟩ := g13
    refine i_imul C dX3_itemOf_16 (kk := ?_)
    refine i_aload_n C dX3_itemOf_17 (kk := ?_)
    refine i_iload_n C dX3_itemOf_18 (kk := ?_)
    refine i_callV C lk_X3_39 (c_X3_signOf l hl D) (hcl := rfl) (hst := rfl) dX3_itemOf_19 (kk := fun v19 w19 g19 => ?_)
    obtain ⟨rfl, rfl⟩ := g19
    refine i_iadd C dX3_itemOf_22 (kk := ?_)
    refine i_goto C dX3_itemOf_23 (tgt := 31) (kk := ?_)
    exact i_iret C (d := dX3_itemOf_31) (h := ⟨by first | (rw [if_pos (by omega)]; done) | (rw [if_neg (by omega)]; done), rfl⟩)

set_option maxRecDepth 100000 in
set_option maxHeartbeats 4000000 in
theorem c_X3_add (l : Launch) (hl : l.stackTraces = false) (D : gD) {w : wW} {τ : Nat → Nat} {r t a b c : Nat} {ps : List Pc3} {s g x : Int} (hT : TxT D w τ r t a b c ps := by assumption) (hlen : ps.length < 30 := by omega) (hp9 : PV (s, g, x)) (how : 0 ≤ owc ps + dow s) : CTm l D yX3_add cX3_add 4 none (rmL 3 0 0) [.ref t, .int (Z32 s), .int (Z32 g), .int (Z32 x)] w (fun v w1 => v = none ∧ TxT D w1 τ r t a b c (ps ++ [(s, g, x)]) ∧ offR τ w w1 r (r + 4)) := by
  refine CTm_of hl false rfl (by rfl) (Nat.le_of_ble_eq_true rfl) (fun h => nomatch h) ?_
  intro G C
  show G 0 0 w [some (.ref t), some (.int (Z32 s)), some (.int (Z32 g)), some (.int (Z32 x))] 0 []
  obtain ⟨h1, h2, h3, h4, h5, h6, h7, h8, fs, fp, fg, g1, g2, g3, g4⟩ := hT
  have w1 := h7.all
  have w2 := owc_le ps
  have n1 : a ≠ t := tne (τ := τ) (by omega)
  have n2 : b ≠ t := tne (τ := τ) (by omega)
  have n3 : c ≠ t := tne (τ := τ) (by omega)
  have n4 : a ≠ b := tne (τ := τ) (by omega)
  have n5 : a ≠ c := tne (τ := τ) (by omega)
  have n6 : b ≠ c := tne (τ := τ) (by omega)
  have e := hp9.R
  dsimp only at e
  have m1 := n1.symm
  have m2 := n2.symm
  have m3 := n3.symm
  have m4 := n4.symm
  have m5 := n5.symm
  have m6 := n6.symm
  refine i_aload_n C dX3_add_0 (kk := ?_)
  refine i_getf C f_X3_21 dX3_add_1 (hw := by first | assumption | exact wset_eq | (refine (wset_ne ?_).trans ?_; (first | assumption | exact Ne.symm (by assumption)); (first | assumption | exact wset_eq | (refine (wset_ne ?_).trans ?_; (first | assumption | exact Ne.symm (by assumption)); (first | assumption | exact wset_eq | (refine (wset_ne ?_).trans ?_; (first | assumption | exact Ne.symm (by assumption)); (first | assumption | exact wset_eq | (refine (wset_ne ?_).trans ?_; (first | assumption | exact Ne.symm (by assumption)); (assumption))))))))) (kk := ?_)
  refine i_bipush C dX3_add_4 (kk := ?_)
  refine i_icmp_lt C dX3_add_6 (tgt := 10) (kt := fun hB6 => ?_) (kf := fun hB6 => ?_)
  · refine i_aload_n C dX3_add_10 (kk := ?_)
    refine i_getf C f_X3_9 dX3_add_11 (hw := by first | assumption | exact wset_eq | (refine (wset_ne ?_).trans ?_; (first | assumption | exact Ne.symm (by assumption)); (first | assumption | exact wset_eq | (refine (wset_ne ?_).trans ?_; (first | assumption | exact Ne.symm (by assumption)); (first | assumption | exact wset_eq | (refine (wset_ne ?_).trans ?_; (first | assumption | exact Ne.symm (by assumption)); (first | assumption | exact wset_eq | (refine (wset_ne ?_).trans ?_; (first | assumption | exact Ne.symm (by assumption)); (assumption))))))))) (kk := ?_)
    refine i_aload_n C dX3_add_14 (kk := ?_)
    refine i_getf C f_X3_21 dX3_add_15 (hw := by first | assumption | exact wset_eq | (refine (wset_ne ?_).trans ?_; (first | assumption | exact Ne.symm (by assumption)); (first | assumption | exact wset_eq | (refine (wset_ne ?_).trans ?_; (first | assumption | exact Ne.symm (by assumption)); (first | assumption | exact wset_eq | (refine (wset_ne ?_).trans ?_; (first | assumption | exact Ne.symm (by assumption)); (first | assumption | exact wset_eq | (refine (wset_ne ?_).trans ?_; (first | assumption | exact Ne.symm (by assumption)); (assumption))))))))) (kk := ?_)
    refine i_iload_n C dX3_add_18 (kk := ?_)
    refine i_callSN C lk_X3_28 (c_X6_put l hl D (f := fs) (a := a)) (hst := rfl) dX3_add_19 (kk := fun v19 w19 g19 => ?_)
    obtain ⟨rfl, rfl⟩ := g19
    rw [putz_nat (by omega)]
    refine i_aload_n C dX3_add_22 (kk := ?_)
    refine i_getf C f_X3_15 dX3_add_23 (hw := by first | assumption | exact wset_eq | (refine (wset_ne ?_).trans ?_; (first | assumption | exact Ne.symm (by assumption)); (first | assumption | exact wset_eq | (refine (wset_ne ?_).trans ?_; (first | assumption | exact Ne.symm (by assumption)); (first | assumption | exact wset_eq | (refine (wset_ne ?_).trans ?_; (first | assumption | exact Ne.symm (by assumption)); (first | assumption | exact wset_eq | (refine (wset_ne ?_).trans ?_; (first | assumption | exact Ne.symm (by assumption)); (assumption))))))))) (kk := ?_)
    refine i_aload_n C dX3_add_26 (kk := ?_)
    refine i_getf C f_X3_21 dX3_add_27 (hw := by first | assumption | exact wset_eq | (refine (wset_ne ?_).trans ?_; (first | assumption | exact Ne.symm (by assumption)); (first | assumption | exact wset_eq | (refine (wset_ne ?_).trans ?_; (first | assumption | exact Ne.symm (by assumption)); (first | assumption | exact wset_eq | (refine (wset_ne ?_).trans ?_; (first | assumption | exact Ne.symm (by assumption)); (first | assumption | exact wset_eq | (refine (wset_ne ?_).trans ?_; (first | assumption | exact Ne.symm (by assumption)); (assumption))))))))) (kk := ?_)
    refine i_iload_n C dX3_add_30 (kk := ?_)
    refine i_callSN C lk_X3_28 (c_X6_put l hl D (f := fp) (a := b) (hw := by first | assumption | exact wset_eq | (refine (wset_ne ?_).trans ?_; (first | assumption | exact Ne.symm (by assumption)); (assumption)))) (hst := rfl) dX3_add_31 (kk := fun v31 w31 g31 => ?_)
    obtain ⟨rfl, rfl⟩ := g31
    rw [putz_nat (by omega)]
    refine i_aload_n C dX3_add_34 (kk := ?_)
    refine i_getf C f_X3_18 dX3_add_35 (hw := by first | assumption | exact wset_eq | (refine (wset_ne ?_).trans ?_; (first | assumption | exact Ne.symm (by assumption)); (first | assumption | exact wset_eq | (refine (wset_ne ?_).trans ?_; (first | assumption | exact Ne.symm (by assumption)); (first | assumption | exact wset_eq | (refine (wset_ne ?_).trans ?_; (first | assumption | exact Ne.symm (by assumption)); (first | assumption | exact wset_eq | (refine (wset_ne ?_).trans ?_; (first | assumption | exact Ne.symm (by assumption)); (assumption))))))))) (kk := ?_)
    refine i_aload_n C dX3_add_38 (kk := ?_)
    refine i_getf C f_X3_21 dX3_add_39 (hw := by first | assumption | exact wset_eq | (refine (wset_ne ?_).trans ?_; (first | assumption | exact Ne.symm (by assumption)); (first | assumption | exact wset_eq | (refine (wset_ne ?_).trans ?_; (first | assumption | exact Ne.symm (by assumption)); (first | assumption | exact wset_eq | (refine (wset_ne ?_).trans ?_; (first | assumption | exact Ne.symm (by assumption)); (first | assumption | exact wset_eq | (refine (wset_ne ?_).trans ?_; (first | assumption | exact Ne.symm (by assumption)); (assumption))))))))) (kk := ?_)
    refine i_iload_n C dX3_add_42 (kk := ?_)
    refine i_callSN C lk_X3_28 (c_X6_put l hl D (f := fg) (a := c) (hw := by first | assumption | exact wset_eq | (refine (wset_ne ?_).trans ?_; (first | assumption | exact Ne.symm (by assumption)); (first | assumption | exact wset_eq | (refine (wset_ne ?_).trans ?_; (first | assumption | exact Ne.symm (by assumption)); (assumption)))))) (hst := rfl) dX3_add_43 (kk := fun v43 w43 g43 => ?_)
    obtain ⟨rfl, rfl⟩ := g43
    rw [putz_nat (by omega)]
    refine i_aload_n C dX3_add_46 (kk := ?_)
    refine i_dup C dX3_add_47 (kk := ?_)
    refine i_getf C f_X3_21 dX3_add_48 (hw := by first | assumption | exact wset_eq | (refine (wset_ne ?_).trans ?_; (first | assumption | exact Ne.symm (by assumption)); (first | assumption | exact wset_eq | (refine (wset_ne ?_).trans ?_; (first | assumption | exact Ne.symm (by assumption)); (first | assumption | exact wset_eq | (refine (wset_ne ?_).trans ?_; (first | assumption | exact Ne.symm (by assumption)); (first | assumption | exact wset_eq | (refine (wset_ne ?_).trans ?_; (first | assumption | exact Ne.symm (by assumption)); (assumption))))))))) (kk := ?_)
    refine i_iconst C dX3_add_51 (kk := ?_)
    refine i_iadd C dX3_add_52 (kk := ?_)
    refine i_putf C fk_X3_21 dX3_add_53 (hw := by first | assumption | exact wset_eq | (refine (wset_ne ?_).trans ?_; (first | assumption | exact Ne.symm (by assumption)); (first | assumption | exact wset_eq | (refine (wset_ne ?_).trans ?_; (first | assumption | exact Ne.symm (by assumption)); (first | assumption | exact wset_eq | (refine (wset_ne ?_).trans ?_; (first | assumption | exact Ne.symm (by assumption)); (first | assumption | exact wset_eq | (refine (wset_ne ?_).trans ?_; (first | assumption | exact Ne.symm (by assumption)); (assumption))))))))) (kk := ?_)
    refine i_iload_n C dX3_add_56 (kk := ?_)
    refine i_bipush C dX3_add_57 (kk := ?_)
    refine i_icmp_ne C dX3_add_59 (tgt := 75) (kt := fun hB59 => ?_) (kf := fun hB59 => ?_)
    · refine i_iload_n C dX3_add_75 (kk := ?_)
      refine i_bipush C dX3_add_76 (kk := ?_)
      refine i_icmp_ne C dX3_add_78 (tgt := 91) (kt := fun hB78 => ?_) (kf := fun hB78 => ?_)
      · exact i_vret C (d := dX3_add_91) (h := by exact TxT_add h1 h2 h3 h4 h7 h8 g4 hp9 hlen how (by unfold dow; (first | (rw [if_pos (by omega)]; exact wset_eq) | (rw [if_neg (by omega), if_pos (by omega)]; exact wset_eq) | (rw [if_neg (by omega), if_neg (by omega), Int.add_zero]; exact wset_eq))) (by first | assumption | exact wset_eq | (refine (wset_ne ?_).trans ?_; (first | assumption | exact Ne.symm (by assumption)); (first | assumption | exact wset_eq | (refine (wset_ne ?_).trans ?_; (first | assumption | exact Ne.symm (by assumption)); (first | assumption | exact wset_eq | (refine (wset_ne ?_).trans ?_; (first | assumption | exact Ne.symm (by assumption)); (first | assumption | exact wset_eq | (refine (wset_ne ?_).trans ?_; (first | assumption | exact Ne.symm (by assumption)); (first | assumption | exact wset_eq | (refine (wset_ne ?_).trans ?_; (first | assumption | exact Ne.symm (by assumption)); (assumption))))))))))) (by first | assumption | exact wset_eq | (refine (wset_ne ?_).trans ?_; (first | assumption | exact Ne.symm (by assumption)); (first | assumption | exact wset_eq | (refine (wset_ne ?_).trans ?_; (first | assumption | exact Ne.symm (by assumption)); (first | assumption | exact wset_eq | (refine (wset_ne ?_).trans ?_; (first | assumption | exact Ne.symm (by assumption)); (first | assumption | exact wset_eq | (refine (wset_ne ?_).trans ?_; (first | assumption | exact Ne.symm (by assumption)); (first | assumption | exact wset_eq | (refine (wset_ne ?_).trans ?_; (first | assumption | exact Ne.symm (by assumption)); (assumption))))))))))) (by first | assumption | exact wset_eq | (refine (wset_ne ?_).trans ?_; (first | assumption | exact Ne.symm (by assumption)); (first | assumption | exact wset_eq | (refine (wset_ne ?_).trans ?_; (first | assumption | exact Ne.symm (by assumption)); (first | assumption | exact wset_eq | (refine (wset_ne ?_).trans ?_; (first | assumption | exact Ne.symm (by assumption)); (first | assumption | exact wset_eq | (refine (wset_ne ?_).trans ?_; (first | assumption | exact Ne.symm (by assumption)); (first | assumption | exact wset_eq | (refine (wset_ne ?_).trans ?_; (first | assumption | exact Ne.symm (by assumption)); (assumption))))))))))) (by intro q hq; repeat (rw [wset_ne (fun e => by subst e; omega)])))
      · refine i_aload_n C dX3_add_81 (kk := ?_)
        refine i_dup C dX3_add_82 (kk := ?_)
        refine i_getf C f_X3_25 dX3_add_83 (hw := by first | assumption | exact wset_eq | (refine (wset_ne ?_).trans ?_; (first | assumption | exact Ne.symm (by assumption)); (first | assumption | exact wset_eq | (refine (wset_ne ?_).trans ?_; (first | assumption | exact Ne.symm (by assumption)); (first | assumption | exact wset_eq | (refine (wset_ne ?_).trans ?_; (first | assumption | exact Ne.symm (by assumption)); (first | assumption | exact wset_eq | (refine (wset_ne ?_).trans ?_; (first | assumption | exact Ne.symm (by assumption)); (assumption))))))))) (kk := ?_)
        refine i_iconst C dX3_add_86 (kk := ?_)
        refine i_isub C dX3_add_87 (kk := ?_)
        refine i_putf C fk_X3_25 dX3_add_88 (hw := by first | assumption | exact wset_eq | (refine (wset_ne ?_).trans ?_; (first | assumption | exact Ne.symm (by assumption)); (first | assumption | exact wset_eq | (refine (wset_ne ?_).trans ?_; (first | assumption | exact Ne.symm (by assumption)); (first | assumption | exact wset_eq | (refine (wset_ne ?_).trans ?_; (first | assumption | exact Ne.symm (by assumption)); (first | assumption | exact wset_eq | (refine (wset_ne ?_).trans ?_; (first | assumption | exact Ne.symm (by assumption)); (assumption))))))))) (kk := ?_)
        exact i_vret C (d := dX3_add_91) (h := by exact TxT_add h1 h2 h3 h4 h7 h8 g4 hp9 hlen how (by unfold dow; (first | (rw [if_pos (by omega)]; exact wset_eq) | (rw [if_neg (by omega), if_pos (by omega)]; exact wset_eq) | (rw [if_neg (by omega), if_neg (by omega), Int.add_zero]; exact wset_eq))) (by first | assumption | exact wset_eq | (refine (wset_ne ?_).trans ?_; (first | assumption | exact Ne.symm (by assumption)); (first | assumption | exact wset_eq | (refine (wset_ne ?_).trans ?_; (first | assumption | exact Ne.symm (by assumption)); (first | assumption | exact wset_eq | (refine (wset_ne ?_).trans ?_; (first | assumption | exact Ne.symm (by assumption)); (first | assumption | exact wset_eq | (refine (wset_ne ?_).trans ?_; (first | assumption | exact Ne.symm (by assumption)); (first | assumption | exact wset_eq | (refine (wset_ne ?_).trans ?_; (first | assumption | exact Ne.symm (by assumption)); (assumption))))))))))) (by first | assumption | exact wset_eq | (refine (wset_ne ?_).trans ?_; (first | assumption | exact Ne.symm (by assumption)); (first | assumption | exact wset_eq | (refine (wset_ne ?_).trans ?_; (first | assumption | exact Ne.symm (by assumption)); (first | assumption | exact wset_eq | (refine (wset_ne ?_).trans ?_; (first | assumption | exact Ne.symm (by assumption)); (first | assumption | exact wset_eq | (refine (wset_ne ?_).trans ?_; (first | assumption | exact Ne.symm (by assumption)); (first | assumption | exact wset_eq | (refine (wset_ne ?_).trans ?_; (first | assumption | exact Ne.symm (by assumption)); (assumption))))))))))) (by first | assumption | exact wset_eq | (refine (wset_ne ?_).trans ?_; (first | assumption | exact Ne.symm (by assumption)); (first | assumption | exact wset_eq | (refine (wset_ne ?_).trans ?_; (first | assumption | exact Ne.symm (by assumption)); (first | assumption | exact wset_eq | (refine (wset_ne ?_).trans ?_; (first | assumption | exact Ne.symm (by assumption)); (first | assumption | exact wset_eq | (refine (wset_ne ?_).trans ?_; (first | assumption | exact Ne.symm (by assumption)); (first | assumption | exact wset_eq | (refine (wset_ne ?_).trans ?_; (first | assumption | exact Ne.symm (by assumption)); (assumption))))))))))) (by intro q hq; repeat (rw [wset_ne (fun e => by subst e; omega)])))
    · refine i_aload_n C dX3_add_62 (kk := ?_)
      refine i_dup C dX3_add_63 (kk := ?_)
      refine i_getf C f_X3_25 dX3_add_64 (hw := by first | assumption | exact wset_eq | (refine (wset_ne ?_).trans ?_; (first | assumption | exact Ne.symm (by assumption)); (first | assumption | exact wset_eq | (refine (wset_ne ?_).trans ?_; (first | assumption | exact Ne.symm (by assumption)); (first | assumption | exact wset_eq | (refine (wset_ne ?_).trans ?_; (first | assumption | exact Ne.symm (by assumption)); (first | assumption | exact wset_eq | (refine (wset_ne ?_).trans ?_; (first | assumption | exact Ne.symm (by assumption)); (assumption))))))))) (kk := ?_)
      refine i_iconst C dX3_add_67 (kk := ?_)
      refine i_iadd C dX3_add_68 (kk := ?_)
      refine i_putf C fk_X3_25 dX3_add_69 (hw := by first | assumption | exact wset_eq | (refine (wset_ne ?_).trans ?_; (first | assumption | exact Ne.symm (by assumption)); (first | assumption | exact wset_eq | (refine (wset_ne ?_).trans ?_; (first | assumption | exact Ne.symm (by assumption)); (first | assumption | exact wset_eq | (refine (wset_ne ?_).trans ?_; (first | assumption | exact Ne.symm (by assumption)); (first | assumption | exact wset_eq | (refine (wset_ne ?_).trans ?_; (first | assumption | exact Ne.symm (by assumption)); (assumption))))))))) (kk := ?_)
      refine i_goto C dX3_add_72 (tgt := 91) (kk := ?_)
      exact i_vret C (d := dX3_add_91) (h := by exact TxT_add h1 h2 h3 h4 h7 h8 g4 hp9 hlen how (by unfold dow; (first | (rw [if_pos (by omega)]; exact wset_eq) | (rw [if_neg (by omega), if_pos (by omega)]; exact wset_eq) | (rw [if_neg (by omega), if_neg (by omega), Int.add_zero]; exact wset_eq))) (by first | assumption | exact wset_eq | (refine (wset_ne ?_).trans ?_; (first | assumption | exact Ne.symm (by assumption)); (first | assumption | exact wset_eq | (refine (wset_ne ?_).trans ?_; (first | assumption | exact Ne.symm (by assumption)); (first | assumption | exact wset_eq | (refine (wset_ne ?_).trans ?_; (first | assumption | exact Ne.symm (by assumption)); (first | assumption | exact wset_eq | (refine (wset_ne ?_).trans ?_; (first | assumption | exact Ne.symm (by assumption)); (first | assumption | exact wset_eq | (refine (wset_ne ?_).trans ?_; (first | assumption | exact Ne.symm (by assumption)); (assumption))))))))))) (by first | assumption | exact wset_eq | (refine (wset_ne ?_).trans ?_; (first | assumption | exact Ne.symm (by assumption)); (first | assumption | exact wset_eq | (refine (wset_ne ?_).trans ?_; (first | assumption | exact Ne.symm (by assumption)); (first | assumption | exact wset_eq | (refine (wset_ne ?_).trans ?_; (first | assumption | exact Ne.symm (by assumption)); (first | assumption | exact wset_eq | (refine (wset_ne ?_).trans ?_; (first | assumption | exact Ne.symm (by assumption)); (first | assumption | exact wset_eq | (refine (wset_ne ?_).trans ?_; (first | assumption | exact Ne.symm (by assumption)); (assumption))))))))))) (by first | assumption | exact wset_eq | (refine (wset_ne ?_).trans ?_; (first | assumption | exact Ne.symm (by assumption)); (first | assumption | exact wset_eq | (refine (wset_ne ?_).trans ?_; (first | assumption | exact Ne.symm (by assumption)); (first | assumption | exact wset_eq | (refine (wset_ne ?_).trans ?_; (first | assumption | exact Ne.symm (by assumption)); (first | assumption | exact wset_eq | (refine (wset_ne ?_).trans ?_; (first | assumption | exact Ne.symm (by assumption)); (first | assumption | exact wset_eq | (refine (wset_ne ?_).trans ?_; (first | assumption | exact Ne.symm (by assumption)); (assumption))))))))))) (by intro q hq; repeat (rw [wset_ne (fun e => by subst e; omega)])))
  · exfalso; omega

set_option maxRecDepth 100000 in
set_option maxHeartbeats 4000000 in
theorem c_X3_addAll (l : Launch) (hl : l.stackTraces = false) (D : gD) {w : wW} {τ : Nat → Nat} {r t a b c r2 t2 a2 b2 c2 : Nat} {qs : List Pc3} (hT : TxT D w τ r t a b c [] := by assumption) (hQ : TxT D w τ r2 t2 a2 b2 c2 qs := by assumption) (hr : r2 + 4 ≤ r ∨ r + 4 ≤ r2) : CTm l D yX3_addAll cX3_addAll 3 none (rmL 4 0 0) [.ref t, .ref t2] w (fun v w1 => v = none ∧ TxT D w1 τ r t a b c qs ∧ offR τ w w1 r (r + 4)) := by
  refine CTm_of hl false rfl (by rfl) (Nat.le_of_ble_eq_true rfl) (fun h => nomatch h) ?_
  intro G C
  show G 0 0 w [some (.ref t), some (.ref t2), none] 0 []
  refine i_iconst C dX3_addAll_0 (kk := ?_)
  refine i_istore_n C dX3_addAll_1 (kk := ?_)
  have hq30 := hQ.2.2.2.2.2.1
  have lp : ∀ (n i : Nat) (w1 : wW), qs.length + 1 ≤ n + i → i ≤ qs.length → TxT D w1 τ r t a b c (qs.take i) → offR τ w w1 r (r + 4) → G 0 0 w1 [some (.ref t), some (.ref t2), some (.int (Z32 (i : Int)))] 2 [] := by
    intro n
    induction n with
    | zero => intro i w1 h1 h2; omega
    | succ n ih =>
    intro i w1 h1 h2 kT kO
    have kQ := hQ.off kO (by omega)
    have e9 : (qs.take i).length = i := by rw [List.length_take]; omega
    refine i_iload_n C dX3_addAll_2 (kk := ?_)
    refine i_aload_n C dX3_addAll_3 (kk := ?_)
    refine i_getf C f_X3_21 dX3_addAll_4 (hw := kQ.2.2.2.2.1) (kk := ?_)
    refine i_icmp_ge C dX3_addAll_7 (tgt := 35) (kt := fun hB7 => ?_) (kf := fun hB7 => ?_)
    · exact i_vret C (d := dX3_addAll_35) (h := ⟨rfl, (by have e : qs.take i = qs := List.take_of_length_le (by omega); rw [e] at kT; exact kT), kO⟩)
    · refine i_aload_n C dX3_addAll_10 (kk := ?_)
      refine i_aload_n C dX3_addAll_11 (kk := ?_)
      refine i_iload_n C dX3_addAll_12 (kk := ?_)
      refine i_callV C lk_X3_32 (c_X3_sortOf l hl D (hT := kQ) (i := i)) (hcl := rfl) (hst := rfl) dX3_addAll_13 (hw := kQ.2.2.2.2.1) (kk := fun v13 w13 g13 => ?_)
      obtain ⟨rfl, rfl⟩ := g13
      refine i_aload_n C dX3_addAll_16 (kk := ?_)
      refine i_iload_n C dX3_addAll_17 (kk := ?_)
      refine i_callV C lk_X3_36 (c_X3_pageOf l hl D (hT := kQ) (i := i)) (hcl := rfl) (hst := rfl) dX3_addAll_18 (hw := kQ.2.2.2.2.1) (kk := fun v18 w18 g18 => ?_)
      obtain ⟨rfl, rfl⟩ := g18
      refine i_aload_n C dX3_addAll_21 (kk := ?_)
      refine i_iload_n C dX3_addAll_22 (kk := ?_)
      refine i_callV C lk_X3_39 (c_X3_signOf l hl D (hT := kQ) (i := i)) (hcl := rfl) (hst := rfl) dX3_addAll_23 (hw := kQ.2.2.2.2.1) (kk := fun v23 w23 g23 => ?_)
      obtain ⟨rfl, rfl⟩ := g23
      refine i_callV C lk_X3_42 (c_X3_add l hl D (hT := kT) (s := (pcs qs i).1) (g := (pcs qs i).2.1) (x := (pcs qs i).2.2) (hlen := by omega) (hp9 := hQ.2.2.2.2.2.2.2.1 _ (pcs_mem (i := i) (by omega))) (how := by rw [← owc_take (by omega)]; exact hQ.2.2.2.2.2.2.1 _)) (hcl := rfl) (hst := rfl) dX3_addAll_26 (hw := kT.2.2.2.2.1) (kk := fun v26 w26 g26 => ?_)
      obtain ⟨rfl, kT2, kO2⟩ := g26
      refine i_iinc C dX3_addAll_29 (kk := ?_)
      refine i_goto C dX3_addAll_32 (tgt := 2) (kk := ?_)
      exact ih (i + 1) _ (by omega) (by omega) (by rw [pcs_take (by omega)]; exact kT2) (kO.trans kO2)
  exact lp (qs.length + 1) 0 w (by omega) (by omega) hT offR.rf

set_option maxRecDepth 100000 in
set_option maxHeartbeats 4000000 in
theorem c_X3_init (l : Launch) (hl : l.stackTraces = false) (D : gD) {w : wW} {t : Nat} (hw : w t = some (.inr (3, [.null, .null, .null, .int 0, .int 0])) := by assumption) : CTm l D yX3_init cX3_init 1 none (rmL 2 3 90) [.ref t] w (fun v w1 => v = none ∧ ∃ a b c, w a = none ∧ w b = none ∧ w c = none ∧ a ≠ b ∧ a ≠ c ∧ b ≠ c ∧ w1 t = some (txO a b c 0 0) ∧ w1 a = some (iar D 30 (fun _ => 0)) ∧ w1 b = some (iar D 30 (fun _ => 0)) ∧ w1 c = some (iar D 30 (fun _ => 0)) ∧ ∀ q, q ≠ t → q ≠ a → q ≠ b → q ≠ c → w1 q = w q) := by
  refine CTm_of hl true rfl (by rfl) (Nat.le_of_ble_eq_true rfl) (fun _ => rfl) ?_
  intro G C
  show G 0 0 w [some (.ref t)] 0 []
  refine i_aload_n C dX3_init_0 (kk := ?_)
  refine i_objInit C lk_X3_3 dX3_init_1 (kk := ?_)
  refine i_aload_n C dX3_init_4 (kk := ?_)
  refine i_bipush C dX3_init_5 (kk := ?_)
  refine i_newint C (harr := ta_int) (N := 30) (d := dX3_init_7) (kk := fun q7 nq7 => ?_)
  have m7 : t ≠ q7 := fun e => by rw [← e, hw] at nq7; cases nq7
  refine i_putF C ff_X3_9 dX3_init_9 (hw := by first | assumption | exact wset_eq | (refine (wset_ne ?_).trans ?_; (first | assumption | exact Ne.symm (by assumption)); (first | assumption | exact wset_eq | (refine (wset_ne ?_).trans ?_; (first | assumption | exact Ne.symm (by assumption)); (first | assumption | exact wset_eq | (refine (wset_ne ?_).trans ?_; (first | assumption | exact Ne.symm (by assumption)); (first | assumption | exact wset_eq | (refine (wset_ne ?_).trans ?_; (first | assumption | exact Ne.symm (by assumption)); (first | assumption | exact wset_eq | (refine (wset_ne ?_).trans ?_; (first | assumption | exact Ne.symm (by assumption)); (first | assumption | exact wset_eq | (refine (wset_ne ?_).trans ?_; (first | assumption | exact Ne.symm (by assumption)); (first | assumption | exact wset_eq | (refine (wset_ne ?_).trans ?_; (first | assumption | exact Ne.symm (by assumption)); (assumption))))))))))))))) (kk := ?_)
  refine i_aload_n C dX3_init_12 (kk := ?_)
  refine i_bipush C dX3_init_13 (kk := ?_)
  refine i_newint C (harr := ta_int) (N := 30) (d := dX3_init_15) (kk := fun q15 nq15 => ?_)
  obtain ⟨u1, u2⟩ := wset_none nq15
  obtain ⟨u3, u4⟩ := wset_none u2
  refine i_putF C ff_X3_15 dX3_init_17 (hw := by first | assumption | exact wset_eq | (refine (wset_ne ?_).trans ?_; (first | assumption | exact Ne.symm (by assumption)); (first | assumption | exact wset_eq | (refine (wset_ne ?_).trans ?_; (first | assumption | exact Ne.symm (by assumption)); (first | assumption | exact wset_eq | (refine (wset_ne ?_).trans ?_; (first | assumption | exact Ne.symm (by assumption)); (first | assumption | exact wset_eq | (refine (wset_ne ?_).trans ?_; (first | assumption | exact Ne.symm (by assumption)); (first | assumption | exact wset_eq | (refine (wset_ne ?_).trans ?_; (first | assumption | exact Ne.symm (by assumption)); (first | assumption | exact wset_eq | (refine (wset_ne ?_).trans ?_; (first | assumption | exact Ne.symm (by assumption)); (first | assumption | exact wset_eq | (refine (wset_ne ?_).trans ?_; (first | assumption | exact Ne.symm (by assumption)); (assumption))))))))))))))) (kk := ?_)
  refine i_aload_n C dX3_init_20 (kk := ?_)
  refine i_bipush C dX3_init_21 (kk := ?_)
  refine i_newint C (harr := ta_int) (N := 30) (d := dX3_init_23) (kk := fun q23 nq23 => ?_)
  obtain ⟨v1, v2⟩ := wset_none nq23
  obtain ⟨v3, v4⟩ := wset_none v2
  obtain ⟨v5, v6⟩ := wset_none v4
  obtain ⟨v7, v8⟩ := wset_none v6
  refine i_putF C ff_X3_18 dX3_init_25 (hw := by first | assumption | exact wset_eq | (refine (wset_ne ?_).trans ?_; (first | assumption | exact Ne.symm (by assumption)); (first | assumption | exact wset_eq | (refine (wset_ne ?_).trans ?_; (first | assumption | exact Ne.symm (by assumption)); (first | assumption | exact wset_eq | (refine (wset_ne ?_).trans ?_; (first | assumption | exact Ne.symm (by assumption)); (first | assumption | exact wset_eq | (refine (wset_ne ?_).trans ?_; (first | assumption | exact Ne.symm (by assumption)); (first | assumption | exact wset_eq | (refine (wset_ne ?_).trans ?_; (first | assumption | exact Ne.symm (by assumption)); (first | assumption | exact wset_eq | (refine (wset_ne ?_).trans ?_; (first | assumption | exact Ne.symm (by assumption)); (first | assumption | exact wset_eq | (refine (wset_ne ?_).trans ?_; (first | assumption | exact Ne.symm (by assumption)); (assumption))))))))))))))) (kk := ?_)
  refine i_aload_n C dX3_init_28 (kk := ?_)
  refine i_iconst C dX3_init_29 (kk := ?_)
  refine i_putf C fk_X3_21 dX3_init_30 (hw := by first | assumption | exact wset_eq | (refine (wset_ne ?_).trans ?_; (first | assumption | exact Ne.symm (by assumption)); (first | assumption | exact wset_eq | (refine (wset_ne ?_).trans ?_; (first | assumption | exact Ne.symm (by assumption)); (first | assumption | exact wset_eq | (refine (wset_ne ?_).trans ?_; (first | assumption | exact Ne.symm (by assumption)); (first | assumption | exact wset_eq | (refine (wset_ne ?_).trans ?_; (first | assumption | exact Ne.symm (by assumption)); (first | assumption | exact wset_eq | (refine (wset_ne ?_).trans ?_; (first | assumption | exact Ne.symm (by assumption)); (first | assumption | exact wset_eq | (refine (wset_ne ?_).trans ?_; (first | assumption | exact Ne.symm (by assumption)); (first | assumption | exact wset_eq | (refine (wset_ne ?_).trans ?_; (first | assumption | exact Ne.symm (by assumption)); (assumption))))))))))))))) (kk := ?_)
  refine i_aload_n C dX3_init_33 (kk := ?_)
  refine i_iconst C dX3_init_34 (kk := ?_)
  refine i_putf C fk_X3_25 dX3_init_35 (hw := by first | assumption | exact wset_eq | (refine (wset_ne ?_).trans ?_; (first | assumption | exact Ne.symm (by assumption)); (first | assumption | exact wset_eq | (refine (wset_ne ?_).trans ?_; (first | assumption | exact Ne.symm (by assumption)); (first | assumption | exact wset_eq | (refine (wset_ne ?_).trans ?_; (first | assumption | exact Ne.symm (by assumption)); (first | assumption | exact wset_eq | (refine (wset_ne ?_).trans ?_; (first | assumption | exact Ne.symm (by assumption)); (first | assumption | exact wset_eq | (refine (wset_ne ?_).trans ?_; (first | assumption | exact Ne.symm (by assumption)); (first | assumption | exact wset_eq | (refine (wset_ne ?_).trans ?_; (first | assumption | exact Ne.symm (by assumption)); (first | assumption | exact wset_eq | (refine (wset_ne ?_).trans ?_; (first | assumption | exact Ne.symm (by assumption)); (assumption))))))))))))))) (kk := ?_)
  exact i_vret C (d := dX3_init_38) (h := ⟨rfl, q7, q15, q23, nq7, u4, v8, u3.symm, v7.symm, v3.symm, wset_eq, by first | assumption | exact wset_eq | (refine (wset_ne ?_).trans ?_; (first | assumption | exact Ne.symm (by assumption)); (first | assumption | exact wset_eq | (refine (wset_ne ?_).trans ?_; (first | assumption | exact Ne.symm (by assumption)); (first | assumption | exact wset_eq | (refine (wset_ne ?_).trans ?_; (first | assumption | exact Ne.symm (by assumption)); (first | assumption | exact wset_eq | (refine (wset_ne ?_).trans ?_; (first | assumption | exact Ne.symm (by assumption)); (first | assumption | exact wset_eq | (refine (wset_ne ?_).trans ?_; (first | assumption | exact Ne.symm (by assumption)); (first | assumption | exact wset_eq | (refine (wset_ne ?_).trans ?_; (first | assumption | exact Ne.symm (by assumption)); (first | assumption | exact wset_eq | (refine (wset_ne ?_).trans ?_; (first | assumption | exact Ne.symm (by assumption)); (first | assumption | exact wset_eq | (refine (wset_ne ?_).trans ?_; (first | assumption | exact Ne.symm (by assumption)); (assumption)))))))))))))))), by first | assumption | exact wset_eq | (refine (wset_ne ?_).trans ?_; (first | assumption | exact Ne.symm (by assumption)); (first | assumption | exact wset_eq | (refine (wset_ne ?_).trans ?_; (first | assumption | exact Ne.symm (by assumption)); (first | assumption | exact wset_eq | (refine (wset_ne ?_).trans ?_; (first | assumption | exact Ne.symm (by assumption)); (first | assumption | exact wset_eq | (refine (wset_ne ?_).trans ?_; (first | assumption | exact Ne.symm (by assumption)); (first | assumption | exact wset_eq | (refine (wset_ne ?_).trans ?_; (first | assumption | exact Ne.symm (by assumption)); (first | assumption | exact wset_eq | (refine (wset_ne ?_).trans ?_; (first | assumption | exact Ne.symm (by assumption)); (first | assumption | exact wset_eq | (refine (wset_ne ?_).trans ?_; (first | assumption | exact Ne.symm (by assumption)); (first | assumption | exact wset_eq | (refine (wset_ne ?_).trans ?_; (first | assumption | exact Ne.symm (by assumption)); (assumption)))))))))))))))), by first | assumption | exact wset_eq | (refine (wset_ne ?_).trans ?_; (first | assumption | exact Ne.symm (by assumption)); (first | assumption | exact wset_eq | (refine (wset_ne ?_).trans ?_; (first | assumption | exact Ne.symm (by assumption)); (first | assumption | exact wset_eq | (refine (wset_ne ?_).trans ?_; (first | assumption | exact Ne.symm (by assumption)); (first | assumption | exact wset_eq | (refine (wset_ne ?_).trans ?_; (first | assumption | exact Ne.symm (by assumption)); (first | assumption | exact wset_eq | (refine (wset_ne ?_).trans ?_; (first | assumption | exact Ne.symm (by assumption)); (first | assumption | exact wset_eq | (refine (wset_ne ?_).trans ?_; (first | assumption | exact Ne.symm (by assumption)); (first | assumption | exact wset_eq | (refine (wset_ne ?_).trans ?_; (first | assumption | exact Ne.symm (by assumption)); (first | assumption | exact wset_eq | (refine (wset_ne ?_).trans ?_; (first | assumption | exact Ne.symm (by assumption)); (assumption)))))))))))))))), fun q e1 e2 e3 e4 => by rw [wset_ne e1, wset_ne e1, wset_ne e1, wset_ne e4, wset_ne e1, wset_ne e3, wset_ne e1, wset_ne e2]⟩)
