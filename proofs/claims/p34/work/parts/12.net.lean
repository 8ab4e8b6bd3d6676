set_option maxRecDepth 100000 in
set_option maxHeartbeats 4000000 in
theorem c_X0_callsOf (l : Launch) (hl : l.stackTraces = false) (D : gD) {w : wW} {τ : Nat → Nat} {r a c o e d x : Nat} {fc fo fr fd fx : Nat → Nat} {p q : Nat} (hN : NtT D w τ r a c o e d x fc fo fr fd fx := by assumption) (hp : p < 12 := by omega) (hq : q < 12 := by omega) : CTm l D yX0_callsOf cX0_callsOf 3 (some .int) (rmL 2 0 0) [.ref a, .int (Z32 (p : Int)), .int (Z32 (q : Int))] w (fun v w1 => v = some (.int (Z32 (fc (12 * p + q) : Int))) ∧ w1 = w) := by
  refine CTm_of hl false rfl (by rfl) (Nat.le_of_ble_eq_true rfl) (fun h => nomatch h) ?_
  intro G C
  show G 0 0 w [some (.ref a), some (.int (Z32 (p : Int))), some (.int (Z32 (q : Int)))] 0 []
  obtain ⟨t1, t2, t3, t4, t5, t6, k1, k2, k3, k4, k5, k6, b1, b2, b3, b4, b5⟩ := hN
  refine i_aload_n C dX0_callsOf_0 (kk := ?_)
  refine i_getf C f_X0_9 dX0_callsOf_1 (hw := k1) (kk := ?_)
  refine i_iload_n C dX0_callsOf_4 (kk := ?_)
  refine i_bipush C dX0_callsOf_5 (kk := ?_)
  refine i_imul C dX0_callsOf_7 (kk := ?_)
  refine i_iload_n C dX0_callsOf_8 (kk := ?_)
  refine i_iadd C dX0_callsOf_9 (kk := ?_)
  have e9 : (p : Int) * 12 + q = ((12 * p + q : Nat) : Int) := by omega
  rw [e9]
  refine i_callSN C lk_X0_27 (c_X6_at l hl D (hw := k2)) (hst := rfl) dX0_callsOf_10 (kk := fun v10 w10 g10 => ?_)
  obtain ⟨rfl, q10⟩ := g10
  have q10 := q10.symm
  subst q10
  exact i_iret C (d := dX0_callsOf_13) (h := ⟨by rw [atz_nat (by omega)]; rfl, rfl⟩)

set_option maxRecDepth 100000 in
set_option maxHeartbeats 4000000 in
theorem c_X0_reachedFrom (l : Launch) (hl : l.stackTraces = false) (D : gD) {w : wW} {τ : Nat → Nat} {r a c o e d x : Nat} {fc fo fr fd fx : Nat → Nat} {p : Nat} (hN : NtT D w τ r a c o e d x fc fo fr fd fx := by assumption) (hp : p < 12 := by omega) : CTm l D yX0_reachedFrom cX0_reachedFrom 2 (some .int) (rmL 2 0 0) [.ref a, .int (Z32 (p : Int))] w (fun v w1 => v = some (.int (Z32 (fr p : Int))) ∧ w1 = w) := by
  refine CTm_of hl false rfl (by rfl) (Nat.le_of_ble_eq_true rfl) (fun h => nomatch h) ?_
  intro G C
  show G 0 0 w [some (.ref a), some (.int (Z32 (p : Int)))] 0 []
  obtain ⟨t1, t2, t3, t4, t5, t6, k1, k2, k3, k4, k5, k6, b1, b2, b3, b4, b5⟩ := hN
  refine i_aload_n C dX0_reachedFrom_0 (kk := ?_)
  refine i_getf C f_X0_18 dX0_reachedFrom_1 (hw := k1) (kk := ?_)
  refine i_iload_n C dX0_reachedFrom_4 (kk := ?_)
  refine i_callSN C lk_X0_27 (c_X6_at l hl D (hw := k4)) (hst := rfl) dX0_reachedFrom_5 (kk := fun v5 w5 g5 => ?_)
  obtain ⟨rfl, q5⟩ := g5
  have q5 := q5.symm
  subst q5
  exact i_iret C (d := dX0_reachedFrom_8) (h := ⟨by rw [atz_nat (by omega)]; rfl, rfl⟩)

set_option maxRecDepth 100000 in
set_option maxHeartbeats 4000000 in
theorem c_X0_depthOf (l : Launch) (hl : l.stackTraces = false) (D : gD) {w : wW} {τ : Nat → Nat} {r a c o e d x : Nat} {fc fo fr fd fx : Nat → Nat} {p : Nat} (hN : NtT D w τ r a c o e d x fc fo fr fd fx := by assumption) (hp : p < 12 := by omega) : CTm l D yX0_depthOf cX0_depthOf 2 (some .int) (rmL 2 0 0) [.ref a, .int (Z32 (p : Int))] w (fun v w1 => v = some (.int (Z32 (fd p : Int))) ∧ w1 = w) := by
  refine CTm_of hl false rfl (by rfl) (Nat.le_of_ble_eq_true rfl) (fun h => nomatch h) ?_
  intro G C
  show G 0 0 w [some (.ref a), some (.int (Z32 (p : Int)))] 0 []
  obtain ⟨t1, t2, t3, t4, t5, t6, k1, k2, k3, k4, k5, k6, b1, b2, b3, b4, b5⟩ := hN
  refine i_aload_n C dX0_depthOf_0 (kk := ?_)
  refine i_getf C f_X0_21 dX0_depthOf_1 (hw := k1) (kk := ?_)
  refine i_iload_n C dX0_depthOf_4 (kk := ?_)
  refine i_callSN C lk_X0_27 (c_X6_at l hl D (hw := k5)) (hst := rfl) dX0_depthOf_5 (kk := fun v5 w5 g5 => ?_)
  obtain ⟨rfl, q5⟩ := g5
  have q5 := q5.symm
  subst q5
  exact i_iret C (d := dX0_depthOf_8) (h := ⟨by rw [atz_nat (by omega)]; rfl, rfl⟩)

set_option maxRecDepth 100000 in
set_option maxHeartbeats 4000000 in
theorem c_X0_extentOf (l : Launch) (hl : l.stackTraces = false) (D : gD) {w : wW} {τ : Nat → Nat} {r a c o e d x : Nat} {fc fo fr fd fx : Nat → Nat} {p : Nat} (hN : NtT D w τ r a c o e d x fc fo fr fd fx := by assumption) (hp : p < 12 := by omega) : CTm l D yX0_extentOf cX0_extentOf 2 (some .int) (rmL 2 0 0) [.ref a, .int (Z32 (p : Int))] w (fun v w1 => v = some (.int (Z32 (fx p : Int))) ∧ w1 = w) := by
  refine CTm_of hl false rfl (by rfl) (Nat.le_of_ble_eq_true rfl) (fun h => nomatch h) ?_
  intro G C
  show G 0 0 w [some (.ref a), some (.int (Z32 (p : Int)))] 0 []
  obtain ⟨t1, t2, t3, t4, t5, t6, k1, k2, k3, k4, k5, k6, b1, b2, b3, b4, b5⟩ := hN
  refine i_aload_n C dX0_extentOf_0 (kk := ?_)
  refine i_getf C f_X0_24 dX0_extentOf_1 (hw := k1) (kk := ?_)
  refine i_iload_n C dX0_extentOf_4 (kk := ?_)
  refine i_callSN C lk_X0_27 (c_X6_at l hl D (hw := k6)) (hst := rfl) dX0_extentOf_5 (kk := fun v5 w5 g5 => ?_)
  obtain ⟨rfl, q5⟩ := g5
  have q5 := q5.symm
  subst q5
  exact i_iret C (d := dX0_extentOf_8) (h := ⟨by rw [atz_nat (by omega)]; rfl, rfl⟩)

set_option maxRecDepth 100000 in
set_option maxHeartbeats 4000000 in
theorem c_X0_greatestDepth (l : Launch) (hl : l.stackTraces = false) (D : gD) {w : wW} {τ : Nat → Nat} {r a c o e d x : Nat} {fc fo fr fd fx : Nat → Nat} (hN : NtT D w τ r a c o e d x fc fo fr fd fx := by assumption) : CTm l D yX0_greatestDepth cX0_greatestDepth 1 (some .int) (rmL 3 0 0) [.ref a] w (fun v w1 => v = some (.int (Z32 (gtz (cz fd) 12))) ∧ w1 = w) := by
  refine CTm_of hl false rfl (by rfl) (Nat.le_of_ble_eq_true rfl) (fun h => nomatch h) ?_
  intro G C
  show G 0 0 w [some (.ref a)] 0 []
  obtain ⟨t1, t2, t3, t4, t5, t6, k1, k2, k3, k4, k5, k6, b1, b2, b3, b4, b5⟩ := hN
  refine i_aload_n C dX0_greatestDepth_0 (kk := ?_)
  refine i_getf C f_X0_21 dX0_greatestDepth_1 (hw := k1) (kk := ?_)
  refine i_callSN C lk_X0_79 (c_X6_greatest l hl D (hw := k5) (hf := fun j _ => ⟨by show -2147483648 ≤ ((fd j : Nat) : Int); omega, by have := b4 j; show ((fd j : Nat) : Int) < _; omega⟩)) (hst := rfl) dX0_greatestDepth_4 (kk := fun v4 w4 g4 => ?_)
  obtain ⟨rfl, q4⟩ := g4
  have q4 := q4.symm
  subst q4
  exact i_iret C (d := dX0_greatestDepth_7) (h := ⟨rfl, rfl⟩)

set_option maxRecDepth 100000 in
set_option maxHeartbeats 4000000 in
theorem c_X0_greatestExtent (l : Launch) (hl : l.stackTraces = false) (D : gD) {w : wW} {τ : Nat → Nat} {r a c o e d x : Nat} {fc fo fr fd fx : Nat → Nat} (hN : NtT D w τ r a c o e d x fc fo fr fd fx := by assumption) : CTm l D yX0_greatestExtent cX0_greatestExtent 1 (some .int) (rmL 3 0 0) [.ref a] w (fun v w1 => v = some (.int (Z32 (gtz (cz fx) 12))) ∧ w1 = w) := by
  refine CTm_of hl false rfl (by rfl) (Nat.le_of_ble_eq_true rfl) (fun h => nomatch h) ?_
  intro G C
  show G 0 0 w [some (.ref a)] 0 []
  obtain ⟨t1, t2, t3, t4, t5, t6, k1, k2, k3, k4, k5, k6, b1, b2, b3, b4, b5⟩ := hN
  refine i_aload_n C dX0_greatestExtent_0 (kk := ?_)
  refine i_getf C f_X0_24 dX0_greatestExtent_1 (hw := k1) (kk := ?_)
  refine i_callSN C lk_X0_79 (c_X6_greatest l hl D (hw := k6) (hf := fun j _ => ⟨by show -2147483648 ≤ ((fx j : Nat) : Int); omega, by have := b5 j; show ((fx j : Nat) : Int) < _; omega⟩)) (hst := rfl) dX0_greatestExtent_4 (kk := fun v4 w4 g4 => ?_)
  obtain ⟨rfl, q4⟩ := g4
  have q4 := q4.symm
  subst q4
  exact i_iret C (d := dX0_greatestExtent_7) (h := ⟨rfl, rfl⟩)

set_option maxRecDepth 100000 in
set_option maxHeartbeats 4000000 in
theorem c_X0_depthOverCalled (l : Launch) (hl : l.stackTraces = false) (D : gD) {w : wW} {τ : Nat → Nat} {r a c o e d x : Nat} {fc fo fr fd fx : Nat → Nat} {p : Nat} (hN : NtT D w τ r a c o e d x fc fo fr fd fx := by assumption) (hp : p < 12 := by omega) : CTm l D yX0_depthOverCalled cX0_depthOverCalled 4 (some .int) (rmL 3 0 0) [.ref a, .int (Z32 (p : Int))] w (fun v w1 => v = some (.int (Z32 (dOC fc fd p 12 : Int))) ∧ w1 = w) := by
  refine CTm_of hl false rfl (by rfl) (Nat.le_of_ble_eq_true rfl) (fun h => nomatch h) ?_
  intro G C
  show G 0 0 w [some (.ref a), some (.int (Z32 (p : Int))), none, none] 0 []
  have kN := hN
  obtain ⟨t1, t2, t3, t4, t5, t6, k1, k2, k3, k4, k5, k6, b1, b2, b3, b4, b5⟩ := hN
  refine i_iconst C dX0_depthOverCalled_0 (kk := ?_)
  refine i_istore_n C dX0_depthOverCalled_1 (kk := ?_)
  refine i_iconst C dX0_depthOverCalled_2 (kk := ?_)
  refine i_istore_n C dX0_depthOverCalled_3 (kk := ?_)
  have lp : ∀ (n j : Nat), 13 ≤ n + j → j ≤ 12 → G 0 0 w [some (.ref a), some (.int (Z32 (p : Int))), some (.int (Z32 (dOC fc fd p j : Int))), some (.int (Z32 (j : Int)))] 4 [] := by
    intro n
    induction n with
    | zero => intro j h1 h2; omega
    | succ n ih =>
    intro j h1 h2
    have hd := dOC_le (fc := fc) (p := p) (fun i _ => b4 i) j h2
    refine i_iload_n C dX0_depthOverCalled_4 (kk := ?_)
    refine i_bipush C dX0_depthOverCalled_5 (kk := ?_)
    refine i_icmp_ge C dX0_depthOverCalled_7 (tgt := 37) (kt := fun hB7 => ?_) (kf := fun hB7 => ?_)
    · refine i_iload_n C dX0_depthOverCalled_37 (kk := ?_)
      exact i_iret C (d := dX0_depthOverCalled_38) (h := ⟨by rw [show j = 12 by omega], rfl⟩)
    · refine i_aload_n C dX0_depthOverCalled_10 (kk := ?_)
      refine i_iload_n C dX0_depthOverCalled_11 (kk := ?_)
      refine i_iload_n C dX0_depthOverCalled_12 (kk := ?_)
      refine i_callV C lk_X0_48 (c_X0_callsOf l hl D (hN := kN) (q := j)) (hcl := rfl) (hst := rfl) dX0_depthOverCalled_13 (hw := k1) (kk := fun v13 w13 g13 => ?_)
      obtain ⟨rfl, q13⟩ := g13
      have q13 := q13.symm
      subst q13
      have e1 := b1 (12 * p + j)
      have e2 := b4 j
      refine i_if_le C dX0_depthOverCalled_16 (tgt := 31) (kt := fun hB16 => ?_) (kf := fun hB16 => ?_)
      · have e9 : dOC fc fd p (j + 1) = dOC fc fd p j := if_neg (by omega)
        refine i_iinc C dX0_depthOverCalled_31 (kk := ?_)
        refine i_goto C dX0_depthOverCalled_34 (tgt := 4) (kk := ?_)
        first | exact ih (j + 1) (by omega) (by omega) | (rw [← e9]; exact ih (j + 1) (by omega) (by omega))
      · have e9 : dOC fc fd p (j + 1) = max (dOC fc fd p j) (fd j + 1) := if_pos (by omega)
        refine i_iload_n C dX0_depthOverCalled_19 (kk := ?_)
        refine i_aload_n C dX0_depthOverCalled_20 (kk := ?_)
        refine i_iload_n C dX0_depthOverCalled_21 (kk := ?_)
        refine i_callV C lk_X0_62 (c_X0_depthOf l hl D (hN := kN)) (hcl := rfl) (hst := rfl) dX0_depthOverCalled_22 (hw := k1) (kk := fun v22 w22 g22 => ?_)
        obtain ⟨rfl, q22⟩ := g22
        have q22 := q22.symm
        subst q22
        refine i_iconst C dX0_depthOverCalled_25 (kk := ?_)
        refine i_iadd C dX0_depthOverCalled_26 (kk := ?_)
        refine i_max C lk_X0_65 dX0_depthOverCalled_27 (kk := ?_)
        have e7 : max (dOC fc fd p j : Int) ((fd j : Int) + 1) = ((dOC fc fd p (j + 1) : Nat) : Int) := by rw [e9]; omega
        rw [e7]
        refine i_istore_n C dX0_depthOverCalled_30 (kk := ?_)
        refine i_iinc C dX0_depthOverCalled_31 (kk := ?_)
        refine i_goto C dX0_depthOverCalled_34 (tgt := 4) (kk := ?_)
        first | exact ih (j + 1) (by omega) (by omega) | (rw [← e9]; exact ih (j + 1) (by omega) (by omega))
  exact lp 13 0 (by omega) (by omega)

set_option maxRecDepth 100000 in
set_option maxHeartbeats 4000000 in
theorem c_X0_extentOverCalled (l : Launch) (hl : l.stackTraces = false) (D : gD) {w : wW} {τ : Nat → Nat} {r a c o e d x : Nat} {fc fo fr fd fx : Nat → Nat} {p : Nat} (hN : NtT D w τ r a c o e d x fc fo fr fd fx := by assumption) (hp : p < 12 := by omega) : CTm l D yX0_extentOverCalled cX0_extentOverCalled 4 (some .int) (rmL 3 0 0) [.ref a, .int (Z32 (p : Int))] w (fun v w1 => v = some (.int (Z32 (min (eOC fc fo fx p 12) 101 : Nat))) ∧ w1 = w) := by
  refine CTm_of hl false rfl (by rfl) (Nat.le_of_ble_eq_true rfl) (fun h => nomatch h) ?_
  intro G C
  show G 0 0 w [some (.ref a), some (.int (Z32 (p : Int))), none, none] 0 []
  have kN := hN
  obtain ⟨t1, t2, t3, t4, t5, t6, k1, k2, k3, k4, k5, k6, b1, b2, b3, b4, b5⟩ := hN
  refine i_aload_n C dX0_extentOverCalled_0 (kk := ?_)
  refine i_getf C f_X0_15 dX0_extentOverCalled_1 (hw := k1) (kk := ?_)
  refine i_iload_n C dX0_extentOverCalled_4 (kk := ?_)
  refine i_callSN C lk_X0_27 (c_X6_at l hl D (hw := k3)) (hst := rfl) dX0_extentOverCalled_5 (kk := fun v5 w5 g5 => ?_)
  obtain ⟨rfl, q5⟩ := g5
  have q5 := q5.symm
  subst q5
  rw [atz_nat (by omega)]
  refine i_istore_n C dX0_extentOverCalled_8 (kk := ?_)
  refine i_iconst C dX0_extentOverCalled_9 (kk := ?_)
  refine i_istore_n C dX0_extentOverCalled_10 (kk := ?_)
  have lp : ∀ (n j : Nat), 13 ≤ n + j → j ≤ 12 → G 0 0 w [some (.ref a), some (.int (Z32 (p : Int))), some (.int (Z32 (eOC fc fo fx p j : Int))), some (.int (Z32 (j : Int)))] 11 [] := by
    intro n
    induction n with
    | zero => intro j h1 h2; omega
    | succ n ih =>
    intro j h1 h2
    have hd := eOC_le (p := p) b1 b2 b5 j
    refine i_iload_n C dX0_extentOverCalled_11 (kk := ?_)
    refine i_bipush C dX0_extentOverCalled_12 (kk := ?_)
    refine i_icmp_ge C dX0_extentOverCalled_14 (tgt := 47) (kt := fun hB14 => ?_) (kf := fun hB14 => ?_)
    · refine i_iload_n C dX0_extentOverCalled_47 (kk := ?_)
      refine i_bipush C dX0_extentOverCalled_48 (kk := ?_)
      have e6 : j = 12 := by omega
      subst e6
      refine i_min C lk_X0_76 dX0_extentOverCalled_50 (kk := ?_)
      exact i_iret C (d := dX0_extentOverCalled_53) (h := ⟨by rw [show min ((eOC fc fo fx p 12 : Nat) : Int) 101 = ((min (eOC fc fo fx p 12) 101 : Nat) : Int) by omega], rfl⟩)
    · refine i_aload_n C dX0_extentOverCalled_17 (kk := ?_)
      refine i_iload_n C dX0_extentOverCalled_18 (kk := ?_)
      refine i_iload_n C dX0_extentOverCalled_19 (kk := ?_)
      refine i_callV C lk_X0_48 (c_X0_callsOf l hl D (hN := kN) (q := j)) (hcl := rfl) (hst := rfl) dX0_extentOverCalled_20 (hw := k1) (kk := fun v20 w20 g20 => ?_)
      obtain ⟨rfl, q20⟩ := g20
      have q20 := q20.symm
      subst q20
      have e1 := b1 (12 * p + j)
      have e2 := b5 j
      have e9 : eOC fc fo fx p (j + 1) = eOC fc fo fx p j + fc (12 * p + j) * fx j := rfl
      refine i_if_le C dX0_extentOverCalled_23 (tgt := 41) (kt := fun hB23 => ?_) (kf := fun hB23 => ?_)
      · have e8 : eOC fc fo fx p (j + 1) = eOC fc fo fx p j := by rw [e9, show fc (12 * p + j) = 0 by omega]; omega
        refine i_iinc C dX0_extentOverCalled_41 (kk := ?_)
        refine i_goto C dX0_extentOverCalled_44 (tgt := 11) (kk := ?_)
        first | exact ih (j + 1) (by omega) (by omega) | (rw [← e8]; exact ih (j + 1) (by omega) (by omega))
      · refine i_iload_n C dX0_extentOverCalled_26 (kk := ?_)
        refine i_aload_n C dX0_extentOverCalled_27 (kk := ?_)
        refine i_iload_n C dX0_extentOverCalled_28 (kk := ?_)
        refine i_iload_n C dX0_extentOverCalled_29 (kk := ?_)
        refine i_callV C lk_X0_48 (c_X0_callsOf l hl D (hN := kN) (q := j)) (hcl := rfl) (hst := rfl) dX0_extentOverCalled_30 (hw := k1) (kk := fun v30 w30 g30 => ?_)
        obtain ⟨rfl, q30⟩ := g30
        have q30 := q30.symm
        subst q30
        refine i_aload_n C dX0_extentOverCalled_33 (kk := ?_)
        refine i_iload_n C dX0_extentOverCalled_34 (kk := ?_)
        refine i_callV C lk_X0_73 (c_X0_extentOf l hl D (hN := kN)) (hcl := rfl) (hst := rfl) dX0_extentOverCalled_35 (hw := k1) (kk := fun v35 w35 g35 => ?_)
        obtain ⟨rfl, q35⟩ := g35
        have q35 := q35.symm
        subst q35
        refine i_imul C dX0_extentOverCalled_38 (kk := ?_)
        refine i_iadd C dX0_extentOverCalled_39 (kk := ?_)
        have e7 : (eOC fc fo fx p j : Int) + (fc (12 * p + j) : Int) * (fx j : Int) = ((eOC fc fo fx p (j + 1) : Nat) : Int) := by rw [e9, Int.natCast_add, Int.natCast_mul]
        rw [e7]
        refine i_istore_n C dX0_extentOverCalled_40 (kk := ?_)
        refine i_iinc C dX0_extentOverCalled_41 (kk := ?_)
        refine i_goto C dX0_extentOverCalled_44 (tgt := 11) (kk := ?_)
        first | exact ih (j + 1) (by omega) (by omega) | (rw [← e8]; exact ih (j + 1) (by omega) (by omega))
  exact lp 13 0 (by omega) (by omega)

set_option maxRecDepth 100000 in
set_option maxHeartbeats 4000000 in
theorem c_X0_findDepths (l : Launch) (hl : l.stackTraces = false) (D : gD) {w : wW} {τ : Nat → Nat} {r a c o e d x : Nat} {fc fo fr fd fx : Nat → Nat} (hN : NtT D w τ r a c o e d x fc fo fr fd fx := by assumption) : CTm l D yX0_findDepths cX0_findDepths 3 none (rmL 4 0 0) [.ref a] w (fun v w1 => v = none ∧ (∃ f, NtT D w1 τ r a c o e d x fc fo fr f fx ∧ ∀ j, j < 12 → f j = dRnd fc (fun _ => 0) 11 j ∧ f j ≤ 132) ∧ offR τ w w1 r (r + 6)) := by
  refine CTm_of hl false rfl (by rfl) (Nat.le_of_ble_eq_true rfl) (fun h => nomatch h) ?_
  intro G C
  show G 0 0 w [some (.ref a), none, none] 0 []
  refine i_iconst C dX0_findDepths_0 (kk := ?_)
  refine i_istore_n C dX0_findDepths_1 (kk := ?_)
  have lp1 : ∀ (n j : Nat) (w1 : wW) (f : Nat → Nat), 13 ≤ n + j → j ≤ 12 → NtT D w1 τ r a c o e d x fc fo fr f fx → (∀ i, i < j → f i = 0) → offR τ w w1 r (r + 6) → G 0 0 w1 [some (.ref a), some (.int (Z32 (j : Int))), none] 2 [] := by
    intro n
    induction n with
    | zero => intro j w1 f h1 h2; omega
    | succ n ih =>
    intro j w1 f h1 h2 kN ke kO
    refine i_iload_n C dX0_findDepths_2 (kk := ?_)
    refine i_bipush C dX0_findDepths_3 (kk := ?_)
    refine i_icmp_ge C dX0_findDepths_5 (tgt := 23) (kt := fun hB5 => ?_) (kf := fun hB5 => ?_)
    · refine i_iconst C dX0_findDepths_23 (kk := ?_)
      refine i_istore_n C dX0_findDepths_24 (kk := ?_)
      have lp2 : ∀ (n k : Nat) (w1 : wW) (f : Nat → Nat) (o9 : Option Value), 12 ≤ n + k → k ≤ 11 → NtT D w1 τ r a c o e d x fc fo fr f fx → (∀ i, i < 12 → f i = dRnd fc (fun _ => 0) k i) → (∀ i, i < 12 → f i ≤ 12 * k) → offR τ w w1 r (r + 6) → G 0 0 w1 [some (.ref a), some (.int (Z32 ((k : Int) + 1))), o9] 25 [] := by
        intro n
        induction n with
        | zero => intro k w1 f o9 h1 h2; omega
        | succ n ihk =>
        intro k w1 f o9 h1 h2 kN ke kb kO
        refine i_iload_n C dX0_findDepths_25 (kk := ?_)
        refine i_bipush C dX0_findDepths_26 (kk := ?_)
        refine i_icmp_ge C dX0_findDepths_28 (tgt := 64) (kt := fun hB28 => ?_) (kf := fun hB28 => ?_)
        · exact i_vret C (d := dX0_findDepths_64) (h := ⟨rfl, ⟨f, kN, fun j hj => by rw [← show k = 11 by omega]; exact ⟨ke j hj, Nat.le_trans (kb j hj) (by omega)⟩⟩, kO⟩)
        · refine i_iconst C dX0_findDepths_31 (kk := ?_)
          refine i_istore_n C dX0_findDepths_32 (kk := ?_)
          have lp3 : ∀ (n j : Nat) (w1 : wW) (f : Nat → Nat), 13 ≤ n + j → j ≤ 12 → NtT D w1 τ r a c o e d x fc fo fr f fx → (∀ i, i < 12 → f i = dRow fc (dRnd fc (fun _ => 0) k) j i) → (∀ i, i < 12 → f i ≤ 12 * k + j) → offR τ w w1 r (r + 6) → G 0 0 w1 [some (.ref a), some (.int (Z32 ((k : Int) + 1))), some (.int (Z32 (j : Int)))] 33 [] := by
            intro n
            induction n with
            | zero => intro j w1 f h1 h2; omega
            | succ n ihj =>
            intro j w1 f h1 h2 kN ke kb kO
            refine i_iload_n C dX0_findDepths_33 (kk := ?_)
            refine i_bipush C dX0_findDepths_34 (kk := ?_)
            refine i_icmp_ge C dX0_findDepths_36 (tgt := 58) (kt := fun hB36 => ?_) (kf := fun hB36 => ?_)
            · refine i_iinc C dX0_findDepths_58 (kk := ?_)
              refine i_goto C dX0_findDepths_61 (tgt := 25) (kk := ?_)
              exact ihk (k + 1) _ _ _ (by omega) (by omega) kN (fun i hi => (ke i hi).trans (by rw [show j = 12 by omega]; rfl)) (fun i hi => Nat.le_trans (kb i hi) (by omega)) kO
            · refine i_aload_n C dX0_findDepths_39 (kk := ?_)
              refine i_getf C f_X0_21 dX0_findDepths_40 (hw := kN.2.2.2.2.2.2.1) (kk := ?_)
              refine i_iload_n C dX0_findDepths_43 (kk := ?_)
              refine i_aload_n C dX0_findDepths_44 (kk := ?_)
              refine i_iload_n C dX0_findDepths_45 (kk := ?_)
              refine i_callV C lk_X0_59 (c_X0_depthOverCalled l hl D (hN := kN)) (hcl := rfl) (hst := rfl) dX0_findDepths_46 (hw := kN.2.2.2.2.2.2.1) (kk := fun v46 w46 g46 => ?_)
              obtain ⟨rfl, q46⟩ := g46
              have q46 := q46.symm
              subst q46
              have ed := dOC_le (fc := fc) (p := j) kb 12 (by omega)
              refine i_callSN C lk_X0_31 (c_X6_put l hl D (hw := kN.2.2.2.2.2.2.2.2.2.2.1) (hi := by omega)) (hst := rfl) dX0_findDepths_49 (kk := fun v49 w49 g49 => ?_)
              obtain ⟨rfl, rfl⟩ := g49
              rw [putz_nat (by omega), cz_up]
              have kN2 := kN.setD j (dOC fc f j 12) (by omega)
              refine i_iinc C dX0_findDepths_52 (kk := ?_)
              refine i_goto C dX0_findDepths_55 (tgt := 33) (kk := ?_)
              exact ihj (j + 1) _ _ (by omega) (by omega) kN2 (by rw [dOC_cong ke 12 (by omega)]; exact upz_agree ke) (fun i hi => upz_below kb ed i hi) (kO.put (by have := kN.2.2.2.2.1; omega) (by have := kN.2.2.2.2.1; omega))
          exact lp3 13 0 _ f (by omega) (by omega) kN ke kb kO
      exact lp2 12 0 _ f _ (by omega) (by omega) kN (fun i hi => ke i (by omega)) (fun i hi => by rw [ke i (by omega)]; exact Nat.zero_le _) kO
    · refine i_aload_n C dX0_findDepths_8 (kk := ?_)
      refine i_getf C f_X0_21 dX0_findDepths_9 (hw := kN.2.2.2.2.2.2.1) (kk := ?_)
      refine i_iload_n C dX0_findDepths_12 (kk := ?_)
      refine i_iconst C dX0_findDepths_13 (kk := ?_)
      refine i_callSN C lk_X0_31 (c_X6_put l hl D (hw := kN.2.2.2.2.2.2.2.2.2.2.1) (x := ((0 : Nat) : Int))) (hst := rfl) dX0_findDepths_14 (kk := fun v14 w14 g14 => ?_)
      obtain ⟨rfl, rfl⟩ := g14
      rw [putz_nat (by omega), cz_up]
      have kN2 := kN.setD j 0 (by omega)
      refine i_iinc C dX0_findDepths_17 (kk := ?_)
      refine i_goto C dX0_findDepths_20 (tgt := 2) (kk := ?_)
      exact ih (j + 1) _ _ (by omega) (by omega) kN2 (fun i hi => by by_cases q : i = j; (subst q; exact upz_eq); (rw [upz_ne q]; exact ke i (by omega))) (kO.put (by have := kN.2.2.2.2.1; omega) (by have := kN.2.2.2.2.1; omega))
  exact lp1 13 0 w fd (by omega) (by omega) hN (fun i hi => absurd hi (Nat.not_lt_zero i)) offR.rf

set_option maxRecDepth 100000 in
set_option maxHeartbeats 4000000 in
theorem c_X0_findExtents (l : Launch) (hl : l.stackTraces = false) (D : gD) {w : wW} {τ : Nat → Nat} {r a c o e d x : Nat} {fc fo fr fd fx : Nat → Nat} (hN : NtT D w τ r a c o e d x fc fo fr fd fx := by assumption) : CTm l D yX0_findExtents cX0_findExtents 3 none (rmL 4 0 0) [.ref a] w (fun v w1 => v = none ∧ (∃ f, NtT D w1 τ r a c o e d x fc fo fr fd f ∧ ∀ j, j < 12 → f j = eRnd fc fo fd fx 6 j) ∧ offR τ w w1 r (r + 6)) := by
  refine CTm_of hl false rfl (by rfl) (Nat.le_of_ble_eq_true rfl) (fun h => nomatch h) ?_
  intro G C
  show G 0 0 w [some (.ref a), none, none] 0 []
  refine i_iconst C dX0_findExtents_0 (kk := ?_)
  refine i_istore_n C dX0_findExtents_1 (kk := ?_)
  have lp2 : ∀ (n k : Nat) (w1 : wW) (f : Nat → Nat) (o9 : Option Value), 7 ≤ n + k → k ≤ 6 → NtT D w1 τ r a c o e d x fc fo fr fd f → (∀ i, i < 12 → f i = eRnd fc fo fd fx k i) → offR τ w w1 r (r + 6) → G 0 0 w1 [some (.ref a), some (.int (Z32 (k : Int))), o9] 2 [] := by
    intro n
    induction n with
    | zero => intro k w1 f o9 h1 h2; omega
    | succ n ihk =>
    intro k w1 f o9 h1 h2 kN ke kO
    refine i_iload_n C dX0_findExtents_2 (kk := ?_)
    refine i_iconst C dX0_findExtents_3 (kk := ?_)
    refine i_icmp_gt C dX0_findExtents_4 (tgt := 49) (kt := fun hB4 => ?_) (kf := fun hB4 => ?_)
    · exact i_vret C (d := dX0_findExtents_49) (h := ⟨rfl, ⟨f, kN, fun j hj => by rw [← show k = 6 by omega]; exact ke j hj⟩, kO⟩)
    · refine i_iconst C dX0_findExtents_7 (kk := ?_)
      refine i_istore_n C dX0_findExtents_8 (kk := ?_)
      have lp3 : ∀ (n j : Nat) (w1 : wW) (f : Nat → Nat), 13 ≤ n + j → j ≤ 12 → NtT D w1 τ r a c o e d x fc fo fr fd f → (∀ i, i < 12 → f i = eRow fc fo fd (eRnd fc fo fd fx k) k j i) → offR τ w w1 r (r + 6) → G 0 0 w1 [some (.ref a), some (.int (Z32 (k : Int))), some (.int (Z32 (j : Int)))] 9 [] := by
        intro n
        induction n with
        | zero => intro j w1 f h1 h2; omega
        | succ n ihj =>
        intro j w1 f h1 h2 kN ke kO
        refine i_iload_n C dX0_findExtents_9 (kk := ?_)
        refine i_bipush C dX0_findExtents_10 (kk := ?_)
        refine i_icmp_ge C dX0_findExtents_12 (tgt := 43) (kt := fun hB12 => ?_) (kf := fun hB12 => ?_)
        · refine i_iinc C dX0_findExtents_43 (kk := ?_)
          refine i_goto C dX0_findExtents_46 (tgt := 2) (kk := ?_)
          exact ihk (k + 1) _ _ _ (by omega) (by omega) kN (fun i hi => (ke i hi).trans (by rw [show j = 12 by omega]; rfl)) kO
        · refine i_aload_n C dX0_findExtents_15 (kk := ?_)
          refine i_iload_n C dX0_findExtents_16 (kk := ?_)
          refine i_callV C lk_X0_62 (c_X0_depthOf l hl D (hN := kN)) (hcl := rfl) (hst := rfl) dX0_findExtents_17 (hw := kN.2.2.2.2.2.2.1) (kk := fun v17 w17 g17 => ?_)
          obtain ⟨rfl, q17⟩ := g17
          have q17 := q17.symm
          subst q17
          have e4 := kN.2.2.2.2.2.2.2.2.2.2.2.2.2.2.2.1 j
          refine i_iload_n C dX0_findExtents_20 (kk := ?_)
          refine i_icmp_ne C dX0_findExtents_21 (tgt := 37) (kt := fun hB21 => ?_) (kf := fun hB21 => ?_)
          · have e9 : eRow fc fo fd (eRnd fc fo fd fx k) k (j + 1) = eRow fc fo fd (eRnd fc fo fd fx k) k j := if_neg (by omega)
            refine i_iinc C dX0_findExtents_37 (kk := ?_)
            refine i_goto C dX0_findExtents_40 (tgt := 9) (kk := ?_)
            first | exact ihj (j + 1) _ _ (by omega) (by omega) kN (by rw [e9]; exact ke) kO | exact ihj (j + 1) _ _ (by omega) (by omega) kN2 (by rw [e9, eOC_cong ke 12 (by omega)]; exact upz_agree ke) (kO.put (by have := kN.2.2.2.2.2.1; omega) (by have := kN.2.2.2.2.2.1; omega))
          · have e9 : eRow fc fo fd (eRnd fc fo fd fx k) k (j + 1) = upz (eRow fc fo fd (eRnd fc fo fd fx k) k j) j (min (eOC fc fo (eRow fc fo fd (eRnd fc fo fd fx k) k j) j 12) 101) := if_pos (by omega)
            refine i_aload_n C dX0_findExtents_24 (kk := ?_)
            refine i_getf C f_X0_24 dX0_findExtents_25 (hw := kN.2.2.2.2.2.2.1) (kk := ?_)
            refine i_iload_n C dX0_findExtents_28 (kk := ?_)
            refine i_aload_n C dX0_findExtents_29 (kk := ?_)
            refine i_iload_n C dX0_findExtents_30 (kk := ?_)
            refine i_callV C lk_X0_70 (c_X0_extentOverCalled l hl D (hN := kN)) (hcl := rfl) (hst := rfl) dX0_findExtents_31 (hw := kN.2.2.2.2.2.2.1) (kk := fun v31 w31 g31 => ?_)
            obtain ⟨rfl, q31⟩ := g31
            have q31 := q31.symm
            subst q31
            refine i_callSN C lk_X0_31 (c_X6_put l hl D (hw := kN.2.2.2.2.2.2.2.2.2.2.2.1)) (hst := rfl) dX0_findExtents_34 (kk := fun v34 w34 g34 => ?_)
            obtain ⟨rfl, rfl⟩ := g34
            rw [putz_nat (by omega), cz_up]
            have kN2 := kN.setX j (min (eOC fc fo f j 12) 101) (by omega)
            refine i_iinc C dX0_findExtents_37 (kk := ?_)
            refine i_goto C dX0_findExtents_40 (tgt := 9) (kk := ?_)
            first | exact ihj (j + 1) _ _ (by omega) (by omega) kN (by rw [e9]; exact ke) kO | exact ihj (j + 1) _ _ (by omega) (by omega) kN2 (by rw [e9, eOC_cong ke 12 (by omega)]; exact upz_agree ke) (kO.put (by have := kN.2.2.2.2.2.1; omega) (by have := kN.2.2.2.2.2.1; omega))
      exact lp3 13 0 _ f (by omega) (by omega) kN ke kO
  exact lp2 7 0 w fx _ (by omega) (by omega) hN (fun i hi => rfl) offR.rf

set_option maxRecDepth 100000 in
set_option maxHeartbeats 4000000 in
theorem c_X0_takeCalls (l : Launch) (hl : l.stackTraces = false) (D : gD) {w : wW} {τ : Nat → Nat} {r a c o e d x r2 a2 c2 o2 e2 d2 x2 : Nat} {fc fo fr fd fx fc2 fo2 fr2 fd2 fx2 : Nat → Nat} (hN : NtT D w τ r a c o e d x fc fo fr fd fx := by assumption) (hM : NtT D w τ r2 a2 c2 o2 e2 d2 x2 fc2 fo2 fr2 fd2 fx2 := by assumption) (hr : r2 + 6 ≤ r ∨ r + 6 ≤ r2) : CTm l D yX0_takeCalls cX0_takeCalls 3 none (rmL 2 0 0) [.ref a, .ref a2] w (fun v w1 => v = none ∧ (∃ f g, NtT D w1 τ r a c o e d x f g fr fd fx ∧ (∀ j, j < 144 → f j = fc2 j) ∧ ∀ j, j < 12 → g j = fo2 j) ∧ offR τ w w1 r (r + 6)) := by
  refine CTm_of hl false rfl (by rfl) (Nat.le_of_ble_eq_true rfl) (fun h => nomatch h) ?_
  intro G C
  show G 0 0 w [some (.ref a), some (.ref a2), none] 0 []
  refine i_iconst C dX0_takeCalls_0 (kk := ?_)
  refine i_istore_n C dX0_takeCalls_1 (kk := ?_)
  have lp1 : ∀ (n j : Nat) (w1 : wW) (f : Nat → Nat), 145 ≤ n + j → j ≤ 144 → NtT D w1 τ r a c o e d x f fo fr fd fx → (∀ i, i < j → f i = fc2 i) → offR τ w w1 r (r + 6) → G 0 0 w1 [some (.ref a), some (.ref a2), some (.int (Z32 (j : Int)))] 2 [] := by
    intro n
    induction n with
    | zero => intro j w1 f h1 h2; omega
    | succ n ih =>
    intro j w1 f h1 h2 kN ke kO
    have kM := hM.off kO (by omega)
    refine i_iload_n C dX0_takeCalls_2 (kk := ?_)
    refine i_aload_n C dX0_takeCalls_3 (kk := ?_)
    refine i_getf C f_X0_9 dX0_takeCalls_4 (hw := kN.2.2.2.2.2.2.1) (kk := ?_)
    refine i_alen C dX0_takeCalls_7 (hw := kN.2.2.2.2.2.2.2.1) (kk := ?_)
    refine i_icmp_ge C dX0_takeCalls_8 (tgt := 31) (kt := fun hB8 => ?_) (kf := fun hB8 => ?_)
    · refine i_iconst C dX0_takeCalls_31 (kk := ?_)
      refine i_istore_n C dX0_takeCalls_32 (kk := ?_)
      have kf : ∀ i, i < 144 → f i = fc2 i := fun i hi => ke i (by omega)
      clear ke
      have lp2 : ∀ (n j : Nat) (w1 : wW) (g : Nat → Nat), 13 ≤ n + j → j ≤ 12 → NtT D w1 τ r a c o e d x f g fr fd fx → (∀ i, i < j → g i = fo2 i) → offR τ w w1 r (r + 6) → G 0 0 w1 [some (.ref a), some (.ref a2), some (.int (Z32 (j : Int)))] 33 [] := by
        intro n
        induction n with
        | zero => intro j w1 g h1 h2; omega
        | succ n ih =>
        intro j w1 g h1 h2 kN ke kO
        have kM := hM.off kO (by omega)
        refine i_iload_n C dX0_takeCalls_33 (kk := ?_)
        refine i_bipush C dX0_takeCalls_34 (kk := ?_)
        refine i_icmp_ge C dX0_takeCalls_36 (tgt := 61) (kt := fun hB36 => ?_) (kf := fun hB36 => ?_)
        · exact i_vret C (d := dX0_takeCalls_61) (h := ⟨rfl, ⟨f, g, kN, kf, fun i hi => ke i (by omega)⟩, kO⟩)
        · refine i_aload_n C dX0_takeCalls_39 (kk := ?_)
          refine i_getf C f_X0_15 dX0_takeCalls_40 (hw := kN.2.2.2.2.2.2.1) (kk := ?_)
          refine i_iload_n C dX0_takeCalls_43 (kk := ?_)
          refine i_aload_n C dX0_takeCalls_44 (kk := ?_)
          refine i_getf C f_X0_15 dX0_takeCalls_45 (hw := kM.2.2.2.2.2.2.1) (kk := ?_)
          refine i_iload_n C dX0_takeCalls_48 (kk := ?_)
          refine i_callSN C lk_X0_27 (c_X6_at l hl D (hw := kM.2.2.2.2.2.2.2.2.1)) (hst := rfl) dX0_takeCalls_49 (kk := fun v49 w49 g49 => ?_)
          obtain ⟨rfl, q49⟩ := g49
          have q49 := q49.symm
          subst q49
          rw [atz_nat (by omega), cz_at]
          have eb := kM.2.2.2.2.2.2.2.2.2.2.2.2.2.1 j
          refine i_callSN C lk_X0_31 (c_X6_put l hl D (hw := kN.2.2.2.2.2.2.2.2.1)) (hst := rfl) dX0_takeCalls_52 (kk := fun v52 w52 g52 => ?_)
          obtain ⟨rfl, rfl⟩ := g52
          rw [putz_nat (by omega), cz_up]
          have kN2 := kN.setO j (fo2 j) eb
          refine i_iinc C dX0_takeCalls_55 (kk := ?_)
          refine i_goto C dX0_takeCalls_58 (tgt := 33) (kk := ?_)
          exact ih (j + 1) _ _ (by omega) (by omega) kN2 (fun i hi => by by_cases q : i = j; (subst q; exact upz_eq); (rw [upz_ne q]; exact ke i (by omega))) (kO.put (by have := kN.2.2.1; omega) (by have := kN.2.2.1; omega))
      exact lp2 13 0 _ fo (by omega) (by omega) kN (fun i hi => absurd hi (Nat.not_lt_zero i)) kO
    · refine i_aload_n C dX0_takeCalls_11 (kk := ?_)
      refine i_getf C f_X0_9 dX0_takeCalls_12 (hw := kN.2.2.2.2.2.2.1) (kk := ?_)
      refine i_iload_n C dX0_takeCalls_15 (kk := ?_)
      refine i_aload_n C dX0_takeCalls_16 (kk := ?_)
      refine i_getf C f_X0_9 dX0_takeCalls_17 (hw := kM.2.2.2.2.2.2.1) (kk := ?_)
      refine i_iload_n C dX0_takeCalls_20 (kk := ?_)
      refine i_callSN C lk_X0_27 (c_X6_at l hl D (hw := kM.2.2.2.2.2.2.2.1)) (hst := rfl) dX0_takeCalls_21 (kk := fun v21 w21 g21 => ?_)
      obtain ⟨rfl, q21⟩ := g21
      have q21 := q21.symm
      subst q21
      rw [atz_nat (by omega), cz_at]
      refine i_iastore C dX0_takeCalls_24 (hw := kN.2.2.2.2.2.2.2.1) (kk := ?_)
      rw [Int.toNat_natCast, cz_up]
      have kN2 := kN.setC j (fc2 j) (kM.2.2.2.2.2.2.2.2.2.2.2.2.1 j)
      refine i_iinc C dX0_takeCalls_25 (kk := ?_)
      refine i_goto C dX0_takeCalls_28 (tgt := 2) (kk := ?_)
      exact ih (j + 1) _ _ (by omega) (by omega) kN2 (fun i hi => by by_cases q : i = j; (subst q; exact upz_eq); (rw [upz_ne q]; exact ke i (by omega))) (kO.put (by have := kN.2.1; omega) (by have := kN.2.1; omega))
  exact lp1 145 0 w fc (by omega) (by omega) hN (fun i hi => absurd hi (Nat.not_lt_zero i)) offR.rf

set_option maxRecDepth 100000 in
set_option maxHeartbeats 4000000 in
theorem c_X0_findReached (l : Launch) (hl : l.stackTraces = false) (D : gD) {w : wW} {τ : Nat → Nat} {r a c o e d x : Nat} {fc fo fr fd fx : Nat → Nat} (hN : NtT D w τ r a c o e d x fc fo fr fd fx := by assumption) : CTm l D yX0_findReached cX0_findReached 4 none (rmL 3 0 0) [.ref a] w (fun v w1 => v = none ∧ (∃ f, NtT D w1 τ r a c o e d x fc fo f fd fx ∧ ∀ j, j < 12 → f j = wRnd (sRow fc fr 12) 12 j) ∧ offR τ w w1 r (r + 6)) := by
  refine CTm_of hl false rfl (by rfl) (Nat.le_of_ble_eq_true rfl) (fun h => nomatch h) ?_
  intro G C
  show G 0 0 w [some (.ref a), none, none, none] 0 []
  refine i_iconst C dX0_findReached_0 (kk := ?_)
  refine i_istore_n C dX0_findReached_1 (kk := ?_)
  have lp1 : ∀ (n j : Nat) (w1 : wW) (f : Nat → Nat) (o1 o2 : Option Value), 13 ≤ n + j → j ≤ 12 → NtT D w1 τ r a c o e d x fc fo f fd fx → (∀ i, i < 12 → f i = sRow fc fr j i) → offR τ w w1 r (r + 6) → G 0 0 w1 [some (.ref a), some (.int (Z32 (j : Int))), o1, o2] 2 [] := by
    intro n
    induction n with
    | zero => intro j w1 f o1 o2 h1 h2; omega
    | succ n ihj =>
    intro j w1 f o1 o2 h1 h2 kN ke kO
    refine i_iload_n C dX0_findReached_2 (kk := ?_)
    refine i_bipush C dX0_findReached_3 (kk := ?_)
    refine i_icmp_ge C dX0_findReached_5 (tgt := 58) (kt := fun hB5 => ?_) (kf := fun hB5 => ?_)
    · refine i_iconst C dX0_findReached_58 (kk := ?_)
      refine i_istore_n C dX0_findReached_59 (kk := ?_)
      have lp3 : ∀ (n k : Nat) (w1 : wW) (f : Nat → Nat) (o1 : Option Value), 13 ≤ n + k → k ≤ 12 → NtT D w1 τ r a c o e d x fc fo f fd fx → (∀ i, i < 12 → f i = wRnd (sRow fc fr 12) k i) → offR τ w w1 r (r + 6) → G 0 0 w1 [some (.ref a), some (.int (Z32 (k : Int))), o1, o2] 60 [] := by
        intro n
        induction n with
        | zero => intro k w1 f o1 h1 h2; omega
        | succ n ihk =>
        intro k w1 f o1 h1 h2 kN ke kO
        refine i_iload_n C dX0_findReached_60 (kk := ?_)
        refine i_bipush C dX0_findReached_61 (kk := ?_)
        refine i_icmp_ge C dX0_findReached_63 (tgt := 117) (kt := fun hB63 => ?_) (kf := fun hB63 => ?_)
        · exact i_vret C (d := dX0_findReached_117) (h := ⟨rfl, ⟨f, kN, fun j hj => by have e := ke j hj; rw [show k = 12 by omega] at e; exact e⟩, kO⟩)
        · refine i_iconst C dX0_findReached_66 (kk := ?_)
          refine i_istore_n C dX0_findReached_67 (kk := ?_)
          have lp4 : ∀ (n j : Nat) (w1 : wW) (f : Nat → Nat), 13 ≤ n + j → j ≤ 12 → NtT D w1 τ r a c o e d x fc fo f fd fx → (∀ i, i < 12 → f i = wRow (wRnd (sRow fc fr 12) k) k j i) → offR τ w w1 r (r + 6) → G 0 0 w1 [some (.ref a), some (.int (Z32 (k : Int))), some (.int (Z32 (j : Int))), o2] 68 [] := by
            intro n
            induction n with
            | zero => intro j w1 f h1 h2; omega
            | succ n ihj =>
            intro j w1 f h1 h2 kN ke kO
            refine i_iload_n C dX0_findReached_68 (kk := ?_)
            refine i_bipush C dX0_findReached_69 (kk := ?_)
            refine i_icmp_ge C dX0_findReached_71 (tgt := 111) (kt := fun hB71 => ?_) (kf := fun hB71 => ?_)
            · refine i_iinc C dX0_findReached_111 (kk := ?_)
              refine i_goto C dX0_findReached_114 (tgt := 60) (kk := ?_)
              exact ihk (k + 1) _ _ _ (by omega) (by omega) kN (fun i hi => (ke i hi).trans (by rw [show j = 12 by omega]; rfl)) kO
            · refine i_aload_n C dX0_findReached_74 (kk := ?_)
              refine i_iload_n C dX0_findReached_75 (kk := ?_)
              refine i_callV C lk_X0_52 (c_X0_reachedFrom l hl D (hN := kN)) (hcl := rfl) (hst := rfl) dX0_findReached_76 (hw := kN.2.2.2.2.2.2.1) (kk := fun v76 w76 g76 => ?_)
              obtain ⟨rfl, q76⟩ := g76
              have q76 := q76.symm
              subst q76
              refine i_iload_n C dX0_findReached_79 (kk := ?_)
              have e1 := kN.2.2.2.2.2.2.2.2.2.2.2.2.2.2.1 j
              have e2 := kN.2.2.2.2.2.2.2.2.2.2.2.2.2.2.1 k
              refine i_callSN C lk_X0_55 (c_X6_contains l hl D (s := f j) (p := k) (by omega) (by omega)) (hst := rfl) dX0_findReached_80 (kk := fun v80 w80 g80 => ?_)
              obtain ⟨rfl, q80⟩ := g80
              have q80 := q80.symm
              subst q80
              refine i_if_eq C dX0_findReached_83 (tgt := 105) (ha := by split <;> decide) (kt := fun hB83 => ?_) (kf := fun hB83 => ?_)
              · have e8 : ¬ (f j).testBit k = true := by intro q; rw [if_pos q] at hB83; cases hB83
                have e9 : wRow (wRnd (sRow fc fr 12) k) k (j + 1) = wRow (wRnd (sRow fc fr 12) k) k j := if_neg (by rw [← ke j (by omega)]; exact e8)
                refine i_iinc C dX0_findReached_105 (kk := ?_)
                refine i_goto C dX0_findReached_108 (tgt := 68) (kk := ?_)
                first | exact ihj (j + 1) _ _ (by omega) (by omega) kN (by rw [e9]; exact ke) kO | exact ihj (j + 1) _ _ (by omega) (by omega) kN2 (by rw [e9, ← ke j (by omega), ← ke k (by omega)]; exact upz_agree ke) (kO.put (by have := kN.2.2.2.1; omega) (by have := kN.2.2.2.1; omega))
              · have e8 : (f j).testBit k = true := by apply Decidable.byContradiction; intro q; rw [if_neg q] at hB83; exact hB83 rfl
                have e9 : wRow (wRnd (sRow fc fr 12) k) k (j + 1) = upz (wRow (wRnd (sRow fc fr 12) k) k j) j (wRow (wRnd (sRow fc fr 12) k) k j j ||| wRow (wRnd (sRow fc fr 12) k) k j k) := if_pos (by rw [← ke j (by omega)]; exact e8)
                refine i_aload_n C dX0_findReached_86 (kk := ?_)
                refine i_getf C f_X0_18 dX0_findReached_87 (hw := kN.2.2.2.2.2.2.1) (kk := ?_)
                refine i_iload_n C dX0_findReached_90 (kk := ?_)
                refine i_aload_n C dX0_findReached_91 (kk := ?_)
                refine i_iload_n C dX0_findReached_92 (kk := ?_)
                refine i_callV C lk_X0_52 (c_X0_reachedFrom l hl D (hN := kN)) (hcl := rfl) (hst := rfl) dX0_findReached_93 (hw := kN.2.2.2.2.2.2.1) (kk := fun v93 w93 g93 => ?_)
                obtain ⟨rfl, q93⟩ := g93
                have q93 := q93.symm
                subst q93
                refine i_aload_n C dX0_findReached_96 (kk := ?_)
                refine i_iload_n C dX0_findReached_97 (kk := ?_)
                refine i_callV C lk_X0_52 (c_X0_reachedFrom l hl D (hN := kN) (p := k)) (hcl := rfl) (hst := rfl) dX0_findReached_98 (hw := kN.2.2.2.2.2.2.1) (kk := fun v98 w98 g98 => ?_)
                obtain ⟨rfl, q98⟩ := g98
                have q98 := q98.symm
                subst q98
                refine i_ior C dX0_findReached_101 (hz := Z32_or (f j) (f k)) (kk := ?_)
                have e4 : f j ||| f k < 2 ^ 12 := Nat.or_lt_two_pow e1 e2
                refine i_callSN C lk_X0_31 (c_X6_put l hl D (hw := kN.2.2.2.2.2.2.2.2.2.1) (hi := by omega)) (hst := rfl) dX0_findReached_102 (kk := fun v102 w102 g102 => ?_)
                obtain ⟨rfl, rfl⟩ := g102
                rw [putz_nat (by omega), cz_up]
                have kN2 := kN.setR j (f j ||| f k) (by omega)
                refine i_iinc C dX0_findReached_105 (kk := ?_)
                refine i_goto C dX0_findReached_108 (tgt := 68) (kk := ?_)
                first | exact ihj (j + 1) _ _ (by omega) (by omega) kN (by rw [e9]; exact ke) kO | exact ihj (j + 1) _ _ (by omega) (by omega) kN2 (by rw [e9, ← ke j (by omega), ← ke k (by omega)]; exact upz_agree ke) (kO.put (by have := kN.2.2.2.1; omega) (by have := kN.2.2.2.1; omega))
          exact lp4 13 0 _ f (by omega) (by omega) kN ke kO
      exact lp3 13 0 _ f _ (by omega) (by omega) kN (fun i hi => (ke i hi).trans (by rw [show j = 12 by omega]; rfl)) kO
    · refine i_iconst C dX0_findReached_8 (kk := ?_)
      refine i_istore_n C dX0_findReached_9 (kk := ?_)
      refine i_iconst C dX0_findReached_10 (kk := ?_)
      refine i_istore_n C dX0_findReached_11 (kk := ?_)
      have lp2 : ∀ (n q : Nat), 13 ≤ n + q → q ≤ 12 → G 0 0 w1 [some (.ref a), some (.int (Z32 (j : Int))), some (.int (Z32 (sE fc j q : Int))), some (.int (Z32 (q : Int)))] 12 [] := by
        intro n
        induction n with
        | zero => intro q h1 h2; omega
        | succ n ihq =>
        intro q h1 h2
        refine i_iload_n C dX0_findReached_12 (kk := ?_)
        refine i_bipush C dX0_findReached_13 (kk := ?_)
        refine i_icmp_ge C dX0_findReached_15 (tgt := 43) (kt := fun hB15 => ?_) (kf := fun hB15 => ?_)
        · refine i_aload_n C dX0_findReached_43 (kk := ?_)
          refine i_getf C f_X0_18 dX0_findReached_44 (hw := kN.2.2.2.2.2.2.1) (kk := ?_)
          refine i_iload_n C dX0_findReached_47 (kk := ?_)
          refine i_iload_n C dX0_findReached_48 (kk := ?_)
          have e12 : q = 12 := by omega
          subst e12
          have e4 := sE_lt (fc := fc) (p := j) 12
          refine i_callSN C lk_X0_31 (c_X6_put l hl D (hw := kN.2.2.2.2.2.2.2.2.2.1) (hi := by omega)) (hst := rfl) dX0_findReached_49 (kk := fun v49 w49 g49 => ?_)
          obtain ⟨rfl, rfl⟩ := g49
          rw [putz_nat (by omega), cz_up]
          have kN2 := kN.setR j (sE fc j 12) (by omega)
          refine i_iinc C dX0_findReached_52 (kk := ?_)
          refine i_goto C dX0_findReached_55 (tgt := 2) (kk := ?_)
          exact ihj (j + 1) _ _ _ _ (by omega) (by omega) kN2 (upz_agree ke) (kO.put (by have := kN.2.2.2.1; omega) (by have := kN.2.2.2.1; omega))
        · refine i_iload_n C dX0_findReached_18 (kk := ?_)
          refine i_aload_n C dX0_findReached_19 (kk := ?_)
          refine i_iload_n C dX0_findReached_20 (kk := ?_)
          refine i_iload_n C dX0_findReached_21 (kk := ?_)
          refine i_callV C lk_X0_48 (c_X0_callsOf l hl D (hN := kN) (p := j) (q := q)) (hcl := rfl) (hst := rfl) dX0_findReached_22 (hw := kN.2.2.2.2.2.2.1) (kk := fun v22 w22 g22 => ?_)
          obtain ⟨rfl, q22⟩ := g22
          have q22 := q22.symm
          subst q22
          have e1 := kN.2.2.2.2.2.2.2.2.2.2.2.2.1 (12 * j + q)
          refine i_if_le C dX0_findReached_25 (tgt := 34) (kt := fun hB25 => ?_) (kf := fun hB25 => ?_)
          · have e9 : sE fc j (q + 1) = sE fc j q ||| 0 := by show _ ||| _ = _; rw [if_neg (by omega)]
            refine i_iconst C dX0_findReached_34 (kk := ?_)
            refine i_ior C dX0_findReached_35 (hz := by first | exact Z32_or (sE fc j q) (2 ^ q) | exact Z32_or (sE fc j q) 0) (kk := ?_)
            rw [← e9]
            refine i_istore_n C dX0_findReached_36 (kk := ?_)
            refine i_iinc C dX0_findReached_37 (kk := ?_)
            refine i_goto C dX0_findReached_40 (tgt := 12) (kk := ?_)
            exact ihq (q + 1) (by omega) (by omega)
          · have e9 : sE fc j (q + 1) = sE fc j q ||| 2 ^ q := by show _ ||| _ = _; rw [if_pos (by omega)]
            refine i_iconst C dX0_findReached_28 (kk := ?_)
            refine i_iload_n C dX0_findReached_29 (kk := ?_)
            refine i_ishl C dX0_findReached_30 (hz := Z32_shl (by omega)) (kk := ?_)
            refine i_goto C dX0_findReached_31 (tgt := 35) (kk := ?_)
            refine i_ior C dX0_findReached_35 (hz := by first | exact Z32_or (sE fc j q) (2 ^ q) | exact Z32_or (sE fc j q) 0) (kk := ?_)
            rw [← e9]
            refine i_istore_n C dX0_findReached_36 (kk := ?_)
            refine i_iinc C dX0_findReached_37 (kk := ?_)
            refine i_goto C dX0_findReached_40 (tgt := 12) (kk := ?_)
            exact ihq (q + 1) (by omega) (by omega)
      exact lp2 13 0 (by omega) (by omega)
  exact lp1 13 0 w fr _ _ (by omega) (by omega) hN (fun i hi => rfl) offR.rf

set_option maxRecDepth 100000 in
set_option maxHeartbeats 4000000 in
theorem c_X0_setCalls (l : Launch) (hl : l.stackTraces = false) (D : gD) {w : wW} {τ : Nat → Nat} {r a c o e d x p r2 t ta tb tc : Nat} {fc fo fr fd fx : Nat → Nat} {ps : List Pc3} (hN : NtT D w τ r a c o e d x fc fo fr fd fx := by assumption) (hT : TxT D w τ r2 t ta tb tc ps := by assumption) (hr : r2 + 4 ≤ r ∨ r + 6 ≤ r2) (hp : p < 12 := by omega) : CTm l D yX0_setCalls cX0_setCalls 6 none (rmL 3 0 0) [.ref a, .int (Z32 (p : Int)), .ref t] w (fun v w1 => v = none ∧ (∃ f g, NtT D w1 τ r a c o e d x f g fr fd fx ∧ (∀ m, m < 144 → f m = if 12 * p ≤ m ∧ m < 12 * p + 12 then ccn (m - 12 * p) ps else fc m) ∧ ∀ j, j < 12 → g j = if j = p then oxn ps else fo j) ∧ offR τ w w1 r (r + 6)) := by
  refine CTm_of hl false rfl (by rfl) (Nat.le_of_ble_eq_true rfl) (fun h => nomatch h) ?_
  intro G C
  show G 0 0 w [some (.ref a), some (.int (Z32 (p : Int))), some (.ref t), none, none, none] 0 []
  refine i_iconst C dX0_setCalls_0 (kk := ?_)
  refine i_istore_n C dX0_setCalls_1 (kk := ?_)
  have lp1 : ∀ (n j : Nat) (w1 : wW) (f : Nat → Nat), 13 ≤ n + j → j ≤ 12 → NtT D w1 τ r a c o e d x f fo fr fd fx → (∀ m, m < 144 → f m = if 12 * p ≤ m ∧ m < 12 * p + j then 0 else fc m) → offR τ w w1 r (r + 6) → G 0 0 w1 [some (.ref a), some (.int (Z32 (p : Int))), some (.ref t), some (.int (Z32 (j : Int))), none, none] 2 [] := by
    intro n
    induction n with
    | zero => intro j w1 f h1 h2; omega
    | succ n ih =>
    intro j w1 f h1 h2 kN ke kO
    refine i_iload_n C dX0_setCalls_2 (kk := ?_)
    refine i_bipush C dX0_setCalls_3 (kk := ?_)
    refine i_icmp_ge C dX0_setCalls_5 (tgt := 28) (kt := fun hB5 => ?_) (kf := fun hB5 => ?_)
    · refine i_iconst C dX0_setCalls_28 (kk := ?_)
      refine i_istore_n C dX0_setCalls_29 (kk := ?_)
      refine i_iconst C dX0_setCalls_30 (kk := ?_)
      refine i_istore C dX0_setCalls_31 (kk := ?_)
      have h30 := hT.2.2.2.2.2.1
      have lp2 : ∀ (n i : Nat) (w1 : wW) (f : Nat → Nat) (o9 : Option Value), ps.length + 1 ≤ n + i → i ≤ ps.length → NtT D w1 τ r a c o e d x f fo fr fd fx → (∀ m, m < 144 → f m = if 12 * p ≤ m ∧ m < 12 * p + 12 then ccn (m - 12 * p) (ps.take i) else fc m) → offR τ w w1 r (r + 6) → G 0 0 w1 [some (.ref a), some (.int (Z32 (p : Int))), some (.ref t), some (.int (Z32 (oxn (ps.take i) : Int))), some (.int (Z32 (i : Int))), o9] 33 [] := by
        intro n
        induction n with
        | zero => intro i w1 f o9 h1 h2; omega
        | succ n ihi =>
        intro i w1 f o9 h1 h2 kN ke kO
        have kT := hT.off kO (by omega)
        refine i_iload C dX0_setCalls_33 (kk := ?_)
        refine i_aload_n C dX0_setCalls_35 (kk := ?_)
        refine i_getf C f_X0_35 dX0_setCalls_36 (hw := kT.2.2.2.2.1) (kk := ?_)
        refine i_icmp_ge C dX0_setCalls_39 (tgt := 134) (kt := fun hB39 => ?_) (kf := fun hB39 => ?_)
        · refine i_aload_n C dX0_setCalls_134 (kk := ?_)
          refine i_getf C f_X0_15 dX0_setCalls_135 (hw := kN.2.2.2.2.2.2.1) (kk := ?_)
          refine i_iload_n C dX0_setCalls_138 (kk := ?_)
          refine i_iload_n C dX0_setCalls_139 (kk := ?_)
          have e6 := oxn_takele ps i
          refine i_callSN C lk_X0_31 (c_X6_put l hl D (hw := kN.2.2.2.2.2.2.2.2.1)) (hst := rfl) dX0_setCalls_140 (kk := fun v140 w140 g140 => ?_)
          obtain ⟨rfl, rfl⟩ := g140
          rw [putz_nat (by omega), cz_up]
          have kN2 := kN.setO p (oxn (ps.take i)) (by omega)
          exact i_vret C (d := dX0_setCalls_143) (h := ⟨rfl, ⟨f, _, kN2, fun m hm => by rw [ke m hm, List.take_of_length_le (by omega)], fun j hj => by rw [List.take_of_length_le (by omega)]; rfl⟩, (kO.put (by have := kN.2.2.1; omega) (by have := kN.2.2.1; omega))⟩)
        · refine i_aload_n C dX0_setCalls_42 (kk := ?_)
          refine i_iload C dX0_setCalls_43 (kk := ?_)
          refine i_callV C lk_X0_41 (c_X3_sortOf l hl D (hT := kT) (i := i)) (hcl := rfl) (hst := rfl) dX0_setCalls_45 (hw := kT.2.2.2.2.1) (kk := fun v45 w45 g45 => ?_)
          obtain ⟨rfl, q45⟩ := g45
          have q45 := q45.symm
          subst q45
          have hv := kT.2.2.2.2.2.2.2.1 _ (pcs_mem (i := i) (by omega))
          have hvR := hv.R
          have e7 : (if (pcs ps i).1 < 4 then 1 else 0) + oxn (ps.take i) = oxn (ps.take (i + 1)) := by rw [oxn_take (by omega), Nat.add_comm]
          rcases (show (pcs ps i).1 = 0 ∨ (pcs ps i).1 = 1 ∨ (pcs ps i).1 = 2 ∨ (pcs ps i).1 = 3 ∨ (pcs ps i).1 = 4 ∨ (pcs ps i).1 = 5 ∨ (pcs ps i).1 = 6 ∨ (pcs ps i).1 = 7 ∨ (pcs ps i).1 = 8 by omega) with hs | hs | hs | hs | hs | hs | hs | hs | hs
          · rw [hs]
            refine i_tableIn C dX0_setCalls_48 (tgt := 122) (ha := by decide) (h1 := by decide) (h2 := by decide) (ho := rfl) (ht := by decide) (kk := ?_)
            refine i_iinc C dX0_setCalls_122 (kk := ?_)
            refine i_goto C dX0_setCalls_125 (tgt := 128) (kk := ?_)
            refine i_iinc C dX0_setCalls_128 (kk := ?_)
            refine i_goto C dX0_setCalls_131 (tgt := 33) (kk := ?_)
            first
              | (have e5 : oxn (ps.take (i + 1)) = oxn (ps.take i) := by (have z := oxn_take (ps := ps) (i := i) (by omega); rw [if_neg (by omega)] at z; omega)
                 have e2 : upz f (12 * p + q) (f (12 * p + q) + 1) = upz f (12 * p + q) (ccn q (ps.take (i + 1))) := by rw [e11, ccn_take q (by omega), if_pos ⟨by omega, hq⟩]
                 rw [e2] at kN2
                 rw [e2, ← e5]
                 refine ihi (i + 1) _ _ _ (by omega) (by omega) kN2 (fun m hm => ?_) (kO.put (by have := kN.2.1; omega) (by have := kN.2.1; omega))
                 by_cases z : m = 12 * p + q
                 · subst z; rw [upz_eq, if_pos ⟨by omega, by omega⟩, show 12 * p + q - 12 * p = q by omega]
                 · rw [upz_ne z, ke m hm]
                   by_cases z2 : 12 * p ≤ m ∧ m < 12 * p + 12
                   · (have y := ccn_take (ps := ps) (i := i) (m - 12 * p) (by omega); rw [if_neg (by omega)] at y; rw [if_pos z2, if_pos z2]; omega)
                   · rw [if_neg z2, if_neg z2])
              | (have e1 : ∀ z, ccn z (ps.take (i + 1)) = ccn z (ps.take i) := fun z => by (have y := ccn_take (ps := ps) (i := i) z (by omega); rw [if_neg (by omega)] at y; omega)
                 have e5 : ((oxn (ps.take i) : Int) + 1 = (oxn (ps.take (i + 1)) : Int) ∧ (pcs ps i).1 < 4) ∨ (oxn (ps.take i) = oxn (ps.take (i + 1)) ∧ ¬ (pcs ps i).1 < 4) := by
                   rw [oxn_take (by omega)]
                   by_cases z : (pcs ps i).1 < 4
                   · rw [if_pos z]; omega
                   · rw [if_neg z]; omega
                 first
                 | (rw [show (oxn (ps.take i) : Int) + 1 = (oxn (ps.take (i + 1)) : Int) by omega]
                    exact ihi (i + 1) _ _ _ (by omega) (by omega) kN (fun m hm => by rw [e1]; exact ke m hm) kO)
                 | (rw [show oxn (ps.take i) = oxn (ps.take (i + 1)) by omega]
                    exact ihi (i + 1) _ _ _ (by omega) (by omega) kN (fun m hm => by rw [e1]; exact ke m hm) kO))
          · rw [hs]
            refine i_tableIn C dX0_setCalls_48 (tgt := 122) (ha := by decide) (h1 := by decide) (h2 := by decide) (ho := rfl) (ht := by decide) (kk := ?_)
            refine i_iinc C dX0_setCalls_122 (kk := ?_)
            refine i_goto C dX0_setCalls_125 (tgt := 128) (kk := ?_)
            refine i_iinc C dX0_setCalls_128 (kk := ?_)
            refine i_goto C dX0_setCalls_131 (tgt := 33) (kk := ?_)
            first
              | (have e5 : oxn (ps.take (i + 1)) = oxn (ps.take i) := by (have z := oxn_take (ps := ps) (i := i) (by omega); rw [if_neg (by omega)] at z; omega)
                 have e2 : upz f (12 * p + q) (f (12 * p + q) + 1) = upz f (12 * p + q) (ccn q (ps.take (i + 1))) := by rw [e11, ccn_take q (by omega), if_pos ⟨by omega, hq⟩]
                 rw [e2] at kN2
                 rw [e2, ← e5]
                 refine ihi (i + 1) _ _ _ (by omega) (by omega) kN2 (fun m hm => ?_) (kO.put (by have := kN.2.1; omega) (by have := kN.2.1; omega))
                 by_cases z : m = 12 * p + q
                 · subst z; rw [upz_eq, if_pos ⟨by omega, by omega⟩, show 12 * p + q - 12 * p = q by omega]
                 · rw [upz_ne z, ke m hm]
                   by_cases z2 : 12 * p ≤ m ∧ m < 12 * p + 12
                   · (have y := ccn_take (ps := ps) (i := i) (m - 12 * p) (by omega); rw [if_neg (by omega)] at y; rw [if_pos z2, if_pos z2]; omega)
                   · rw [if_neg z2, if_neg z2])
              | (have e1 : ∀ z, ccn z (ps.take (i + 1)) = ccn z (ps.take i) := fun z => by (have y := ccn_take (ps := ps) (i := i) z (by omega); rw [if_neg (by omega)] at y; omega)
                 have e5 : ((oxn (ps.take i) : Int) + 1 = (oxn (ps.take (i + 1)) : Int) ∧ (pcs ps i).1 < 4) ∨ (oxn (ps.take i) = oxn (ps.take (i + 1)) ∧ ¬ (pcs ps i).1 < 4) := by
                   rw [oxn_take (by omega)]
                   by_cases z : (pcs ps i).1 < 4
                   · rw [if_pos z]; omega
                   · rw [if_neg z]; omega
                 first
                 | (rw [show (oxn (ps.take i) : Int) + 1 = (oxn (ps.take (i + 1)) : Int) by omega]
                    exact ihi (i + 1) _ _ _ (by omega) (by omega) kN (fun m hm => by rw [e1]; exact ke m hm) kO)
                 | (rw [show oxn (ps.take i) = oxn (ps.take (i + 1)) by omega]
                    exact ihi (i + 1) _ _ _ (by omega) (by omega) kN (fun m hm => by rw [e1]; exact ke m hm) kO))
          · rw [hs]
            refine i_tableIn C dX0_setCalls_48 (tgt := 122) (ha := by decide) (h1 := by decide) (h2 := by decide) (ho := rfl) (ht := by decide) (kk := ?_)
            refine i_iinc C dX0_setCalls_122 (kk := ?_)
            refine i_goto C dX0_setCalls_125 (tgt := 128) (kk := ?_)
            refine i_iinc C dX0_setCalls_128 (kk := ?_)
            refine i_goto C dX0_setCalls_131 (tgt := 33) (kk := ?_)
            first
              | (have e5 : oxn (ps.take (i + 1)) = oxn (ps.take i) := by (have z := oxn_take (ps := ps) (i := i) (by omega); rw [if_neg (by omega)] at z; omega)
                 have e2 : upz f (12 * p + q) (f (12 * p + q) + 1) = upz f (12 * p + q) (ccn q (ps.take (i + 1))) := by rw [e11, ccn_take q (by omega), if_pos ⟨by omega, hq⟩]
                 rw [e2] at kN2
                 rw [e2, ← e5]
                 refine ihi (i + 1) _ _ _ (by omega) (by omega) kN2 (fun m hm => ?_) (kO.put (by have := kN.2.1; omega) (by have := kN.2.1; omega))
                 by_cases z : m = 12 * p + q
                 · subst z; rw [upz_eq, if_pos ⟨by omega, by omega⟩, show 12 * p + q - 12 * p = q by omega]
                 · rw [upz_ne z, ke m hm]
                   by_cases z2 : 12 * p ≤ m ∧ m < 12 * p + 12
                   · (have y := ccn_take (ps := ps) (i := i) (m - 12 * p) (by omega); rw [if_neg (by omega)] at y; rw [if_pos z2, if_pos z2]; omega)
                   · rw [if_neg z2, if_neg z2])
              | (have e1 : ∀ z, ccn z (ps.take (i + 1)) = ccn z (ps.take i) := fun z => by (have y := ccn_take (ps := ps) (i := i) z (by omega); rw [if_neg (by omega)] at y; omega)
                 have e5 : ((oxn (ps.take i) : Int) + 1 = (oxn (ps.take (i + 1)) : Int) ∧ (pcs ps i).1 < 4) ∨ (oxn (ps.take i) = oxn (ps.take (i + 1)) ∧ ¬ (pcs ps i).1 < 4) := by
                   rw [oxn_take (by omega)]
                   by_cases z : (pcs ps i).1 < 4
                   · rw [if_pos z]; omega
                   · rw [if_neg z]; omega
                 first
                 | (rw [show (oxn (ps.take i) : Int) + 1 = (oxn (ps.take (i + 1)) : Int) by omega]
                    exact ihi (i + 1) _ _ _ (by omega) (by omega) kN (fun m hm => by rw [e1]; exact ke m hm) kO)
                 | (rw [show oxn (ps.take i) = oxn (ps.take (i + 1)) by omega]
                    exact ihi (i + 1) _ _ _ (by omega) (by omega) kN (fun m hm => by rw [e1]; exact ke m hm) kO))
          · rw [hs]
            refine i_tableIn C dX0_setCalls_48 (tgt := 122) (ha := by decide) (h1 := by decide) (h2 := by decide) (ho := rfl) (ht := by decide) (kk := ?_)
            refine i_iinc C dX0_setCalls_122 (kk := ?_)
            refine i_goto C dX0_setCalls_125 (tgt := 128) (kk := ?_)
            refine i_iinc C dX0_setCalls_128 (kk := ?_)
            refine i_goto C dX0_setCalls_131 (tgt := 33) (kk := ?_)
            first
              | (have e5 : oxn (ps.take (i + 1)) = oxn (ps.take i) := by (have z := oxn_take (ps := ps) (i := i) (by omega); rw [if_neg (by omega)] at z; omega)
                 have e2 : upz f (12 * p + q) (f (12 * p + q) + 1) = upz f (12 * p + q) (ccn q (ps.take (i + 1))) := by rw [e11, ccn_take q (by omega), if_pos ⟨by omega, hq⟩]
                 rw [e2] at kN2
                 rw [e2, ← e5]
                 refine ihi (i + 1) _ _ _ (by omega) (by omega) kN2 (fun m hm => ?_) (kO.put (by have := kN.2.1; omega) (by have := kN.2.1; omega))
                 by_cases z : m = 12 * p + q
                 · subst z; rw [upz_eq, if_pos ⟨by omega, by omega⟩, show 12 * p + q - 12 * p = q by omega]
                 · rw [upz_ne z, ke m hm]
                   by_cases z2 : 12 * p ≤ m ∧ m < 12 * p + 12
                   · (have y := ccn_take (ps := ps) (i := i) (m - 12 * p) (by omega); rw [if_neg (by omega)] at y; rw [if_pos z2, if_pos z2]; omega)
                   · rw [if_neg z2, if_neg z2])
              | (have e1 : ∀ z, ccn z (ps.take (i + 1)) = ccn z (ps.take i) := fun z => by (have y := ccn_take (ps := ps) (i := i) z (by omega); rw [if_neg (by omega)] at y; omega)
                 have e5 : ((oxn (ps.take i) : Int) + 1 = (oxn (ps.take (i + 1)) : Int) ∧ (pcs ps i).1 < 4) ∨ (oxn (ps.take i) = oxn (ps.take (i + 1)) ∧ ¬ (pcs ps i).1 < 4) := by
                   rw [oxn_take (by omega)]
                   by_cases z : (pcs ps i).1 < 4
                   · rw [if_pos z]; omega
                   · rw [if_neg z]; omega
                 first
                 | (rw [show (oxn (ps.take i) : Int) + 1 = (oxn (ps.take (i + 1)) : Int) by omega]
                    exact ihi (i + 1) _ _ _ (by omega) (by omega) kN (fun m hm => by rw [e1]; exact ke m hm) kO)
                 | (rw [show oxn (ps.take i) = oxn (ps.take (i + 1)) by omega]
                    exact ihi (i + 1) _ _ _ (by omega) (by omega) kN (fun m hm => by rw [e1]; exact ke m hm) kO))
          · rw [hs]
            refine i_tableIn C dX0_setCalls_48 (tgt := 88) (ha := by decide) (h1 := by decide) (h2 := by decide) (ho := rfl) (ht := by decide) (kk := ?_)
            refine i_aload_n C dX0_setCalls_88 (kk := ?_)
            refine i_iload C dX0_setCalls_89 (kk := ?_)
            refine i_callV C lk_X0_45 (c_X3_pageOf l hl D (hT := kT) (i := i)) (hcl := rfl) (hst := rfl) dX0_setCalls_91 (hw := kT.2.2.2.2.1) (kk := fun v91 w91 g91 => ?_)
            obtain ⟨rfl, q91⟩ := g91
            have q91 := q91.symm
            subst q91
            obtain ⟨q, hq⟩ : ∃ q : Nat, (pcs ps i).2.1 = q := ⟨(pcs ps i).2.1.toNat, by unfold PV at hv; omega⟩
            have hq12 : q < 12 := by omega
            rw [hq]
            refine i_istore C dX0_setCalls_94 (kk := ?_)
            refine i_aload_n C dX0_setCalls_96 (kk := ?_)
            refine i_getf C f_X0_9 dX0_setCalls_97 (hw := kN.2.2.2.2.2.2.1) (kk := ?_)
            refine i_iload_n C dX0_setCalls_100 (kk := ?_)
            refine i_bipush C dX0_setCalls_101 (kk := ?_)
            refine i_imul C dX0_setCalls_103 (kk := ?_)
            refine i_iload C dX0_setCalls_104 (kk := ?_)
            refine i_iadd C dX0_setCalls_106 (kk := ?_)
            refine i_aload_n C dX0_setCalls_107 (kk := ?_)
            refine i_iload_n C dX0_setCalls_108 (kk := ?_)
            refine i_iload C dX0_setCalls_109 (kk := ?_)
            refine i_callV C lk_X0_48 (c_X0_callsOf l hl D (hN := kN) (p := p) (q := q)) (hcl := rfl) (hst := rfl) dX0_setCalls_111 (hw := kN.2.2.2.2.2.2.1) (kk := fun v111 w111 g111 => ?_)
            obtain ⟨rfl, q111⟩ := g111
            have q111 := q111.symm
            subst q111
            refine i_iconst C dX0_setCalls_114 (kk := ?_)
            refine i_iadd C dX0_setCalls_115 (kk := ?_)
            have e9 : (p : Int) * 12 + q = ((12 * p + q : Nat) : Int) := by omega
            have e10 : (f (12 * p + q) : Int) + 1 = ((f (12 * p + q) + 1 : Nat) : Int) := by omega
            rw [e9, e10]
            have e11 := ke (12 * p + q) (by omega)
            rw [if_pos ⟨by omega, by omega⟩, show 12 * p + q - 12 * p = q by omega] at e11
            have e12 := ccn_takele q ps i
            refine i_callSN C lk_X0_31 (c_X6_put l hl D (hw := kN.2.2.2.2.2.2.2.1) (hi := by omega)) (hst := rfl) dX0_setCalls_116 (kk := fun v116 w116 g116 => ?_)
            obtain ⟨rfl, rfl⟩ := g116
            rw [putz_nat (by omega), cz_up]
            have kN2 := kN.setC (12 * p + q) (f (12 * p + q) + 1) (by omega)
            refine i_goto C dX0_setCalls_119 (tgt := 128) (kk := ?_)
            refine i_iinc C dX0_setCalls_128 (kk := ?_)
            refine i_goto C dX0_setCalls_131 (tgt := 33) (kk := ?_)
            first
              | (have e5 : oxn (ps.take (i + 1)) = oxn (ps.take i) := by (have z := oxn_take (ps := ps) (i := i) (by omega); rw [if_neg (by omega)] at z; omega)
                 have e2 : upz f (12 * p + q) (f (12 * p + q) + 1) = upz f (12 * p + q) (ccn q (ps.take (i + 1))) := by rw [e11, ccn_take q (by omega), if_pos ⟨by omega, hq⟩]
                 rw [e2] at kN2
                 rw [e2, ← e5]
                 refine ihi (i + 1) _ _ _ (by omega) (by omega) kN2 (fun m hm => ?_) (kO.put (by have := kN.2.1; omega) (by have := kN.2.1; omega))
                 by_cases z : m = 12 * p + q
                 · subst z; rw [upz_eq, if_pos ⟨by omega, by omega⟩, show 12 * p + q - 12 * p = q by omega]
                 · rw [upz_ne z, ke m hm]
                   by_cases z2 : 12 * p ≤ m ∧ m < 12 * p + 12
                   · (have y := ccn_take (ps := ps) (i := i) (m - 12 * p) (by omega); rw [if_neg (by omega)] at y; rw [if_pos z2, if_pos z2]; omega)
                   · rw [if_neg z2, if_neg z2])
              | (have e1 : ∀ z, ccn z (ps.take (i + 1)) = ccn z (ps.take i) := fun z => by (have y := ccn_take (ps := ps) (i := i) z (by omega); rw [if_neg (by omega)] at y; omega)
                 have e5 : ((oxn (ps.take i) : Int) + 1 = (oxn (ps.take (i + 1)) : Int) ∧ (pcs ps i).1 < 4) ∨ (oxn (ps.take i) = oxn (ps.take (i + 1)) ∧ ¬ (pcs ps i).1 < 4) := by
                   rw [oxn_take (by omega)]
                   by_cases z : (pcs ps i).1 < 4
                   · rw [if_pos z]; omega
                   · rw [if_neg z]; omega
                 first
                 | (rw [show (oxn (ps.take i) : Int) + 1 = (oxn (ps.take (i + 1)) : Int) by omega]
                    exact ihi (i + 1) _ _ _ (by omega) (by omega) kN (fun m hm => by rw [e1]; exact ke m hm) kO)
                 | (rw [show oxn (ps.take i) = oxn (ps.take (i + 1)) by omega]
                    exact ihi (i + 1) _ _ _ (by omega) (by omega) kN (fun m hm => by rw [e1]; exact ke m hm) kO))
          · rw [hs]
            refine i_tableIn C dX0_setCalls_48 (tgt := 88) (ha := by decide) (h1 := by decide) (h2 := by decide) (ho := rfl) (ht := by decide) (kk := ?_)
            refine i_aload_n C dX0_setCalls_88 (kk := ?_)
            refine i_iload C dX0_setCalls_89 (kk := ?_)
            refine i_callV C lk_X0_45 (c_X3_pageOf l hl D (hT := kT) (i := i)) (hcl := rfl) (hst := rfl) dX0_setCalls_91 (hw := kT.2.2.2.2.1) (kk := fun v91 w91 g91 => ?_)
            obtain ⟨rfl, q91⟩ := g91
            have q91 := q91.symm
            subst q91
            obtain ⟨q, hq⟩ : ∃ q : Nat, (pcs ps i).2.1 = q := ⟨(pcs ps i).2.1.toNat, by unfold PV at hv; omega⟩
            have hq12 : q < 12 := by omega
            rw [hq]
            refine i_istore C dX0_setCalls_94 (kk := ?_)
            refine i_aload_n C dX0_setCalls_96 (kk := ?_)
            refine i_getf C f_X0_9 dX0_setCalls_97 (hw := kN.2.2.2.2.2.2.1) (kk := ?_)
            refine i_iload_n C dX0_setCalls_100 (kk := ?_)
            refine i_bipush C dX0_setCalls_101 (kk := ?_)
            refine i_imul C dX0_setCalls_103 (kk := ?_)
            refine i_iload C dX0_setCalls_104 (kk := ?_)
            refine i_iadd C dX0_setCalls_106 (kk := ?_)
            refine i_aload_n C dX0_setCalls_107 (kk := ?_)
            refine i_iload_n C dX0_setCalls_108 (kk := ?_)
            refine i_iload C dX0_setCalls_109 (kk := ?_)
            refine i_callV C lk_X0_48 (c_X0_callsOf l hl D (hN := kN) (p := p) (q := q)) (hcl := rfl) (hst := rfl) dX0_setCalls_111 (hw := kN.2.2.2.2.2.2.1) (kk := fun v111 w111 g111 => ?_)
            obtain ⟨rfl, q111⟩ := g111
            have q111 := q111.symm
            subst q111
            refine i_iconst C dX0_setCalls_114 (kk := ?_)
            refine i_iadd C dX0_setCalls_115 (kk := ?_)
            have e9 : (p : Int) * 12 + q = ((12 * p + q : Nat) : Int) := by omega
            have e10 : (f (12 * p + q) : Int) + 1 = ((f (12 * p + q) + 1 : Nat) : Int) := by omega
            rw [e9, e10]
            have e11 := ke (12 * p + q) (by omega)
            rw [if_pos ⟨by omega, by omega⟩, show 12 * p + q - 12 * p = q by omega] at e11
            have e12 := ccn_takele q ps i
            refine i_callSN C lk_X0_31 (c_X6_put l hl D (hw := kN.2.2.2.2.2.2.2.1) (hi := by omega)) (hst := rfl) dX0_setCalls_116 (kk := fun v116 w116 g116 => ?_)
            obtain ⟨rfl, rfl⟩ := g116
            rw [putz_nat (by omega), cz_up]
            have kN2 := kN.setC (12 * p + q) (f (12 * p + q) + 1) (by omega)
            refine i_goto C dX0_setCalls_119 (tgt := 128) (kk := ?_)
            refine i_iinc C dX0_setCalls_128 (kk := ?_)
            refine i_goto C dX0_setCalls_131 (tgt := 33) (kk := ?_)
            first
              | (have e5 : oxn (ps.take (i + 1)) = oxn (ps.take i) := by (have z := oxn_take (ps := ps) (i := i) (by omega); rw [if_neg (by omega)] at z; omega)
                 have e2 : upz f (12 * p + q) (f (12 * p + q) + 1) = upz f (12 * p + q) (ccn q (ps.take (i + 1))) := by rw [e11, ccn_take q (by omega), if_pos ⟨by omega, hq⟩]
                 rw [e2] at kN2
                 rw [e2, ← e5]
                 refine ihi (i + 1) _ _ _ (by omega) (by omega) kN2 (fun m hm => ?_) (kO.put (by have := kN.2.1; omega) (by have := kN.2.1; omega))
                 by_cases z : m = 12 * p + q
                 · subst z; rw [upz_eq, if_pos ⟨by omega, by omega⟩, show 12 * p + q - 12 * p = q by omega]
                 · rw [upz_ne z, ke m hm]
                   by_cases z2 : 12 * p ≤ m ∧ m < 12 * p + 12
                   · (have y := ccn_take (ps := ps) (i := i) (m - 12 * p) (by omega); rw [if_neg (by omega)] at y; rw [if_pos z2, if_pos z2]; omega)
                   · rw [if_neg z2, if_neg z2])
              | (have e1 : ∀ z, ccn z (ps.take (i + 1)) = ccn z (ps.take i) := fun z => by (have y := ccn_take (ps := ps) (i := i) z (by omega); rw [if_neg (by omega)] at y; omega)
                 have e5 : ((oxn (ps.take i) : Int) + 1 = (oxn (ps.take (i + 1)) : Int) ∧ (pcs ps i).1 < 4) ∨ (oxn (ps.take i) = oxn (ps.take (i + 1)) ∧ ¬ (pcs ps i).1 < 4) := by
                   rw [oxn_take (by omega)]
                   by_cases z : (pcs ps i).1 < 4
                   · rw [if_pos z]; omega
                   · rw [if_neg z]; omega
                 first
                 | (rw [show (oxn (ps.take i) : Int) + 1 = (oxn (ps.take (i + 1)) : Int) by omega]
                    exact ihi (i + 1) _ _ _ (by omega) (by omega) kN (fun m hm => by rw [e1]; exact ke m hm) kO)
                 | (rw [show oxn (ps.take i) = oxn (ps.take (i + 1)) by omega]
                    exact ihi (i + 1) _ _ _ (by omega) (by omega) kN (fun m hm => by rw [e1]; exact ke m hm) kO))
          · rw [hs]
            refine i_tableOut C dX0_setCalls_48 (tgt := 128) (ha := by decide) (h1 := by decide) (ht := by decide) (kk := ?_)
            refine i_iinc C dX0_setCalls_128 (kk := ?_)
            refine i_goto C dX0_setCalls_131 (tgt := 33) (kk := ?_)
            first
              | (have e5 : oxn (ps.take (i + 1)) = oxn (ps.take i) := by (have z := oxn_take (ps := ps) (i := i) (by omega); rw [if_neg (by omega)] at z; omega)
                 have e2 : upz f (12 * p + q) (f (12 * p + q) + 1) = upz f (12 * p + q) (ccn q (ps.take (i + 1))) := by rw [e11, ccn_take q (by omega), if_pos ⟨by omega, hq⟩]
                 rw [e2] at kN2
                 rw [e2, ← e5]
                 refine ihi (i + 1) _ _ _ (by omega) (by omega) kN2 (fun m hm => ?_) (kO.put (by have := kN.2.1; omega) (by have := kN.2.1; omega))
                 by_cases z : m = 12 * p + q
                 · subst z; rw [upz_eq, if_pos ⟨by omega, by omega⟩, show 12 * p + q - 12 * p = q by omega]
                 · rw [upz_ne z, ke m hm]
                   by_cases z2 : 12 * p ≤ m ∧ m < 12 * p + 12
                   · (have y := ccn_take (ps := ps) (i := i) (m - 12 * p) (by omega); rw [if_neg (by omega)] at y; rw [if_pos z2, if_pos z2]; omega)
                   · rw [if_neg z2, if_neg z2])
              | (have e1 : ∀ z, ccn z (ps.take (i + 1)) = ccn z (ps.take i) := fun z => by (have y := ccn_take (ps := ps) (i := i) z (by omega); rw [if_neg (by omega)] at y; omega)
                 have e5 : ((oxn (ps.take i) : Int) + 1 = (oxn (ps.take (i + 1)) : Int) ∧ (pcs ps i).1 < 4) ∨ (oxn (ps.take i) = oxn (ps.take (i + 1)) ∧ ¬ (pcs ps i).1 < 4) := by
                   rw [oxn_take (by omega)]
                   by_cases z : (pcs ps i).1 < 4
                   · rw [if_pos z]; omega
                   · rw [if_neg z]; omega
                 first
                 | (rw [show (oxn (ps.take i) : Int) + 1 = (oxn (ps.take (i + 1)) : Int) by omega]
                    exact ihi (i + 1) _ _ _ (by omega) (by omega) kN (fun m hm => by rw [e1]; exact ke m hm) kO)
                 | (rw [show oxn (ps.take i) = oxn (ps.take (i + 1)) by omega]
                    exact ihi (i + 1) _ _ _ (by omega) (by omega) kN (fun m hm => by rw [e1]; exact ke m hm) kO))
          · rw [hs]
            refine i_tableOut C dX0_setCalls_48 (tgt := 128) (ha := by decide) (h1 := by decide) (ht := by decide) (kk := ?_)
            refine i_iinc C dX0_setCalls_128 (kk := ?_)
            refine i_goto C dX0_setCalls_131 (tgt := 33) (kk := ?_)
            first
              | (have e5 : oxn (ps.take (i + 1)) = oxn (ps.take i) := by (have z := oxn_take (ps := ps) (i := i) (by omega); rw [if_neg (by omega)] at z; omega)
                 have e2 : upz f (12 * p + q) (f (12 * p + q) + 1) = upz f (12 * p + q) (ccn q (ps.take (i + 1))) := by rw [e11, ccn_take q (by omega), if_pos ⟨by omega, hq⟩]
                 rw [e2] at kN2
                 rw [e2, ← e5]
                 refine ihi (i + 1) _ _ _ (by omega) (by omega) kN2 (fun m hm => ?_) (kO.put (by have := kN.2.1; omega) (by have := kN.2.1; omega))
                 by_cases z : m = 12 * p + q
                 · subst z; rw [upz_eq, if_pos ⟨by omega, by omega⟩, show 12 * p + q - 12 * p = q by omega]
                 · rw [upz_ne z, ke m hm]
                   by_cases z2 : 12 * p ≤ m ∧ m < 12 * p + 12
                   · (have y := ccn_take (ps := ps) (i := i) (m - 12 * p) (by omega); rw [if_neg (by omega)] at y; rw [if_pos z2, if_pos z2]; omega)
                   · rw [if_neg z2, if_neg z2])
              | (have e1 : ∀ z, ccn z (ps.take (i + 1)) = ccn z (ps.take i) := fun z => by (have y := ccn_take (ps := ps) (i := i) z (by omega); rw [if_neg (by omega)] at y; omega)
                 have e5 : ((oxn (ps.take i) : Int) + 1 = (oxn (ps.take (i + 1)) : Int) ∧ (pcs ps i).1 < 4) ∨ (oxn (ps.take i) = oxn (ps.take (i + 1)) ∧ ¬ (pcs ps i).1 < 4) := by
                   rw [oxn_take (by omega)]
                   by_cases z : (pcs ps i).1 < 4
                   · rw [if_pos z]; omega
                   · rw [if_neg z]; omega
                 first
                 | (rw [show (oxn (ps.take i) : Int) + 1 = (oxn (ps.take (i + 1)) : Int) by omega]
                    exact ihi (i + 1) _ _ _ (by omega) (by omega) kN (fun m hm => by rw [e1]; exact ke m hm) kO)
                 | (rw [show oxn (ps.take i) = oxn (ps.take (i + 1)) by omega]
                    exact ihi (i + 1) _ _ _ (by omega) (by omega) kN (fun m hm => by rw [e1]; exact ke m hm) kO))
          · rw [hs]
            refine i_tableOut C dX0_setCalls_48 (tgt := 128) (ha := by decide) (h1 := by decide) (ht := by decide) (kk := ?_)
            refine i_iinc C dX0_setCalls_128 (kk := ?_)
            refine i_goto C dX0_setCalls_131 (tgt := 33) (kk := ?_)
            first
              | (have e5 : oxn (ps.take (i + 1)) = oxn (ps.take i) := by (have z := oxn_take (ps := ps) (i := i) (by omega); rw [if_neg (by omega)] at z; omega)
                 have e2 : upz f (12 * p + q) (f (12 * p + q) + 1) = upz f (12 * p + q) (ccn q (ps.take (i + 1))) := by rw [e11, ccn_take q (by omega), if_pos ⟨by omega, hq⟩]
                 rw [e2] at kN2
                 rw [e2, ← e5]
                 refine ihi (i + 1) _ _ _ (by omega) (by omega) kN2 (fun m hm => ?_) (kO.put (by have := kN.2.1; omega) (by have := kN.2.1; omega))
                 by_cases z : m = 12 * p + q
                 · subst z; rw [upz_eq, if_pos ⟨by omega, by omega⟩, show 12 * p + q - 12 * p = q by omega]
                 · rw [upz_ne z, ke m hm]
                   by_cases z2 : 12 * p ≤ m ∧ m < 12 * p + 12
                   · (have y := ccn_take (ps := ps) (i := i) (m - 12 * p) (by omega); rw [if_neg (by omega)] at y; rw [if_pos z2, if_pos z2]; omega)
                   · rw [if_neg z2, if_neg z2])
              | (have e1 : ∀ z, ccn z (ps.take (i + 1)) = ccn z (ps.take i) := fun z => by (have y := ccn_take (ps := ps) (i := i) z (by omega); rw [if_neg (by omega)] at y; omega)
                 have e5 : ((oxn (ps.take i) : Int) + 1 = (oxn (ps.take (i + 1)) : Int) ∧ (pcs ps i).1 < 4) ∨ (oxn (ps.take i) = oxn (ps.take (i + 1)) ∧ ¬ (pcs ps i).1 < 4) := by
                   rw [oxn_take (by omega)]
                   by_cases z : (pcs ps i).1 < 4
                   · rw [if_pos z]; omega
                   · rw [if_neg z]; omega
                 first
                 | (rw [show (oxn (ps.take i) : Int) + 1 = (oxn (ps.take (i + 1)) : Int) by omega]
                    exact ihi (i + 1) _ _ _ (by omega) (by omega) kN (fun m hm => by rw [e1]; exact ke m hm) kO)
                 | (rw [show oxn (ps.take i) = oxn (ps.take (i + 1)) by omega]
                    exact ihi (i + 1) _ _ _ (by omega) (by omega) kN (fun m hm => by rw [e1]; exact ke m hm) kO))
      exact lp2 (ps.length + 1) 0 _ f _ (by omega) (by omega) kN (fun m hm => by rw [ke m hm, show j = 12 by omega]; rfl) kO
    · refine i_aload_n C dX0_setCalls_8 (kk := ?_)
      refine i_getf C f_X0_9 dX0_setCalls_9 (hw := kN.2.2.2.2.2.2.1) (kk := ?_)
      refine i_iload_n C dX0_setCalls_12 (kk := ?_)
      refine i_bipush C dX0_setCalls_13 (kk := ?_)
      refine i_imul C dX0_setCalls_15 (kk := ?_)
      refine i_iload_n C dX0_setCalls_16 (kk := ?_)
      refine i_iadd C dX0_setCalls_17 (kk := ?_)
      refine i_iconst C dX0_setCalls_18 (kk := ?_)
      have e9 : (p : Int) * 12 + j = ((12 * p + j : Nat) : Int) := by omega
      rw [e9]
      refine i_callSN C lk_X0_31 (c_X6_put l hl D (hw := kN.2.2.2.2.2.2.2.1) (x := ((0 : Nat) : Int)) (hi := by omega)) (hst := rfl) dX0_setCalls_19 (kk := fun v19 w19 g19 => ?_)
      obtain ⟨rfl, rfl⟩ := g19
      rw [putz_nat (by omega), cz_up]
      have kN2 := kN.setC (12 * p + j) 0 (by omega)
      refine i_iinc C dX0_setCalls_22 (kk := ?_)
      refine i_goto C dX0_setCalls_25 (tgt := 2) (kk := ?_)
      exact ih (j + 1) _ _ (by omega) (by omega) kN2 (fun m hm => by by_cases q : m = 12 * p + j; (subst q; rw [upz_eq, if_pos ⟨by omega, by omega⟩]); (rw [upz_ne q, ke m hm]; by_cases z : 12 * p ≤ m ∧ m < 12 * p + j; (rw [if_pos z, if_pos ⟨z.1, by omega⟩]); (rw [if_neg z, if_neg (by omega)]))) (kO.put (by have := kN.2.1; omega) (by have := kN.2.1; omega))
  exact lp1 13 0 w fc (by omega) (by omega) hN (fun m hm => by rw [if_neg (by omega)]) offR.rf
