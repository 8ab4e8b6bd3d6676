set_option maxRecDepth 100000 in
set_option maxHeartbeats 4000000 in
theorem c_X2_together (l : Launch) (hl : l.stackTraces = false) (D : gD) {w : wW} {x y : Int} (hx : inR x := by omega) (hy : inR y := by omega) : CTm l D yX2_together cX2_together 2 (some .int) (rmL 1 0 0) [.int (Z32 x), .int (Z32 y)] w (fun v w1 => v = some (.int (Z32 (tog x y))) ∧ w1 = w) := by
  refine CTm_of hl false rfl (by rfl) (Nat.le_of_ble_eq_true rfl) (fun h => nomatch h) ?_
  intro G C
  show G 0 0 w [some (.int (Z32 x)), some (.int (Z32 y))] 0 []
  refine i_iload_n C dX2_together_0 (kk := ?_)
  refine i_iconst C dX2_together_1 (kk := ?_)
  refine i_icmp_eq C dX2_together_2 (tgt := 10) (kt := fun hB2 => ?_) (kf := fun hB2 => ?_)
  · refine i_iload_n C dX2_together_10 (kk := ?_)
    exact i_iret C (d := dX2_together_11) (h := ⟨by unfold tog; rw [if_pos (by omega)], rfl⟩)
  · refine i_iload_n C dX2_together_5 (kk := ?_)
    refine i_iload_n C dX2_together_6 (kk := ?_)
    refine i_icmp_ne C dX2_together_7 (tgt := 12) (kt := fun hB7 => ?_) (kf := fun hB7 => ?_)
    · refine i_iload_n C dX2_together_12 (kk := ?_)
      refine i_iconst C dX2_together_13 (kk := ?_)
      refine i_icmp_ne C dX2_together_14 (tgt := 21) (kt := fun hB14 => ?_) (kf := fun hB14 => ?_)
      · refine i_bipush C dX2_together_21 (kk := ?_)
        exact i_iret C (d := dX2_together_23) (h := ⟨by unfold tog; first | (rw [if_neg (by omega), if_pos (by omega)]; done) | (rw [if_neg (by omega), if_neg (by omega)]; done), rfl⟩)
      · refine i_iload_n C dX2_together_17 (kk := ?_)
        refine i_goto C dX2_together_18 (tgt := 23) (kk := ?_)
        exact i_iret C (d := dX2_together_23) (h := ⟨by unfold tog; first | (rw [if_neg (by omega), if_pos (by omega)]; done) | (rw [if_neg (by omega), if_neg (by omega)]; done), rfl⟩)
    · refine i_iload_n C dX2_together_10 (kk := ?_)
      exact i_iret C (d := dX2_together_11) (h := ⟨by unfold tog; rw [if_pos (by omega)], rfl⟩)

set_option maxRecDepth 100000 in
set_option maxHeartbeats 4000000 in
theorem c_X2_need (l : Launch) (hl : l.stackTraces = false) (D : gD) {w : wW} {τ : Nat → Nat} {r a n s v c o : Nat} {its : List It4} {os : List Int} (hS : SpT D w τ r a n s v c o its os := by assumption) : CTm l D yX2_need cX2_need 1 (some .int) (rmL 2 0 0) [.ref a] w (fun v w1 => v = some (.int (Z32 (ndo os))) ∧ w1 = w) := by
  refine CTm_of hl false rfl (by rfl) (Nat.le_of_ble_eq_true rfl) (fun h => nomatch h) ?_
  intro G C
  show G 0 0 w [some (.ref a)] 0 []
  obtain ⟨t1, t2, t3, t4, t5, t6, k1, b1, b2, b3, b4, fn, fs, fv, fc, fo, k2, k3, k4, k5, k6, z1, z2⟩ := hS
  refine i_aload_n C dX2_need_0 (kk := ?_)
  refine i_getf C f_X2_34 dX2_need_1 (kk := ?_)
  refine i_if_ne C dX2_need_4 (tgt := 11) (kt := fun hB4 => ?_) (kf := fun hB4 => ?_)
  · have e9 := ndo_at (os := os) (by omega)
    have e8 := z2 (os.length - 1) (by omega)
    refine i_aload_n C dX2_need_11 (kk := ?_)
    refine i_getf C f_X2_31 dX2_need_12 (kk := ?_)
    refine i_aload_n C dX2_need_15 (kk := ?_)
    refine i_getf C f_X2_34 dX2_need_16 (kk := ?_)
    refine i_iconst C dX2_need_19 (kk := ?_)
    refine i_isub C dX2_need_20 (kk := ?_)
    have e7 : (os.length : Int) - 1 = ((os.length - 1 : Nat) : Int) := by omega
    rw [e7]
    refine i_callSN C lk_X2_49 (c_X6_at l hl D (f := fo) (a := o)) (hst := rfl) dX2_need_21 (kk := fun v21 w21 g21 => ?_)
    obtain ⟨rfl, q21⟩ := g21
    have q21 := q21.symm
    subst q21
    exact i_iret C (d := dX2_need_24) (h := ⟨by first | (rw [e9, atz_nat (by omega), e8]; done) | (rw [e9, ndo_nil]; done), rfl⟩)
  · have e9 : os = [] := List.length_eq_zero_iff.mp (by omega)
    refine i_iconst C dX2_need_7 (kk := ?_)
    refine i_goto C dX2_need_8 (tgt := 24) (kk := ?_)
    exact i_iret C (d := dX2_need_24) (h := ⟨by first | (rw [e9, atz_nat (by omega), e8]; done) | (rw [e9, ndo_nil]; done), rfl⟩)

set_option maxRecDepth 100000 in
set_option maxHeartbeats 4000000 in
theorem c_X2_shows (l : Launch) (hl : l.stackTraces = false) (D : gD) {w : wW} {τ : Nat → Nat} {r a n s v c o : Nat} {its : List It4} {os : List Int} {i : Nat} {g : Int} (hS : SpT D w τ r a n s v c o its os := by assumption) (hi : i < its.length := by omega) (hg : inR g := by omega) : CTm l D yX2_shows cX2_shows 4 (some .boolean) (rmL 2 0 0) [.ref a, .int (Z32 (i : Int)), .int (Z32 g)] w (fun v w1 => v = some (.int (Z32 (if shw (it4 its i) g then 1 else 0))) ∧ w1 = w) := by
  refine CTm_of hl false rfl (by rfl) (Nat.le_of_ble_eq_true rfl) (fun h => nomatch h) ?_
  intro G C
  show G 0 0 w [some (.ref a), some (.int (Z32 (i : Int))), some (.int (Z32 g)), none] 0 []
  obtain ⟨t1, t2, t3, t4, t5, t6, k1, b1, b2, b3, b4, fn, fs, fv, fc, fo, k2, k3, k4, k5, k6, z1, z2⟩ := hS
  have hv := b3 _ (it4_mem (i := i) (by omega))
  unfold ItV at hv
  have ez := z1 i (by omega)
  have e1 : fn i = (it4 its i).1 := congrArg (fun z => z.1) ez
  have e2 : fs i = (it4 its i).2.1 := congrArg (fun z => z.2.1) ez
  have e3 : fv i = (it4 its i).2.2.1 := congrArg (fun z => z.2.2.1) ez
  have e4 : fc i = (it4 its i).2.2.2 := congrArg (fun z => z.2.2.2) ez
  refine i_aload_n C dX2_shows_0 (kk := ?_)
  refine i_getf C f_X2_9 dX2_shows_1 (kk := ?_)
  refine i_iload_n C dX2_shows_4 (kk := ?_)
  refine i_callSN C lk_X2_49 (c_X6_at l hl D (f := fn) (a := n)) (hst := rfl) dX2_shows_5 (kk := fun v5 w5 g5 => ?_)
  obtain ⟨rfl, q5⟩ := g5
  have q5 := q5.symm
  subst q5
  rw [atz_nat (by omega)]
  rw [e1]
  refine i_istore_n C dX2_shows_8 (kk := ?_)
  refine i_iload_n C dX2_shows_9 (kk := ?_)
  refine i_iconst C dX2_shows_10 (kk := ?_)
  refine i_icmp_eq C dX2_shows_11 (tgt := 19) (kt := fun hB11 => ?_) (kf := fun hB11 => ?_)
  · refine i_iload_n C dX2_shows_19 (kk := ?_)
    refine i_iconst C dX2_shows_20 (kk := ?_)
    refine i_icmp_ne C dX2_shows_21 (tgt := 36) (kt := fun hB21 => ?_) (kf := fun hB21 => ?_)
    · refine i_iconst C dX2_shows_36 (kk := ?_)
      refine i_goto C dX2_shows_37 (tgt := 41) (kk := ?_)
      exact i_zret C (d := dX2_shows_41) (ha := by first | exact Or.inl rfl | exact Or.inr rfl) (h := ⟨by first | (rw [if_pos ⟨by omega, by omega⟩]; done) | (rw [if_neg (by rintro ⟨q1, q2⟩; omega)]; done), rfl⟩)
    · refine i_aload_n C dX2_shows_24 (kk := ?_)
      refine i_getf C f_X2_15 dX2_shows_25 (kk := ?_)
      refine i_iload_n C dX2_shows_28 (kk := ?_)
      refine i_callSN C lk_X2_49 (c_X6_at l hl D (f := fs) (a := s)) (hst := rfl) dX2_shows_29 (kk := fun v29 w29 g29 => ?_)
      obtain ⟨rfl, q29⟩ := g29
      have q29 := q29.symm
      subst q29
      rw [atz_nat (by omega)]
      rw [e2]
      refine i_iconst C dX2_shows_32 (kk := ?_)
      refine i_icmp_eq C dX2_shows_33 (tgt := 40) (kt := fun hB33 => ?_) (kf := fun hB33 => ?_)
      · refine i_iconst C dX2_shows_40 (kk := ?_)
        exact i_zret C (d := dX2_shows_41) (ha := by first | exact Or.inl rfl | exact Or.inr rfl) (h := ⟨by first | (rw [if_pos ⟨by omega, by omega⟩]; done) | (rw [if_neg (by rintro ⟨q1, q2⟩; omega)]; done), rfl⟩)
      · refine i_iconst C dX2_shows_36 (kk := ?_)
        refine i_goto C dX2_shows_37 (tgt := 41) (kk := ?_)
        exact i_zret C (d := dX2_shows_41) (ha := by first | exact Or.inl rfl | exact Or.inr rfl) (h := ⟨by first | (rw [if_pos ⟨by omega, by omega⟩]; done) | (rw [if_neg (by rintro ⟨q1, q2⟩; omega)]; done), rfl⟩)
  · refine i_iload_n C dX2_shows_14 (kk := ?_)
    refine i_iload_n C dX2_shows_15 (kk := ?_)
    refine i_icmp_ne C dX2_shows_16 (tgt := 40) (kt := fun hB16 => ?_) (kf := fun hB16 => ?_)
    · refine i_iconst C dX2_shows_40 (kk := ?_)
      exact i_zret C (d := dX2_shows_41) (ha := by first | exact Or.inl rfl | exact Or.inr rfl) (h := ⟨by first | (rw [if_pos ⟨by omega, by omega⟩]; done) | (rw [if_neg (by rintro ⟨q1, q2⟩; omega)]; done), rfl⟩)
    · refine i_iload_n C dX2_shows_19 (kk := ?_)
      refine i_iconst C dX2_shows_20 (kk := ?_)
      refine i_icmp_ne C dX2_shows_21 (tgt := 36) (kt := fun hB21 => ?_) (kf := fun hB21 => ?_)
      · refine i_iconst C dX2_shows_36 (kk := ?_)
        refine i_goto C dX2_shows_37 (tgt := 41) (kk := ?_)
        exact i_zret C (d := dX2_shows_41) (ha := by first | exact Or.inl rfl | exact Or.inr rfl) (h := ⟨by first | (rw [if_pos ⟨by omega, by omega⟩]; done) | (rw [if_neg (by rintro ⟨q1, q2⟩; omega)]; done), rfl⟩)
      · refine i_aload_n C dX2_shows_24 (kk := ?_)
        refine i_getf C f_X2_15 dX2_shows_25 (kk := ?_)
        refine i_iload_n C dX2_shows_28 (kk := ?_)
        refine i_callSN C lk_X2_49 (c_X6_at l hl D (f := fs) (a := s)) (hst := rfl) dX2_shows_29 (kk := fun v29 w29 g29 => ?_)
        obtain ⟨rfl, q29⟩ := g29
        have q29 := q29.symm
        subst q29
        rw [atz_nat (by omega)]
        rw [e2]
        refine i_iconst C dX2_shows_32 (kk := ?_)
        refine i_icmp_eq C dX2_shows_33 (tgt := 40) (kt := fun hB33 => ?_) (kf := fun hB33 => ?_)
        · refine i_iconst C dX2_shows_40 (kk := ?_)
          exact i_zret C (d := dX2_shows_41) (ha := by first | exact Or.inl rfl | exact Or.inr rfl) (h := ⟨by first | (rw [if_pos ⟨by omega, by omega⟩]; done) | (rw [if_neg (by rintro ⟨q1, q2⟩; omega)]; done), rfl⟩)
        · refine i_iconst C dX2_shows_36 (kk := ?_)
          refine i_goto C dX2_shows_37 (tgt := 41) (kk := ?_)
          exact i_zret C (d := dX2_shows_41) (ha := by first | exact Or.inl rfl | exact Or.inr rfl) (h := ⟨by first | (rw [if_pos ⟨by omega, by omega⟩]; done) | (rw [if_neg (by rintro ⟨q1, q2⟩; omega)]; done), rfl⟩)

set_option maxRecDepth 100000 in
set_option maxHeartbeats 4000000 in
theorem c_X2_itemSort (l : Launch) (hl : l.stackTraces = false) (D : gD) {w : wW} {τ : Nat → Nat} {r a n s v c o : Nat} {its : List It4} {os : List Int} {i : Nat} (hS : SpT D w τ r a n s v c o its os := by assumption) (hi : i < its.length := by omega) : CTm l D yX2_itemSort cX2_itemSort 3 (some .int) (rmL 2 0 0) [.ref a, .int (Z32 (i : Int))] w (fun v w1 => v = some (.int (Z32 (isrt (it4 its i)))) ∧ w1 = w) := by
  refine CTm_of hl false rfl (by rfl) (Nat.le_of_ble_eq_true rfl) (fun h => nomatch h) ?_
  intro G C
  show G 0 0 w [some (.ref a), some (.int (Z32 (i : Int))), none] 0 []
  obtain ⟨t1, t2, t3, t4, t5, t6, k1, b1, b2, b3, b4, fn, fs, fv, fc, fo, k2, k3, k4, k5, k6, z1, z2⟩ := hS
  have hv := b3 _ (it4_mem (i := i) (by omega))
  unfold ItV at hv
  have ez := z1 i (by omega)
  have e1 : fn i = (it4 its i).1 := congrArg (fun z => z.1) ez
  have e2 : fs i = (it4 its i).2.1 := congrArg (fun z => z.2.1) ez
  have e3 : fv i = (it4 its i).2.2.1 := congrArg (fun z => z.2.2.1) ez
  have e4 : fc i = (it4 its i).2.2.2 := congrArg (fun z => z.2.2.2) ez
  refine i_aload_n C dX2_itemSort_0 (kk := ?_)
  refine i_getf C f_X2_15 dX2_itemSort_1 (kk := ?_)
  refine i_iload_n C dX2_itemSort_4 (kk := ?_)
  refine i_callSN C lk_X2_49 (c_X6_at l hl D (f := fs) (a := s)) (hst := rfl) dX2_itemSort_5 (kk := fun v5 w5 g5 => ?_)
  obtain ⟨rfl, q5⟩ := g5
  have q5 := q5.symm
  subst q5
  rw [atz_nat (by omega)]
  rw [e2]
  refine i_istore_n C dX2_itemSort_8 (kk := ?_)
  refine i_iload_n C dX2_itemSort_9 (kk := ?_)
  refine i_iconst C dX2_itemSort_10 (kk := ?_)
  refine i_icmp_ne C dX2_itemSort_11 (tgt := 18) (kt := fun hB11 => ?_) (kf := fun hB11 => ?_)
  · refine i_iload_n C dX2_itemSort_18 (kk := ?_)
    exact i_iret C (d := dX2_itemSort_19) (h := ⟨by unfold isrt; first | (rw [if_pos (by omega)]; done) | (rw [if_neg (by omega)]; done), rfl⟩)
  · refine i_iconst C dX2_itemSort_14 (kk := ?_)
    refine i_goto C dX2_itemSort_15 (tgt := 19) (kk := ?_)
    exact i_iret C (d := dX2_itemSort_19) (h := ⟨by unfold isrt; first | (rw [if_pos (by omega)]; done) | (rw [if_neg (by omega)]; done), rfl⟩)

set_option maxRecDepth 100000 in
set_option maxHeartbeats 4000000 in
theorem c_X2_itemWith (l : Launch) (hl : l.stackTraces = false) (D : gD) {w : wW} {τ : Nat → Nat} {r a n s v c o : Nat} {its : List It4} {os : List Int} {i : Nat} {g : Int} (hS : SpT D w τ r a n s v c o its os := by assumption) (hi : i < its.length := by omega) : CTm l D yX2_itemWith cX2_itemWith 3 (some .int) (rmL 2 0 0) [.ref a, .int (Z32 (i : Int)), .int (Z32 g)] w (fun v w1 => v = some (.int (Z32 (iwth (it4 its i) g))) ∧ w1 = w) := by
  refine CTm_of hl false rfl (by rfl) (Nat.le_of_ble_eq_true rfl) (fun h => nomatch h) ?_
  intro G C
  show G 0 0 w [some (.ref a), some (.int (Z32 (i : Int))), some (.int (Z32 g))] 0 []
  obtain ⟨t1, t2, t3, t4, t5, t6, k1, b1, b2, b3, b4, fn, fs, fv, fc, fo, k2, k3, k4, k5, k6, z1, z2⟩ := hS
  have hv := b3 _ (it4_mem (i := i) (by omega))
  unfold ItV at hv
  have ez := z1 i (by omega)
  have e1 : fn i = (it4 its i).1 := congrArg (fun z => z.1) ez
  have e2 : fs i = (it4 its i).2.1 := congrArg (fun z => z.2.1) ez
  have e3 : fv i = (it4 its i).2.2.1 := congrArg (fun z => z.2.2.1) ez
  have e4 : fc i = (it4 its i).2.2.2 := congrArg (fun z => z.2.2.2) ez
  refine i_aload_n C dX2_itemWith_0 (kk := ?_)
  refine i_getf C f_X2_15 dX2_itemWith_1 (kk := ?_)
  refine i_iload_n C dX2_itemWith_4 (kk := ?_)
  refine i_callSN C lk_X2_49 (c_X6_at l hl D (f := fs) (a := s)) (hst := rfl) dX2_itemWith_5 (kk := fun v5 w5 g5 => ?_)
  obtain ⟨rfl, q5⟩ := g5
  have q5 := q5.symm
  subst q5
  rw [atz_nat (by omega)]
  rw [e2]
  refine i_iconst C dX2_itemWith_8 (kk := ?_)
  refine i_icmp_ne C dX2_itemWith_9 (tgt := 16) (kt := fun hB9 => ?_) (kf := fun hB9 => ?_)
  · refine i_aload_n C dX2_itemWith_16 (kk := ?_)
    refine i_getf C f_X2_18 dX2_itemWith_17 (kk := ?_)
    refine i_iload_n C dX2_itemWith_20 (kk := ?_)
    refine i_callSN C lk_X2_49 (c_X6_at l hl D (f := fv) (a := v)) (hst := rfl) dX2_itemWith_21 (kk := fun v21 w21 g21 => ?_)
    obtain ⟨rfl, q21⟩ := g21
    have q21 := q21.symm
    subst q21
    rw [atz_nat (by omega)]
    rw [e3]
    exact i_iret C (d := dX2_itemWith_24) (h := ⟨by unfold iwth; first | (rw [if_pos (by omega)]; done) | (rw [if_neg (by omega)]; done), rfl⟩)
  · refine i_iload_n C dX2_itemWith_12 (kk := ?_)
    refine i_goto C dX2_itemWith_13 (tgt := 24) (kk := ?_)
    exact i_iret C (d := dX2_itemWith_24) (h := ⟨by unfold iwth; first | (rw [if_pos (by omega)]; done) | (rw [if_neg (by omega)]; done), rfl⟩)

set_option maxRecDepth 100000 in
set_option maxHeartbeats 4000000 in
theorem c_X2_sourceOf (l : Launch) (hl : l.stackTraces = false) (D : gD) {w : wW} {τ : Nat → Nat} {r a n s v c o : Nat} {its : List It4} {os : List Int} {i : Nat} (hS : SpT D w τ r a n s v c o its os := by assumption) (hi : i < its.length := by omega) : CTm l D yX2_sourceOf cX2_sourceOf 2 (some .int) (rmL 2 0 0) [.ref a, .int (Z32 (i : Int))] w (fun v w1 => v = some (.int (Z32 (it4 its i).2.2.2)) ∧ w1 = w) := by
  refine CTm_of hl false rfl (by rfl) (Nat.le_of_ble_eq_true rfl) (fun h => nomatch h) ?_
  intro G C
  show G 0 0 w [some (.ref a), some (.int (Z32 (i : Int)))] 0 []
  obtain ⟨t1, t2, t3, t4, t5, t6, k1, b1, b2, b3, b4, fn, fs, fv, fc, fo, k2, k3, k4, k5, k6, z1, z2⟩ := hS
  have hv := b3 _ (it4_mem (i := i) (by omega))
  unfold ItV at hv
  have ez := z1 i (by omega)
  have e1 : fn i = (it4 its i).1 := congrArg (fun z => z.1) ez
  have e2 : fs i = (it4 its i).2.1 := congrArg (fun z => z.2.1) ez
  have e3 : fv i = (it4 its i).2.2.1 := congrArg (fun z => z.2.2.1) ez
  have e4 : fc i = (it4 its i).2.2.2 := congrArg (fun z => z.2.2.2) ez
  refine i_aload_n C dX2_sourceOf_0 (kk := ?_)
  refine i_getf C f_X2_21 dX2_sourceOf_1 (kk := ?_)
  refine i_iload_n C dX2_sourceOf_4 (kk := ?_)
  refine i_callSN C lk_X2_49 (c_X6_at l hl D (f := fc) (a := c)) (hst := rfl) dX2_sourceOf_5 (kk := fun v5 w5 g5 => ?_)
  obtain ⟨rfl, q5⟩ := g5
  have q5 := q5.symm
  subst q5
  rw [atz_nat (by omega)]
  rw [e4]
  exact i_iret C (d := dX2_sourceOf_8) (h := ⟨rfl, rfl⟩)

set_option maxRecDepth 100000 in
set_option maxHeartbeats 4000000 in
theorem c_X2_showsSort (l : Launch) (hl : l.stackTraces = false) (D : gD) {w : wW} {τ : Nat → Nat} {r a n s v c o : Nat} {its : List It4} {os : List Int} {i : Nat} {g : Int} (hS : SpT D w τ r a n s v c o its os := by assumption) (hi : i < its.length := by omega) (hg : inR g := by omega) : CTm l D yX2_showsSort cX2_showsSort 3 (some .boolean) (rmL 3 0 0) [.ref a, .int (Z32 (i : Int)), .int (Z32 g)] w (fun v w1 => v = some (.int (Z32 (if shw (it4 its i) (-1) ∧ isrt (it4 its i) = g then 1 else 0))) ∧ w1 = w) := by
  refine CTm_of hl false rfl (by rfl) (Nat.le_of_ble_eq_true rfl) (fun h => nomatch h) ?_
  intro G C
  show G 0 0 w [some (.ref a), some (.int (Z32 (i : Int))), some (.int (Z32 g))] 0 []
  have hv := hS.2.2.2.2.2.2.2.2.2.1 _ (it4_mem (i := i) hi)
  unfold ItV at hv
  have hq : 0 ≤ isrt (it4 its i) ∧ isrt (it4 its i) ≤ 3 := by unfold isrt; split <;> omega
  refine i_aload_n C dX2_showsSort_0 (kk := ?_)
  refine i_iload_n C dX2_showsSort_1 (kk := ?_)
  refine i_iconst C dX2_showsSort_2 (kk := ?_)
  refine i_callV C lk_X2_53 (c_X2_shows l hl D (hS := hS) (g := -1) (i := i)) (hcl := rfl) (hst := rfl) dX2_showsSort_3 (hw := hS.2.2.2.2.2.2.1) (kk := fun v3 w3 g3 => ?_)
  obtain ⟨rfl, q3⟩ := g3
  have q3 := q3.symm
  subst q3
  refine i_if_eq C dX2_showsSort_6 (tgt := 22) (ha := by split <;> decide) (kt := fun hB6 => ?_) (kf := fun hB6 => ?_)
  · have e8 : ¬ shw (it4 its i) (-1) := by intro q; rw [if_pos q] at hB6; cases hB6
    refine i_iconst C dX2_showsSort_22 (kk := ?_)
    exact i_zret C (d := dX2_showsSort_23) (ha := by first | exact Or.inl rfl | exact Or.inr rfl) (h := ⟨by first | (rw [if_pos ⟨e8, hB15⟩]; done) | (rw [if_neg (fun q => hB15 q.2)]; done) | (rw [if_neg (fun q => e8 q.1)]; done), rfl⟩)
  · have e8 : shw (it4 its i) (-1) := by apply Decidable.byContradiction; intro q; rw [if_neg q] at hB6; exact hB6 rfl
    refine i_aload_n C dX2_showsSort_9 (kk := ?_)
    refine i_iload_n C dX2_showsSort_10 (kk := ?_)
    refine i_callV C lk_X2_57 (c_X2_itemSort l hl D (hS := hS) (i := i)) (hcl := rfl) (hst := rfl) dX2_showsSort_11 (hw := hS.2.2.2.2.2.2.1) (kk := fun v11 w11 g11 => ?_)
    obtain ⟨rfl, q11⟩ := g11
    have q11 := q11.symm
    subst q11
    refine i_iload_n C dX2_showsSort_14 (kk := ?_)
    refine i_icmp_ne C dX2_showsSort_15 (tgt := 22) (kt := fun hB15 => ?_) (kf := fun hB15 => ?_)
    · refine i_iconst C dX2_showsSort_22 (kk := ?_)
      exact i_zret C (d := dX2_showsSort_23) (ha := by first | exact Or.inl rfl | exact Or.inr rfl) (h := ⟨by first | (rw [if_pos ⟨e8, hB15⟩]; done) | (rw [if_neg (fun q => hB15 q.2)]; done) | (rw [if_neg (fun q => e8 q.1)]; done), rfl⟩)
    · refine i_iconst C dX2_showsSort_18 (kk := ?_)
      refine i_goto C dX2_showsSort_19 (tgt := 23) (kk := ?_)
      exact i_zret C (d := dX2_showsSort_23) (ha := by first | exact Or.inl rfl | exact Or.inr rfl) (h := ⟨by first | (rw [if_pos ⟨e8, hB15⟩]; done) | (rw [if_neg (fun q => hB15 q.2)]; done) | (rw [if_neg (fun q => e8 q.1)]; done), rfl⟩)

set_option maxRecDepth 100000 in
set_option maxHeartbeats 4000000 in
theorem c_X2_clear (l : Launch) (hl : l.stackTraces = false) (D : gD) {w : wW} {τ : Nat → Nat} {r a n s v c o : Nat} {its : List It4} {os : List Int} (hS : SpT D w τ r a n s v c o its os := by assumption) : CTm l D yX2_clear cX2_clear 1 none (rmL 1 0 0) [.ref a] w (fun u w1 => u = none ∧ SpT D w1 τ r a n s v c o [] [] ∧ offR τ w w1 r (r + 6)) := by
  refine CTm_of hl false rfl (by rfl) (Nat.le_of_ble_eq_true rfl) (fun h => nomatch h) ?_
  intro G C
  show G 0 0 w [some (.ref a)] 0 []
  obtain ⟨t1, t2, t3, t4, t5, t6, k1, b1, b2, b3, b4, fn, fs, fv, fc, fo, k2, k3, k4, k5, k6, z1, z2⟩ := hS
  have m01 : a ≠ n := tne (τ := τ) (by omega)
  have m02 : a ≠ s := tne (τ := τ) (by omega)
  have m03 : a ≠ v := tne (τ := τ) (by omega)
  have m04 : a ≠ c := tne (τ := τ) (by omega)
  have m05 : a ≠ o := tne (τ := τ) (by omega)
  have m10 : n ≠ a := tne (τ := τ) (by omega)
  have m12 : n ≠ s := tne (τ := τ) (by omega)
  have m13 : n ≠ v := tne (τ := τ) (by omega)
  have m14 : n ≠ c := tne (τ := τ) (by omega)
  have m15 : n ≠ o := tne (τ := τ) (by omega)
  have m20 : s ≠ a := tne (τ := τ) (by omega)
  have m21 : s ≠ n := tne (τ := τ) (by omega)
  have m23 : s ≠ v := tne (τ := τ) (by omega)
  have m24 : s ≠ c := tne (τ := τ) (by omega)
  have m25 : s ≠ o := tne (τ := τ) (by omega)
  have m30 : v ≠ a := tne (τ := τ) (by omega)
  have m31 : v ≠ n := tne (τ := τ) (by omega)
  have m32 : v ≠ s := tne (τ := τ) (by omega)
  have m34 : v ≠ c := tne (τ := τ) (by omega)
  have m35 : v ≠ o := tne (τ := τ) (by omega)
  have m40 : c ≠ a := tne (τ := τ) (by omega)
  have m41 : c ≠ n := tne (τ := τ) (by omega)
  have m42 : c ≠ s := tne (τ := τ) (by omega)
  have m43 : c ≠ v := tne (τ := τ) (by omega)
  have m45 : c ≠ o := tne (τ := τ) (by omega)
  have m50 : o ≠ a := tne (τ := τ) (by omega)
  have m51 : o ≠ n := tne (τ := τ) (by omega)
  have m52 : o ≠ s := tne (τ := τ) (by omega)
  have m53 : o ≠ v := tne (τ := τ) (by omega)
  have m54 : o ≠ c := tne (τ := τ) (by omega)
  refine i_aload_n C dX2_clear_0 (kk := ?_)
  refine i_iconst C dX2_clear_1 (kk := ?_)
  refine i_putf C fk_X2_24 dX2_clear_2 (hw := by first | assumption | exact wset_eq | (refine (wset_ne ?_).trans ?_; (first | assumption | exact Ne.symm (by assumption)); (assumption))) (kk := ?_)
  refine i_aload_n C dX2_clear_5 (kk := ?_)
  refine i_iconst C dX2_clear_6 (kk := ?_)
  refine i_putf C fk_X2_28 dX2_clear_7 (hw := by first | assumption | exact wset_eq | (refine (wset_ne ?_).trans ?_; (first | assumption | exact Ne.symm (by assumption)); (assumption))) (kk := ?_)
  refine i_aload_n C dX2_clear_10 (kk := ?_)
  refine i_iconst C dX2_clear_11 (kk := ?_)
  refine i_putf C fk_X2_34 dX2_clear_12 (hw := by first | assumption | exact wset_eq | (refine (wset_ne ?_).trans ?_; (first | assumption | exact Ne.symm (by assumption)); (assumption))) (kk := ?_)
  exact i_vret C (d := dX2_clear_15) (h := ⟨rfl, ⟨t1, t2, t3, t4, t5, t6, wset_eq, by decide, by decide, (fun p hp => nomatch hp), (fun p hp => nomatch hp), fn, fs, fv, fc, fo, by first | assumption | exact wset_eq | (refine (wset_ne ?_).trans ?_; (first | assumption | exact Ne.symm (by assumption)); (first | assumption | exact wset_eq | (refine (wset_ne ?_).trans ?_; (first | assumption | exact Ne.symm (by assumption)); (first | assumption | exact wset_eq | (refine (wset_ne ?_).trans ?_; (first | assumption | exact Ne.symm (by assumption)); (assumption)))))), by first | assumption | exact wset_eq | (refine (wset_ne ?_).trans ?_; (first | assumption | exact Ne.symm (by assumption)); (first | assumption | exact wset_eq | (refine (wset_ne ?_).trans ?_; (first | assumption | exact Ne.symm (by assumption)); (first | assumption | exact wset_eq | (refine (wset_ne ?_).trans ?_; (first | assumption | exact Ne.symm (by assumption)); (assumption)))))), by first | assumption | exact wset_eq | (refine (wset_ne ?_).trans ?_; (first | assumption | exact Ne.symm (by assumption)); (first | assumption | exact wset_eq | (refine (wset_ne ?_).trans ?_; (first | assumption | exact Ne.symm (by assumption)); (first | assumption | exact wset_eq | (refine (wset_ne ?_).trans ?_; (first | assumption | exact Ne.symm (by assumption)); (assumption)))))), by first | assumption | exact wset_eq | (refine (wset_ne ?_).trans ?_; (first | assumption | exact Ne.symm (by assumption)); (first | assumption | exact wset_eq | (refine (wset_ne ?_).trans ?_; (first | assumption | exact Ne.symm (by assumption)); (first | assumption | exact wset_eq | (refine (wset_ne ?_).trans ?_; (first | assumption | exact Ne.symm (by assumption)); (assumption)))))), by first | assumption | exact wset_eq | (refine (wset_ne ?_).trans ?_; (first | assumption | exact Ne.symm (by assumption)); (first | assumption | exact wset_eq | (refine (wset_ne ?_).trans ?_; (first | assumption | exact Ne.symm (by assumption)); (first | assumption | exact wset_eq | (refine (wset_ne ?_).trans ?_; (first | assumption | exact Ne.symm (by assumption)); (assumption)))))), (fun i hi => absurd hi (Nat.not_lt_zero i)), (fun i hi => absurd hi (Nat.not_lt_zero i))⟩, ((offR.rf.put (by omega) (by omega)).put (by omega) (by omega)).put (by omega) (by omega)⟩)

set_option maxRecDepth 100000 in
set_option maxHeartbeats 4000000 in
theorem c_X2_closeWhen (l : Launch) (hl : l.stackTraces = false) (D : gD) {w : wW} {τ : Nat → Nat} {r a n s v c o : Nat} {its : List It4} {os : List Int} (hS : SpT D w τ r a n s v c o its os := by assumption) : CTm l D yX2_closeWhen cX2_closeWhen 1 none (rmL 1 0 0) [.ref a] w (fun u w1 => u = none ∧ SpT D w1 τ r a n s v c o its os.dropLast ∧ offR τ w w1 r (r + 6)) := by
  refine CTm_of hl false rfl (by rfl) (Nat.le_of_ble_eq_true rfl) (fun h => nomatch h) ?_
  intro G C
  show G 0 0 w [some (.ref a)] 0 []
  have kS := hS
  obtain ⟨t1, t2, t3, t4, t5, t6, k1, b1, b2, b3, b4, fn, fs, fv, fc, fo, k2, k3, k4, k5, k6, z1, z2⟩ := hS
  have m01 : a ≠ n := tne (τ := τ) (by omega)
  have m02 : a ≠ s := tne (τ := τ) (by omega)
  have m03 : a ≠ v := tne (τ := τ) (by omega)
  have m04 : a ≠ c := tne (τ := τ) (by omega)
  have m05 : a ≠ o := tne (τ := τ) (by omega)
  have m10 : n ≠ a := tne (τ := τ) (by omega)
  have m12 : n ≠ s := tne (τ := τ) (by omega)
  have m13 : n ≠ v := tne (τ := τ) (by omega)
  have m14 : n ≠ c := tne (τ := τ) (by omega)
  have m15 : n ≠ o := tne (τ := τ) (by omega)
  have m20 : s ≠ a := tne (τ := τ) (by omega)
  have m21 : s ≠ n := tne (τ := τ) (by omega)
  have m23 : s ≠ v := tne (τ := τ) (by omega)
  have m24 : s ≠ c := tne (τ := τ) (by omega)
  have m25 : s ≠ o := tne (τ := τ) (by omega)
  have m30 : v ≠ a := tne (τ := τ) (by omega)
  have m31 : v ≠ n := tne (τ := τ) (by omega)
  have m32 : v ≠ s := tne (τ := τ) (by omega)
  have m34 : v ≠ c := tne (τ := τ) (by omega)
  have m35 : v ≠ o := tne (τ := τ) (by omega)
  have m40 : c ≠ a := tne (τ := τ) (by omega)
  have m41 : c ≠ n := tne (τ := τ) (by omega)
  have m42 : c ≠ s := tne (τ := τ) (by omega)
  have m43 : c ≠ v := tne (τ := τ) (by omega)
  have m45 : c ≠ o := tne (τ := τ) (by omega)
  have m50 : o ≠ a := tne (τ := τ) (by omega)
  have m51 : o ≠ n := tne (τ := τ) (by omega)
  have m52 : o ≠ s := tne (τ := τ) (by omega)
  have m53 : o ≠ v := tne (τ := τ) (by omega)
  have m54 : o ≠ c := tne (τ := τ) (by omega)
  refine i_aload_n C dX2_closeWhen_0 (kk := ?_)
  refine i_getf C f_X2_34 dX2_closeWhen_1 (hw := by first | assumption | exact wset_eq | (refine (wset_ne ?_).trans ?_; (first | assumption | exact Ne.symm (by assumption)); (assumption))) (kk := ?_)
  refine i_if_le C dX2_closeWhen_4 (tgt := 17) (kt := fun hB4 => ?_) (kf := fun hB4 => ?_)
  · exact i_vret C (d := dX2_closeWhen_17) (h := by first
        | (have e9 : os = [] := List.length_eq_zero_iff.mp (by omega)
           subst e9
           exact ⟨rfl, kS, offR.rf⟩)
        | (have e9 : (os.length : Int) - 1 = ((os.dropLast.length : Nat) : Int) := by rw [List.length_dropLast]; omega
           rw [e9]
           exact ⟨rfl, ⟨t1, t2, t3, t4, t5, t6, wset_eq, b1, by rw [List.length_dropLast]; omega, b3, fun x hx => b4 x (List.dropLast_subset os hx), fn, fs, fv, fc, fo, by first | assumption | exact wset_eq | (refine (wset_ne ?_).trans ?_; (first | assumption | exact Ne.symm (by assumption)); (first | assumption | exact wset_eq | (refine (wset_ne ?_).trans ?_; (first | assumption | exact Ne.symm (by assumption)); (assumption)))), by first | assumption | exact wset_eq | (refine (wset_ne ?_).trans ?_; (first | assumption | exact Ne.symm (by assumption)); (first | assumption | exact wset_eq | (refine (wset_ne ?_).trans ?_; (first | assumption | exact Ne.symm (by assumption)); (assumption)))), by first | assumption | exact wset_eq | (refine (wset_ne ?_).trans ?_; (first | assumption | exact Ne.symm (by assumption)); (first | assumption | exact wset_eq | (refine (wset_ne ?_).trans ?_; (first | assumption | exact Ne.symm (by assumption)); (assumption)))), by first | assumption | exact wset_eq | (refine (wset_ne ?_).trans ?_; (first | assumption | exact Ne.symm (by assumption)); (first | assumption | exact wset_eq | (refine (wset_ne ?_).trans ?_; (first | assumption | exact Ne.symm (by assumption)); (assumption)))), by first | assumption | exact wset_eq | (refine (wset_ne ?_).trans ?_; (first | assumption | exact Ne.symm (by assumption)); (first | assumption | exact wset_eq | (refine (wset_ne ?_).trans ?_; (first | assumption | exact Ne.symm (by assumption)); (assumption)))), z1, fun i hi => by rw [List.length_dropLast] at hi; rw [z2 i (by omega), List.getD_eq_getElem?_getD, List.getD_eq_getElem?_getD, List.getElem?_dropLast, if_pos (by omega)]⟩, offR.rf.put (by omega) (by omega)⟩))
  · refine i_aload_n C dX2_closeWhen_7 (kk := ?_)
    refine i_dup C dX2_closeWhen_8 (kk := ?_)
    refine i_getf C f_X2_34 dX2_closeWhen_9 (hw := by first | assumption | exact wset_eq | (refine (wset_ne ?_).trans ?_; (first | assumption | exact Ne.symm (by assumption)); (assumption))) (kk := ?_)
    refine i_iconst C dX2_closeWhen_12 (kk := ?_)
    refine i_isub C dX2_closeWhen_13 (kk := ?_)
    refine i_putf C fk_X2_34 dX2_closeWhen_14 (hw := by first | assumption | exact wset_eq | (refine (wset_ne ?_).trans ?_; (first | assumption | exact Ne.symm (by assumption)); (assumption))) (kk := ?_)
    exact i_vret C (d := dX2_closeWhen_17) (h := by first
        | (have e9 : os = [] := List.length_eq_zero_iff.mp (by omega)
           subst e9
           exact ⟨rfl, kS, offR.rf⟩)
        | (have e9 : (os.length : Int) - 1 = ((os.dropLast.length : Nat) : Int) := by rw [List.length_dropLast]; omega
           rw [e9]
           exact ⟨rfl, ⟨t1, t2, t3, t4, t5, t6, wset_eq, b1, by rw [List.length_dropLast]; omega, b3, fun x hx => b4 x (List.dropLast_subset os hx), fn, fs, fv, fc, fo, by first | assumption | exact wset_eq | (refine (wset_ne ?_).trans ?_; (first | assumption | exact Ne.symm (by assumption)); (first | assumption | exact wset_eq | (refine (wset_ne ?_).trans ?_; (first | assumption | exact Ne.symm (by assumption)); (assumption)))), by first | assumption | exact wset_eq | (refine (wset_ne ?_).trans ?_; (first | assumption | exact Ne.symm (by assumption)); (first | assumption | exact wset_eq | (refine (wset_ne ?_).trans ?_; (first | assumption | exact Ne.symm (by assumption)); (assumption)))), by first | assumption | exact wset_eq | (refine (wset_ne ?_).trans ?_; (first | assumption | exact Ne.symm (by assumption)); (first | assumption | exact wset_eq | (refine (wset_ne ?_).trans ?_; (first | assumption | exact Ne.symm (by assumption)); (assumption)))), by first | assumption | exact wset_eq | (refine (wset_ne ?_).trans ?_; (first | assumption | exact Ne.symm (by assumption)); (first | assumption | exact wset_eq | (refine (wset_ne ?_).trans ?_; (first | assumption | exact Ne.symm (by assumption)); (assumption)))), by first | assumption | exact wset_eq | (refine (wset_ne ?_).trans ?_; (first | assumption | exact Ne.symm (by assumption)); (first | assumption | exact wset_eq | (refine (wset_ne ?_).trans ?_; (first | assumption | exact Ne.symm (by assumption)); (assumption)))), z1, fun i hi => by rw [List.length_dropLast] at hi; rw [z2 i (by omega), List.getD_eq_getElem?_getD, List.getD_eq_getElem?_getD, List.getElem?_dropLast, if_pos (by omega)]⟩, offR.rf.put (by omega) (by omega)⟩))

set_option maxRecDepth 100000 in
set_option maxHeartbeats 4000000 in
theorem c_X2_openWhen (l : Launch) (hl : l.stackTraces = false) (D : gD) {w : wW} {τ : Nat → Nat} {r a n s v c o : Nat} {its : List It4} {os : List Int} {g : Int} (hS : SpT D w τ r a n s v c o its os := by assumption) (hos : os.length < 30) (hg : -1 ≤ g ∧ g ≤ 25) : CTm l D yX2_openWhen cX2_openWhen 2 none (rmL 3 0 0) [.ref a, .int (Z32 g)] w (fun u w1 => u = none ∧ SpT D w1 τ r a n s v c o its (os ++ [tog (ndo os) g]) ∧ offR τ w w1 r (r + 6)) := by
  refine CTm_of hl false rfl (by rfl) (Nat.le_of_ble_eq_true rfl) (fun h => nomatch h) ?_
  intro G C
  show G 0 0 w [some (.ref a), some (.int (Z32 g))] 0 []
  have kS := hS
  have knd := hS.nd
  obtain ⟨t1, t2, t3, t4, t5, t6, k1, b1, b2, b3, b4, fn, fs, fv, fc, fo, k2, k3, k4, k5, k6, z1, z2⟩ := hS
  have m01 : a ≠ n := tne (τ := τ) (by omega)
  have m02 : a ≠ s := tne (τ := τ) (by omega)
  have m03 : a ≠ v := tne (τ := τ) (by omega)
  have m04 : a ≠ c := tne (τ := τ) (by omega)
  have m05 : a ≠ o := tne (τ := τ) (by omega)
  have m10 : n ≠ a := tne (τ := τ) (by omega)
  have m12 : n ≠ s := tne (τ := τ) (by omega)
  have m13 : n ≠ v := tne (τ := τ) (by omega)
  have m14 : n ≠ c := tne (τ := τ) (by omega)
  have m15 : n ≠ o := tne (τ := τ) (by omega)
  have m20 : s ≠ a := tne (τ := τ) (by omega)
  have m21 : s ≠ n := tne (τ := τ) (by omega)
  have m23 : s ≠ v := tne (τ := τ) (by omega)
  have m24 : s ≠ c := tne (τ := τ) (by omega)
  have m25 : s ≠ o := tne (τ := τ) (by omega)
  have m30 : v ≠ a := tne (τ := τ) (by omega)
  have m31 : v ≠ n := tne (τ := τ) (by omega)
  have m32 : v ≠ s := tne (τ := τ) (by omega)
  have m34 : v ≠ c := tne (τ := τ) (by omega)
  have m35 : v ≠ o := tne (τ := τ) (by omega)
  have m40 : c ≠ a := tne (τ := τ) (by omega)
  have m41 : c ≠ n := tne (τ := τ) (by omega)
  have m42 : c ≠ s := tne (τ := τ) (by omega)
  have m43 : c ≠ v := tne (τ := τ) (by omega)
  have m45 : c ≠ o := tne (τ := τ) (by omega)
  have m50 : o ≠ a := tne (τ := τ) (by omega)
  have m51 : o ≠ n := tne (τ := τ) (by omega)
  have m52 : o ≠ s := tne (τ := τ) (by omega)
  have m53 : o ≠ v := tne (τ := τ) (by omega)
  have m54 : o ≠ c := tne (τ := τ) (by omega)
  have etg := tog_R knd (b := g) (by omega)
  refine i_aload_n C dX2_openWhen_0 (kk := ?_)
  refine i_getf C f_X2_34 dX2_openWhen_1 (hw := by first | assumption | exact wset_eq | (refine (wset_ne ?_).trans ?_; (first | assumption | exact Ne.symm (by assumption)); (first | assumption | exact wset_eq | (refine (wset_ne ?_).trans ?_; (first | assumption | exact Ne.symm (by assumption)); (assumption))))) (kk := ?_)
  refine i_bipush C dX2_openWhen_4 (kk := ?_)
  refine i_icmp_ge C dX2_openWhen_6 (tgt := 38) (kt := fun hB6 => ?_) (kf := fun hB6 => ?_)
  · exfalso; omega
  · refine i_aload_n C dX2_openWhen_9 (kk := ?_)
    refine i_getf C f_X2_31 dX2_openWhen_10 (hw := by first | assumption | exact wset_eq | (refine (wset_ne ?_).trans ?_; (first | assumption | exact Ne.symm (by assumption)); (first | assumption | exact wset_eq | (refine (wset_ne ?_).trans ?_; (first | assumption | exact Ne.symm (by assumption)); (assumption))))) (kk := ?_)
    refine i_aload_n C dX2_openWhen_13 (kk := ?_)
    refine i_getf C f_X2_34 dX2_openWhen_14 (hw := by first | assumption | exact wset_eq | (refine (wset_ne ?_).trans ?_; (first | assumption | exact Ne.symm (by assumption)); (first | assumption | exact wset_eq | (refine (wset_ne ?_).trans ?_; (first | assumption | exact Ne.symm (by assumption)); (assumption))))) (kk := ?_)
    refine i_aload_n C dX2_openWhen_17 (kk := ?_)
    refine i_callV C lk_X2_37 (c_X2_need l hl D (hS := kS)) (hcl := rfl) (hst := rfl) dX2_openWhen_18 (hw := k1) (kk := fun v18 w18 g18 => ?_)
    obtain ⟨rfl, q18⟩ := g18
    have q18 := q18.symm
    subst q18
    refine i_iload_n C dX2_openWhen_21 (kk := ?_)
    refine i_callS C lk_X2_41 (c_X2_together l hl D) (hst := rfl) dX2_openWhen_22 (kk := fun v22 w22 g22 => ?_)
    obtain ⟨rfl, q22⟩ := g22
    have q22 := q22.symm
    subst q22
    refine i_callSN C lk_X2_45 (c_X6_put l hl D (f := fo) (a := o)) (hst := rfl) dX2_openWhen_25 (kk := fun v25 w25 g25 => ?_)
    obtain ⟨rfl, rfl⟩ := g25
    rw [putz_nat (by omega)]
    refine i_aload_n C dX2_openWhen_28 (kk := ?_)
    refine i_dup C dX2_openWhen_29 (kk := ?_)
    refine i_getf C f_X2_34 dX2_openWhen_30 (hw := by first | assumption | exact wset_eq | (refine (wset_ne ?_).trans ?_; (first | assumption | exact Ne.symm (by assumption)); (first | assumption | exact wset_eq | (refine (wset_ne ?_).trans ?_; (first | assumption | exact Ne.symm (by assumption)); (assumption))))) (kk := ?_)
    refine i_iconst C dX2_openWhen_33 (kk := ?_)
    refine i_iadd C dX2_openWhen_34 (kk := ?_)
    refine i_putf C fk_X2_34 dX2_openWhen_35 (hw := by first | assumption | exact wset_eq | (refine (wset_ne ?_).trans ?_; (first | assumption | exact Ne.symm (by assumption)); (first | assumption | exact wset_eq | (refine (wset_ne ?_).trans ?_; (first | assumption | exact Ne.symm (by assumption)); (assumption))))) (kk := ?_)
    exact i_vret C (d := dX2_openWhen_38) (h := ⟨rfl, ⟨t1, t2, t3, t4, t5, t6, by rw [wset_eq, List.length_append]; rfl, b1, by rw [List.length_append]; show os.length + 1 ≤ 30; omega, b3, fun x hx => by (rcases List.mem_append.mp hx with h | h; exact b4 x h; rw [List.mem_singleton.mp h]; exact etg), fn, fs, fv, fc, upz fo os.length (tog (ndo os) g), by first | assumption | exact wset_eq | (refine (wset_ne ?_).trans ?_; (first | assumption | exact Ne.symm (by assumption)); (first | assumption | exact wset_eq | (refine (wset_ne ?_).trans ?_; (first | assumption | exact Ne.symm (by assumption)); (first | assumption | exact wset_eq | (refine (wset_ne ?_).trans ?_; (first | assumption | exact Ne.symm (by assumption)); (assumption)))))), by first | assumption | exact wset_eq | (refine (wset_ne ?_).trans ?_; (first | assumption | exact Ne.symm (by assumption)); (first | assumption | exact wset_eq | (refine (wset_ne ?_).trans ?_; (first | assumption | exact Ne.symm (by assumption)); (first | assumption | exact wset_eq | (refine (wset_ne ?_).trans ?_; (first | assumption | exact Ne.symm (by assumption)); (assumption)))))), by first | assumption | exact wset_eq | (refine (wset_ne ?_).trans ?_; (first | assumption | exact Ne.symm (by assumption)); (first | assumption | exact wset_eq | (refine (wset_ne ?_).trans ?_; (first | assumption | exact Ne.symm (by assumption)); (first | assumption | exact wset_eq | (refine (wset_ne ?_).trans ?_; (first | assumption | exact Ne.symm (by assumption)); (assumption)))))), by first | assumption | exact wset_eq | (refine (wset_ne ?_).trans ?_; (first | assumption | exact Ne.symm (by assumption)); (first | assumption | exact wset_eq | (refine (wset_ne ?_).trans ?_; (first | assumption | exact Ne.symm (by assumption)); (first | assumption | exact wset_eq | (refine (wset_ne ?_).trans ?_; (first | assumption | exact Ne.symm (by assumption)); (assumption)))))), by first | assumption | exact wset_eq | (refine (wset_ne ?_).trans ?_; (first | assumption | exact Ne.symm (by assumption)); (first | assumption | exact wset_eq | (refine (wset_ne ?_).trans ?_; (first | assumption | exact Ne.symm (by assumption)); (first | assumption | exact wset_eq | (refine (wset_ne ?_).trans ?_; (first | assumption | exact Ne.symm (by assumption)); (assumption)))))), z1, fun i hi => by (rw [List.length_append] at hi; rw [List.getD_eq_getElem?_getD]; by_cases q : i = os.length; (subst q; rw [upz_eq, List.getElem?_append_right (Nat.le_refl _), Nat.sub_self]; rfl); (have q2 : i < os.length := by simp at hi; omega); rw [upz_ne q, List.getElem?_append_left q2, z2 i q2, List.getD_eq_getElem?_getD])⟩, (offR.rf.put (by omega) (by omega)).put (by omega) (by omega)⟩)

set_option maxRecDepth 100000 in
set_option maxHeartbeats 4000000 in
theorem c_X2_add (l : Launch) (hl : l.stackTraces = false) (D : gD) {w : wW} {τ : Nat → Nat} {r a n s v c o : Nat} {its : List It4} {os : List Int} {x1 x2 x3 x4 : Int} (hS : SpT D w τ r a n s v c o its os := by assumption) (hx : -2 ≤ x1) (hv : x1 ≠ -2 → ItV (x1, x2, x3, x4)) (hx2 : x1 ≤ 25) : CTm l D yX2_add cX2_add 5 none (rmL 3 0 0) [.ref a, .int (Z32 x1), .int (Z32 x2), .int (Z32 x3), .int (Z32 x4)] w (fun u w1 => u = none ∧ SpT D w1 τ r a n s v c o (sadd its (x1, x2, x3, x4)) os ∧ offR τ w w1 r (r + 6)) := by
  refine CTm_of hl false rfl (by rfl) (Nat.le_of_ble_eq_true rfl) (fun h => nomatch h) ?_
  intro G C
  show G 0 0 w [some (.ref a), some (.int (Z32 x1)), some (.int (Z32 x2)), some (.int (Z32 x3)), some (.int (Z32 x4))] 0 []
  have kS := hS
  obtain ⟨t1, t2, t3, t4, t5, t6, k1, b1, b2, b3, b4, fn, fs, fv, fc, fo, k2, k3, k4, k5, k6, z1, z2⟩ := hS
  have m01 : a ≠ n := tne (τ := τ) (by omega)
  have m02 : a ≠ s := tne (τ := τ) (by omega)
  have m03 : a ≠ v := tne (τ := τ) (by omega)
  have m04 : a ≠ c := tne (τ := τ) (by omega)
  have m05 : a ≠ o := tne (τ := τ) (by omega)
  have m10 : n ≠ a := tne (τ := τ) (by omega)
  have m12 : n ≠ s := tne (τ := τ) (by omega)
  have m13 : n ≠ v := tne (τ := τ) (by omega)
  have m14 : n ≠ c := tne (τ := τ) (by omega)
  have m15 : n ≠ o := tne (τ := τ) (by omega)
  have m20 : s ≠ a := tne (τ := τ) (by omega)
  have m21 : s ≠ n := tne (τ := τ) (by omega)
  have m23 : s ≠ v := tne (τ := τ) (by omega)
  have m24 : s ≠ c := tne (τ := τ) (by omega)
  have m25 : s ≠ o := tne (τ := τ) (by omega)
  have m30 : v ≠ a := tne (τ := τ) (by omega)
  have m31 : v ≠ n := tne (τ := τ) (by omega)
  have m32 : v ≠ s := tne (τ := τ) (by omega)
  have m34 : v ≠ c := tne (τ := τ) (by omega)
  have m35 : v ≠ o := tne (τ := τ) (by omega)
  have m40 : c ≠ a := tne (τ := τ) (by omega)
  have m41 : c ≠ n := tne (τ := τ) (by omega)
  have m42 : c ≠ s := tne (τ := τ) (by omega)
  have m43 : c ≠ v := tne (τ := τ) (by omega)
  have m45 : c ≠ o := tne (τ := τ) (by omega)
  have m50 : o ≠ a := tne (τ := τ) (by omega)
  have m51 : o ≠ n := tne (τ := τ) (by omega)
  have m52 : o ≠ s := tne (τ := τ) (by omega)
  have m53 : o ≠ v := tne (τ := τ) (by omega)
  have m54 : o ≠ c := tne (τ := τ) (by omega)
  refine i_iload_n C dX2_add_0 (kk := ?_)
  refine i_bipush C dX2_add_1 (kk := ?_)
  refine i_icmp_eq C dX2_add_3 (tgt := 15) (kt := fun hB3 => ?_) (kf := fun hB3 => ?_)
  · exact i_vret C (d := dX2_add_15) (h := ⟨rfl, by unfold sadd; rw [if_pos (by first | exact Or.inl hB3 | exact Or.inr (by omega))]; exact kS, offR.rf⟩)
  · refine i_aload_n C dX2_add_6 (kk := ?_)
    refine i_getf C f_X2_24 dX2_add_7 (hw := by first | assumption | exact wset_eq | (refine (wset_ne ?_).trans ?_; (first | assumption | exact Ne.symm (by assumption)); (first | assumption | exact wset_eq | (refine (wset_ne ?_).trans ?_; (first | assumption | exact Ne.symm (by assumption)); (first | assumption | exact wset_eq | (refine (wset_ne ?_).trans ?_; (first | assumption | exact Ne.symm (by assumption)); (first | assumption | exact wset_eq | (refine (wset_ne ?_).trans ?_; (first | assumption | exact Ne.symm (by assumption)); (first | assumption | exact wset_eq | (refine (wset_ne ?_).trans ?_; (first | assumption | exact Ne.symm (by assumption)); (assumption))))))))))) (kk := ?_)
    refine i_bipush C dX2_add_10 (kk := ?_)
    refine i_icmp_lt C dX2_add_12 (tgt := 16) (kt := fun hB12 => ?_) (kf := fun hB12 => ?_)
    · refine i_aload_n C dX2_add_16 (kk := ?_)
      refine i_getf C f_X2_9 dX2_add_17 (hw := by first | assumption | exact wset_eq | (refine (wset_ne ?_).trans ?_; (first | assumption | exact Ne.symm (by assumption)); (first | assumption | exact wset_eq | (refine (wset_ne ?_).trans ?_; (first | assumption | exact Ne.symm (by assumption)); (first | assumption | exact wset_eq | (refine (wset_ne ?_).trans ?_; (first | assumption | exact Ne.symm (by assumption)); (first | assumption | exact wset_eq | (refine (wset_ne ?_).trans ?_; (first | assumption | exact Ne.symm (by assumption)); (first | assumption | exact wset_eq | (refine (wset_ne ?_).trans ?_; (first | assumption | exact Ne.symm (by assumption)); (assumption))))))))))) (kk := ?_)
      refine i_aload_n C dX2_add_20 (kk := ?_)
      refine i_getf C f_X2_24 dX2_add_21 (hw := by first | assumption | exact wset_eq | (refine (wset_ne ?_).trans ?_; (first | assumption | exact Ne.symm (by assumption)); (first | assumption | exact wset_eq | (refine (wset_ne ?_).trans ?_; (first | assumption | exact Ne.symm (by assumption)); (first | assumption | exact wset_eq | (refine (wset_ne ?_).trans ?_; (first | assumption | exact Ne.symm (by assumption)); (first | assumption | exact wset_eq | (refine (wset_ne ?_).trans ?_; (first | assumption | exact Ne.symm (by assumption)); (first | assumption | exact wset_eq | (refine (wset_ne ?_).trans ?_; (first | assumption | exact Ne.symm (by assumption)); (assumption))))))))))) (kk := ?_)
      refine i_iload_n C dX2_add_24 (kk := ?_)
      refine i_callSN C lk_X2_45 (c_X6_put l hl D (f := fn) (a := n)) (hst := rfl) dX2_add_25 (kk := fun v25 w25 g25 => ?_)
      obtain ⟨rfl, rfl⟩ := g25
      rw [putz_nat (by omega)]
      refine i_aload_n C dX2_add_28 (kk := ?_)
      refine i_getf C f_X2_15 dX2_add_29 (hw := by first | assumption | exact wset_eq | (refine (wset_ne ?_).trans ?_; (first | assumption | exact Ne.symm (by assumption)); (first | assumption | exact wset_eq | (refine (wset_ne ?_).trans ?_; (first | assumption | exact Ne.symm (by assumption)); (first | assumption | exact wset_eq | (refine (wset_ne ?_).trans ?_; (first | assumption | exact Ne.symm (by assumption)); (first | assumption | exact wset_eq | (refine (wset_ne ?_).trans ?_; (first | assumption | exact Ne.symm (by assumption)); (first | assumption | exact wset_eq | (refine (wset_ne ?_).trans ?_; (first | assumption | exact Ne.symm (by assumption)); (assumption))))))))))) (kk := ?_)
      refine i_aload_n C dX2_add_32 (kk := ?_)
      refine i_getf C f_X2_24 dX2_add_33 (hw := by first | assumption | exact wset_eq | (refine (wset_ne ?_).trans ?_; (first | assumption | exact Ne.symm (by assumption)); (first | assumption | exact wset_eq | (refine (wset_ne ?_).trans ?_; (first | assumption | exact Ne.symm (by assumption)); (first | assumption | exact wset_eq | (refine (wset_ne ?_).trans ?_; (first | assumption | exact Ne.symm (by assumption)); (first | assumption | exact wset_eq | (refine (wset_ne ?_).trans ?_; (first | assumption | exact Ne.symm (by assumption)); (first | assumption | exact wset_eq | (refine (wset_ne ?_).trans ?_; (first | assumption | exact Ne.symm (by assumption)); (assumption))))))))))) (kk := ?_)
      refine i_iload_n C dX2_add_36 (kk := ?_)
      refine i_callSN C lk_X2_45 (c_X6_put l hl D (f := fs) (a := s) (hw := by first | assumption | exact wset_eq | (refine (wset_ne ?_).trans ?_; (first | assumption | exact Ne.symm (by assumption)); (assumption)))) (hst := rfl) dX2_add_37 (kk := fun v37 w37 g37 => ?_)
      obtain ⟨rfl, rfl⟩ := g37
      rw [putz_nat (by omega)]
      refine i_aload_n C dX2_add_40 (kk := ?_)
      refine i_getf C f_X2_18 dX2_add_41 (hw := by first | assumption | exact wset_eq | (refine (wset_ne ?_).trans ?_; (first | assumption | exact Ne.symm (by assumption)); (first | assumption | exact wset_eq | (refine (wset_ne ?_).trans ?_; (first | assumption | exact Ne.symm (by assumption)); (first | assumption | exact wset_eq | (refine (wset_ne ?_).trans ?_; (first | assumption | exact Ne.symm (by assumption)); (first | assumption | exact wset_eq | (refine (wset_ne ?_).trans ?_; (first | assumption | exact Ne.symm (by assumption)); (first | assumption | exact wset_eq | (refine (wset_ne ?_).trans ?_; (first | assumption | exact Ne.symm (by assumption)); (assumption))))))))))) (kk := ?_)
      refine i_aload_n C dX2_add_44 (kk := ?_)
      refine i_getf C f_X2_24 dX2_add_45 (hw := by first | assumption | exact wset_eq | (refine (wset_ne ?_).trans ?_; (first | assumption | exact Ne.symm (by assumption)); (first | assumption | exact wset_eq | (refine (wset_ne ?_).trans ?_; (first | assumption | exact Ne.symm (by assumption)); (first | assumption | exact wset_eq | (refine (wset_ne ?_).trans ?_; (first | assumption | exact Ne.symm (by assumption)); (first | assumption | exact wset_eq | (refine (wset_ne ?_).trans ?_; (first | assumption | exact Ne.symm (by assumption)); (first | assumption | exact wset_eq | (refine (wset_ne ?_).trans ?_; (first | assumption | exact Ne.symm (by assumption)); (assumption))))))))))) (kk := ?_)
      refine i_iload_n C dX2_add_48 (kk := ?_)
      refine i_callSN C lk_X2_45 (c_X6_put l hl D (f := fv) (a := v) (hw := by first | assumption | exact wset_eq | (refine (wset_ne ?_).trans ?_; (first | assumption | exact Ne.symm (by assumption)); (first | assumption | exact wset_eq | (refine (wset_ne ?_).trans ?_; (first | assumption | exact Ne.symm (by assumption)); (assumption)))))) (hst := rfl) dX2_add_49 (kk := fun v49 w49 g49 => ?_)
      obtain ⟨rfl, rfl⟩ := g49
      rw [putz_nat (by omega)]
      refine i_aload_n C dX2_add_52 (kk := ?_)
      refine i_getf C f_X2_21 dX2_add_53 (hw := by first | assumption | exact wset_eq | (refine (wset_ne ?_).trans ?_; (first | assumption | exact Ne.symm (by assumption)); (first | assumption | exact wset_eq | (refine (wset_ne ?_).trans ?_; (first | assumption | exact Ne.symm (by assumption)); (first | assumption | exact wset_eq | (refine (wset_ne ?_).trans ?_; (first | assumption | exact Ne.symm (by assumption)); (first | assumption | exact wset_eq | (refine (wset_ne ?_).trans ?_; (first | assumption | exact Ne.symm (by assumption)); (first | assumption | exact wset_eq | (refine (wset_ne ?_).trans ?_; (first | assumption | exact Ne.symm (by assumption)); (assumption))))))))))) (kk := ?_)
      refine i_aload_n C dX2_add_56 (kk := ?_)
      refine i_getf C f_X2_24 dX2_add_57 (hw := by first | assumption | exact wset_eq | (refine (wset_ne ?_).trans ?_; (first | assumption | exact Ne.symm (by assumption)); (first | assumption | exact wset_eq | (refine (wset_ne ?_).trans ?_; (first | assumption | exact Ne.symm (by assumption)); (first | assumption | exact wset_eq | (refine (wset_ne ?_).trans ?_; (first | assumption | exact Ne.symm (by assumption)); (first | assumption | exact wset_eq | (refine (wset_ne ?_).trans ?_; (first | assumption | exact Ne.symm (by assumption)); (first | assumption | exact wset_eq | (refine (wset_ne ?_).trans ?_; (first | assumption | exact Ne.symm (by assumption)); (assumption))))))))))) (kk := ?_)
      refine i_iload C dX2_add_60 (kk := ?_)
      refine i_callSN C lk_X2_45 (c_X6_put l hl D (f := fc) (a := c) (hw := by first | assumption | exact wset_eq | (refine (wset_ne ?_).trans ?_; (first | assumption | exact Ne.symm (by assumption)); (first | assumption | exact wset_eq | (refine (wset_ne ?_).trans ?_; (first | assumption | exact Ne.symm (by assumption)); (first | assumption | exact wset_eq | (refine (wset_ne ?_).trans ?_; (first | assumption | exact Ne.symm (by assumption)); (assumption)))))))) (hst := rfl) dX2_add_62 (kk := fun v62 w62 g62 => ?_)
      obtain ⟨rfl, rfl⟩ := g62
      rw [putz_nat (by omega)]
      refine i_aload_n C dX2_add_65 (kk := ?_)
      refine i_dup C dX2_add_66 (kk := ?_)
      refine i_getf C f_X2_24 dX2_add_67 (hw := by first | assumption | exact wset_eq | (refine (wset_ne ?_).trans ?_; (first | assumption | exact Ne.symm (by assumption)); (first | assumption | exact wset_eq | (refine (wset_ne ?_).trans ?_; (first | assumption | exact Ne.symm (by assumption)); (first | assumption | exact wset_eq | (refine (wset_ne ?_).trans ?_; (first | assumption | exact Ne.symm (by assumption)); (first | assumption | exact wset_eq | (refine (wset_ne ?_).trans ?_; (first | assumption | exact Ne.symm (by assumption)); (first | assumption | exact wset_eq | (refine (wset_ne ?_).trans ?_; (first | assumption | exact Ne.symm (by assumption)); (assumption))))))))))) (kk := ?_)
      refine i_iconst C dX2_add_70 (kk := ?_)
      refine i_iadd C dX2_add_71 (kk := ?_)
      refine i_putf C fk_X2_24 dX2_add_72 (hw := by first | assumption | exact wset_eq | (refine (wset_ne ?_).trans ?_; (first | assumption | exact Ne.symm (by assumption)); (first | assumption | exact wset_eq | (refine (wset_ne ?_).trans ?_; (first | assumption | exact Ne.symm (by assumption)); (first | assumption | exact wset_eq | (refine (wset_ne ?_).trans ?_; (first | assumption | exact Ne.symm (by assumption)); (first | assumption | exact wset_eq | (refine (wset_ne ?_).trans ?_; (first | assumption | exact Ne.symm (by assumption)); (first | assumption | exact wset_eq | (refine (wset_ne ?_).trans ?_; (first | assumption | exact Ne.symm (by assumption)); (assumption))))))))))) (kk := ?_)
      have hv9 := hv hB3
      unfold ItV at hv9
      dsimp only at hv9
      refine i_iload_n C dX2_add_75 (kk := ?_)
      refine i_iconst C dX2_add_76 (kk := ?_)
      refine i_icmp_ne C dX2_add_77 (tgt := 97) (kt := fun hB77 => ?_) (kf := fun hB77 => ?_)
      · exact i_vret C (d := dX2_add_97) (h := by first | exact SpT_add t1 t2 t3 t4 t5 t6 b2 b3 b4 z1 z2 (by omega) hB3 (hv hB3) (mm := anv its) (by rw [anb_no (by omega), Nat.or_zero]) (by first | assumption | exact wset_eq | (refine (wset_ne ?_).trans ?_; (first | assumption | exact Ne.symm (by assumption)); (first | assumption | exact wset_eq | (refine (wset_ne ?_).trans ?_; (first | assumption | exact Ne.symm (by assumption)); (first | assumption | exact wset_eq | (refine (wset_ne ?_).trans ?_; (first | assumption | exact Ne.symm (by assumption)); (first | assumption | exact wset_eq | (refine (wset_ne ?_).trans ?_; (first | assumption | exact Ne.symm (by assumption)); (first | assumption | exact wset_eq | (refine (wset_ne ?_).trans ?_; (first | assumption | exact Ne.symm (by assumption)); (first | assumption | exact wset_eq | (refine (wset_ne ?_).trans ?_; (first | assumption | exact Ne.symm (by assumption)); (assumption))))))))))))) (by first | assumption | exact wset_eq | (refine (wset_ne ?_).trans ?_; (first | assumption | exact Ne.symm (by assumption)); (first | assumption | exact wset_eq | (refine (wset_ne ?_).trans ?_; (first | assumption | exact Ne.symm (by assumption)); (first | assumption | exact wset_eq | (refine (wset_ne ?_).trans ?_; (first | assumption | exact Ne.symm (by assumption)); (first | assumption | exact wset_eq | (refine (wset_ne ?_).trans ?_; (first | assumption | exact Ne.symm (by assumption)); (first | assumption | exact wset_eq | (refine (wset_ne ?_).trans ?_; (first | assumption | exact Ne.symm (by assumption)); (first | assumption | exact wset_eq | (refine (wset_ne ?_).trans ?_; (first | assumption | exact Ne.symm (by assumption)); (assumption))))))))))))) (by first | assumption | exact wset_eq | (refine (wset_ne ?_).trans ?_; (first | assumption | exact Ne.symm (by assumption)); (first | assumption | exact wset_eq | (refine (wset_ne ?_).trans ?_; (first | assumption | exact Ne.symm (by assumption)); (first | assumption | exact wset_eq | (refine (wset_ne ?_).trans ?_; (first | assumption | exact Ne.symm (by assumption)); (first | assumption | exact wset_eq | (refine (wset_ne ?_).trans ?_; (first | assumption | exact Ne.symm (by assumption)); (first | assumption | exact wset_eq | (refine (wset_ne ?_).trans ?_; (first | assumption | exact Ne.symm (by assumption)); (first | assumption | exact wset_eq | (refine (wset_ne ?_).trans ?_; (first | assumption | exact Ne.symm (by assumption)); (assumption))))))))))))) (by first | assumption | exact wset_eq | (refine (wset_ne ?_).trans ?_; (first | assumption | exact Ne.symm (by assumption)); (first | assumption | exact wset_eq | (refine (wset_ne ?_).trans ?_; (first | assumption | exact Ne.symm (by assumption)); (first | assumption | exact wset_eq | (refine (wset_ne ?_).trans ?_; (first | assumption | exact Ne.symm (by assumption)); (first | assumption | exact wset_eq | (refine (wset_ne ?_).trans ?_; (first | assumption | exact Ne.symm (by assumption)); (first | assumption | exact wset_eq | (refine (wset_ne ?_).trans ?_; (first | assumption | exact Ne.symm (by assumption)); (first | assumption | exact wset_eq | (refine (wset_ne ?_).trans ?_; (first | assumption | exact Ne.symm (by assumption)); (assumption))))))))))))) (by first | assumption | exact wset_eq | (refine (wset_ne ?_).trans ?_; (first | assumption | exact Ne.symm (by assumption)); (first | assumption | exact wset_eq | (refine (wset_ne ?_).trans ?_; (first | assumption | exact Ne.symm (by assumption)); (first | assumption | exact wset_eq | (refine (wset_ne ?_).trans ?_; (first | assumption | exact Ne.symm (by assumption)); (first | assumption | exact wset_eq | (refine (wset_ne ?_).trans ?_; (first | assumption | exact Ne.symm (by assumption)); (first | assumption | exact wset_eq | (refine (wset_ne ?_).trans ?_; (first | assumption | exact Ne.symm (by assumption)); (first | assumption | exact wset_eq | (refine (wset_ne ?_).trans ?_; (first | assumption | exact Ne.symm (by assumption)); (assumption))))))))))))) (by first | assumption | exact wset_eq | (refine (wset_ne ?_).trans ?_; (first | assumption | exact Ne.symm (by assumption)); (first | assumption | exact wset_eq | (refine (wset_ne ?_).trans ?_; (first | assumption | exact Ne.symm (by assumption)); (first | assumption | exact wset_eq | (refine (wset_ne ?_).trans ?_; (first | assumption | exact Ne.symm (by assumption)); (first | assumption | exact wset_eq | (refine (wset_ne ?_).trans ?_; (first | assumption | exact Ne.symm (by assumption)); (first | assumption | exact wset_eq | (refine (wset_ne ?_).trans ?_; (first | assumption | exact Ne.symm (by assumption)); (first | assumption | exact wset_eq | (refine (wset_ne ?_).trans ?_; (first | assumption | exact Ne.symm (by assumption)); (assumption))))))))))))) (by intro q hq; repeat (rw [wset_ne (fun e => by subst e; omega)])) | exact SpT_add t1 t2 t3 t4 t5 t6 b2 b3 b4 z1 z2 (by omega) hB3 (hv hB3) (mm := anv its ||| 2 ^ n3) (by rw [anb_yes hB77 hB82]) (by first | assumption | exact wset_eq | (refine (wset_ne ?_).trans ?_; (first | assumption | exact Ne.symm (by assumption)); (first | assumption | exact wset_eq | (refine (wset_ne ?_).trans ?_; (first | assumption | exact Ne.symm (by assumption)); (first | assumption | exact wset_eq | (refine (wset_ne ?_).trans ?_; (first | assumption | exact Ne.symm (by assumption)); (first | assumption | exact wset_eq | (refine (wset_ne ?_).trans ?_; (first | assumption | exact Ne.symm (by assumption)); (first | assumption | exact wset_eq | (refine (wset_ne ?_).trans ?_; (first | assumption | exact Ne.symm (by assumption)); (first | assumption | exact wset_eq | (refine (wset_ne ?_).trans ?_; (first | assumption | exact Ne.symm (by assumption)); (assumption))))))))))))) (by first | assumption | exact wset_eq | (refine (wset_ne ?_).trans ?_; (first | assumption | exact Ne.symm (by assumption)); (first | assumption | exact wset_eq | (refine (wset_ne ?_).trans ?_; (first | assumption | exact Ne.symm (by assumption)); (first | assumption | exact wset_eq | (refine (wset_ne ?_).trans ?_; (first | assumption | exact Ne.symm (by assumption)); (first | assumption | exact wset_eq | (refine (wset_ne ?_).trans ?_; (first | assumption | exact Ne.symm (by assumption)); (first | assumption | exact wset_eq | (refine (wset_ne ?_).trans ?_; (first | assumption | exact Ne.symm (by assumption)); (first | assumption | exact wset_eq | (refine (wset_ne ?_).trans ?_; (first | assumption | exact Ne.symm (by assumption)); (assumption))))))))))))) (by first | assumption | exact wset_eq | (refine (wset_ne ?_).trans ?_; (first | assumption | exact Ne.symm (by assumption)); (first | assumption | exact wset_eq | (refine (wset_ne ?_).trans ?_; (first | assumption | exact Ne.symm (by assumption)); (first | assumption | exact wset_eq | (refine (wset_ne ?_).trans ?_; (first | assumption | exact Ne.symm (by assumption)); (first | assumption | exact wset_eq | (refine (wset_ne ?_).trans ?_; (first | assumption | exact Ne.symm (by assumption)); (first | assumption | exact wset_eq | (refine (wset_ne ?_).trans ?_; (first | assumption | exact Ne.symm (by assumption)); (first | assumption | exact wset_eq | (refine (wset_ne ?_).trans ?_; (first | assumption | exact Ne.symm (by assumption)); (assumption))))))))))))) (by first | assumption | exact wset_eq | (refine (wset_ne ?_).trans ?_; (first | assumption | exact Ne.symm (by assumption)); (first | assumption | exact wset_eq | (refine (wset_ne ?_).trans ?_; (first | assumption | exact Ne.symm (by assumption)); (first | assumption | exact wset_eq | (refine (wset_ne ?_).trans ?_; (first | assumption | exact Ne.symm (by assumption)); (first | assumption | exact wset_eq | (refine (wset_ne ?_).trans ?_; (first | assumption | exact Ne.symm (by assumption)); (first | assumption | exact wset_eq | (refine (wset_ne ?_).trans ?_; (first | assumption | exact Ne.symm (by assumption)); (first | assumption | exact wset_eq | (refine (wset_ne ?_).trans ?_; (first | assumption | exact Ne.symm (by assumption)); (assumption))))))))))))) (by first | assumption | exact wset_eq | (refine (wset_ne ?_).trans ?_; (first | assumption | exact Ne.symm (by assumption)); (first | assumption | exact wset_eq | (refine (wset_ne ?_).trans ?_; (first | assumption | exact Ne.symm (by assumption)); (first | assumption | exact wset_eq | (refine (wset_ne ?_).trans ?_; (first | assumption | exact Ne.symm (by assumption)); (first | assumption | exact wset_eq | (refine (wset_ne ?_).trans ?_; (first | assumption | exact Ne.symm (by assumption)); (first | assumption | exact wset_eq | (refine (wset_ne ?_).trans ?_; (first | assumption | exact Ne.symm (by assumption)); (first | assumption | exact wset_eq | (refine (wset_ne ?_).trans ?_; (first | assumption | exact Ne.symm (by assumption)); (assumption))))))))))))) (by first | assumption | exact wset_eq | (refine (wset_ne ?_).trans ?_; (first | assumption | exact Ne.symm (by assumption)); (first | assumption | exact wset_eq | (refine (wset_ne ?_).trans ?_; (first | assumption | exact Ne.symm (by assumption)); (first | assumption | exact wset_eq | (refine (wset_ne ?_).trans ?_; (first | assumption | exact Ne.symm (by assumption)); (first | assumption | exact wset_eq | (refine (wset_ne ?_).trans ?_; (first | assumption | exact Ne.symm (by assumption)); (first | assumption | exact wset_eq | (refine (wset_ne ?_).trans ?_; (first | assumption | exact Ne.symm (by assumption)); (first | assumption | exact wset_eq | (refine (wset_ne ?_).trans ?_; (first | assumption | exact Ne.symm (by assumption)); (assumption))))))))))))) (by intro q hq; repeat (rw [wset_ne (fun e => by subst e; omega)])))
      · refine i_iload_n C dX2_add_80 (kk := ?_)
        refine i_iconst C dX2_add_81 (kk := ?_)
        refine i_icmp_ne C dX2_add_82 (tgt := 97) (kt := fun hB82 => ?_) (kf := fun hB82 => ?_)
        · exact i_vret C (d := dX2_add_97) (h := by first | exact SpT_add t1 t2 t3 t4 t5 t6 b2 b3 b4 z1 z2 (by omega) hB3 (hv hB3) (mm := anv its) (by rw [anb_no (by omega), Nat.or_zero]) (by first | assumption | exact wset_eq | (refine (wset_ne ?_).trans ?_; (first | assumption | exact Ne.symm (by assumption)); (first | assumption | exact wset_eq | (refine (wset_ne ?_).trans ?_; (first | assumption | exact Ne.symm (by assumption)); (first | assumption | exact wset_eq | (refine (wset_ne ?_).trans ?_; (first | assumption | exact Ne.symm (by assumption)); (first | assumption | exact wset_eq | (refine (wset_ne ?_).trans ?_; (first | assumption | exact Ne.symm (by assumption)); (first | assumption | exact wset_eq | (refine (wset_ne ?_).trans ?_; (first | assumption | exact Ne.symm (by assumption)); (first | assumption | exact wset_eq | (refine (wset_ne ?_).trans ?_; (first | assumption | exact Ne.symm (by assumption)); (assumption))))))))))))) (by first | assumption | exact wset_eq | (refine (wset_ne ?_).trans ?_; (first | assumption | exact Ne.symm (by assumption)); (first | assumption | exact wset_eq | (refine (wset_ne ?_).trans ?_; (first | assumption | exact Ne.symm (by assumption)); (first | assumption | exact wset_eq | (refine (wset_ne ?_).trans ?_; (first | assumption | exact Ne.symm (by assumption)); (first | assumption | exact wset_eq | (refine (wset_ne ?_).trans ?_; (first | assumption | exact Ne.symm (by assumption)); (first | assumption | exact wset_eq | (refine (wset_ne ?_).trans ?_; (first | assumption | exact Ne.symm (by assumption)); (first | assumption | exact wset_eq | (refine (wset_ne ?_).trans ?_; (first | assumption | exact Ne.symm (by assumption)); (assumption))))))))))))) (by first | assumption | exact wset_eq | (refine (wset_ne ?_).trans ?_; (first | assumption | exact Ne.symm (by assumption)); (first | assumption | exact wset_eq | (refine (wset_ne ?_).trans ?_; (first | assumption | exact Ne.symm (by assumption)); (first | assumption | exact wset_eq | (refine (wset_ne ?_).trans ?_; (first | assumption | exact Ne.symm (by assumption)); (first | assumption | exact wset_eq | (refine (wset_ne ?_).trans ?_; (first | assumption | exact Ne.symm (by assumption)); (first | assumption | exact wset_eq | (refine (wset_ne ?_).trans ?_; (first | assumption | exact Ne.symm (by assumption)); (first | assumption | exact wset_eq | (refine (wset_ne ?_).trans ?_; (first | assumption | exact Ne.symm (by assumption)); (assumption))))))))))))) (by first | assumption | exact wset_eq | (refine (wset_ne ?_).trans ?_; (first | assumption | exact Ne.symm (by assumption)); (first | assumption | exact wset_eq | (refine (wset_ne ?_).trans ?_; (first | assumption | exact Ne.symm (by assumption)); (first | assumption | exact wset_eq | (refine (wset_ne ?_).trans ?_; (first | assumption | exact Ne.symm (by assumption)); (first | assumption | exact wset_eq | (refine (wset_ne ?_).trans ?_; (first | assumption | exact Ne.symm (by assumption)); (first | assumption | exact wset_eq | (refine (wset_ne ?_).trans ?_; (first | assumption | exact Ne.symm (by assumption)); (first | assumption | exact wset_eq | (refine (wset_ne ?_).trans ?_; (first | assumption | exact Ne.symm (by assumption)); (assumption))))))))))))) (by first | assumption | exact wset_eq | (refine (wset_ne ?_).trans ?_; (first | assumption | exact Ne.symm (by assumption)); (first | assumption | exact wset_eq | (refine (wset_ne ?_).trans ?_; (first | assumption | exact Ne.symm (by assumption)); (first | assumption | exact wset_eq | (refine (wset_ne ?_).trans ?_; (first | assumption | exact Ne.symm (by assumption)); (first | assumption | exact wset_eq | (refine (wset_ne ?_).trans ?_; (first | assumption | exact Ne.symm (by assumption)); (first | assumption | exact wset_eq | (refine (wset_ne ?_).trans ?_; (first | assumption | exact Ne.symm (by assumption)); (first | assumption | exact wset_eq | (refine (wset_ne ?_).trans ?_; (first | assumption | exact Ne.symm (by assumption)); (assumption))))))))))))) (by first | assumption | exact wset_eq | (refine (wset_ne ?_).trans ?_; (first | assumption | exact Ne.symm (by assumption)); (first | assumption | exact wset_eq | (refine (wset_ne ?_).trans ?_; (first | assumption | exact Ne.symm (by assumption)); (first | assumption | exact wset_eq | (refine (wset_ne ?_).trans ?_; (first | assumption | exact Ne.symm (by assumption)); (first | assumption | exact wset_eq | (refine (wset_ne ?_).trans ?_; (first | assumption | exact Ne.symm (by assumption)); (first | assumption | exact wset_eq | (refine (wset_ne ?_).trans ?_; (first | assumption | exact Ne.symm (by assumption)); (first | assumption | exact wset_eq | (refine (wset_ne ?_).trans ?_; (first | assumption | exact Ne.symm (by assumption)); (assumption))))))))))))) (by intro q hq; repeat (rw [wset_ne (fun e => by subst e; omega)])) | exact SpT_add t1 t2 t3 t4 t5 t6 b2 b3 b4 z1 z2 (by omega) hB3 (hv hB3) (mm := anv its ||| 2 ^ n3) (by rw [anb_yes hB77 hB82]) (by first | assumption | exact wset_eq | (refine (wset_ne ?_).trans ?_; (first | assumption | exact Ne.symm (by assumption)); (first | assumption | exact wset_eq | (refine (wset_ne ?_).trans ?_; (first | assumption | exact Ne.symm (by assumption)); (first | assumption | exact wset_eq | (refine (wset_ne ?_).trans ?_; (first | assumption | exact Ne.symm (by assumption)); (first | assumption | exact wset_eq | (refine (wset_ne ?_).trans ?_; (first | assumption | exact Ne.symm (by assumption)); (first | assumption | exact wset_eq | (refine (wset_ne ?_).trans ?_; (first | assumption | exact Ne.symm (by assumption)); (first | assumption | exact wset_eq | (refine (wset_ne ?_).trans ?_; (first | assumption | exact Ne.symm (by assumption)); (assumption))))))))))))) (by first | assumption | exact wset_eq | (refine (wset_ne ?_).trans ?_; (first | assumption | exact Ne.symm (by assumption)); (first | assumption | exact wset_eq | (refine (wset_ne ?_).trans ?_; (first | assumption | exact Ne.symm (by assumption)); (first | assumption | exact wset_eq | (refine (wset_ne ?_).trans ?_; (first | assumption | exact Ne.symm (by assumption)); (first | assumption | exact wset_eq | (refine (wset_ne ?_).trans ?_; (first | assumption | exact Ne.symm (by assumption)); (first | assumption | exact wset_eq | (refine (wset_ne ?_).trans ?_; (first | assumption | exact Ne.symm (by assumption)); (first | assumption | exact wset_eq | (refine (wset_ne ?_).trans ?_; (first | assumption | exact Ne.symm (by assumption)); (assumption))))))))))))) (by first | assumption | exact wset_eq | (refine (wset_ne ?_).trans ?_; (first | assumption | exact Ne.symm (by assumption)); (first | assumption | exact wset_eq | (refine (wset_ne ?_).trans ?_; (first | assumption | exact Ne.symm (by assumption)); (first | assumption | exact wset_eq | (refine (wset_ne ?_).trans ?_; (first | assumption | exact Ne.symm (by assumption)); (first | assumption | exact wset_eq | (refine (wset_ne ?_).trans ?_; (first | assumption | exact Ne.symm (by assumption)); (first | assumption | exact wset_eq | (refine (wset_ne ?_).trans ?_; (first | assumption | exact Ne.symm (by assumption)); (first | assumption | exact wset_eq | (refine (wset_ne ?_).trans ?_; (first | assumption | exact Ne.symm (by assumption)); (assumption))))))))))))) (by first | assumption | exact wset_eq | (refine (wset_ne ?_).trans ?_; (first | assumption | exact Ne.symm (by assumption)); (first | assumption | exact wset_eq | (refine (wset_ne ?_).trans ?_; (first | assumption | exact Ne.symm (by assumption)); (first | assumption | exact wset_eq | (refine (wset_ne ?_).trans ?_; (first | assumption | exact Ne.symm (by assumption)); (first | assumption | exact wset_eq | (refine (wset_ne ?_).trans ?_; (first | assumption | exact Ne.symm (by assumption)); (first | assumption | exact wset_eq | (refine (wset_ne ?_).trans ?_; (first | assumption | exact Ne.symm (by assumption)); (first | assumption | exact wset_eq | (refine (wset_ne ?_).trans ?_; (first | assumption | exact Ne.symm (by assumption)); (assumption))))))))))))) (by first | assumption | exact wset_eq | (refine (wset_ne ?_).trans ?_; (first | assumption | exact Ne.symm (by assumption)); (first | assumption | exact wset_eq | (refine (wset_ne ?_).trans ?_; (first | assumption | exact Ne.symm (by assumption)); (first | assumption | exact wset_eq | (refine (wset_ne ?_).trans ?_; (first | assumption | exact Ne.symm (by assumption)); (first | assumption | exact wset_eq | (refine (wset_ne ?_).trans ?_; (first | assumption | exact Ne.symm (by assumption)); (first | assumption | exact wset_eq | (refine (wset_ne ?_).trans ?_; (first | assumption | exact Ne.symm (by assumption)); (first | assumption | exact wset_eq | (refine (wset_ne ?_).trans ?_; (first | assumption | exact Ne.symm (by assumption)); (assumption))))))))))))) (by first | assumption | exact wset_eq | (refine (wset_ne ?_).trans ?_; (first | assumption | exact Ne.symm (by assumption)); (first | assumption | exact wset_eq | (refine (wset_ne ?_).trans ?_; (first | assumption | exact Ne.symm (by assumption)); (first | assumption | exact wset_eq | (refine (wset_ne ?_).trans ?_; (first | assumption | exact Ne.symm (by assumption)); (first | assumption | exact wset_eq | (refine (wset_ne ?_).trans ?_; (first | assumption | exact Ne.symm (by assumption)); (first | assumption | exact wset_eq | (refine (wset_ne ?_).trans ?_; (first | assumption | exact Ne.symm (by assumption)); (first | assumption | exact wset_eq | (refine (wset_ne ?_).trans ?_; (first | assumption | exact Ne.symm (by assumption)); (assumption))))))))))))) (by intro q hq; repeat (rw [wset_ne (fun e => by subst e; omega)])))
        · obtain ⟨n3, rfl⟩ := Int.eq_ofNat_of_zero_le (a := x3) (by omega)
          refine i_aload_n C dX2_add_85 (kk := ?_)
          refine i_dup C dX2_add_86 (kk := ?_)
          refine i_getf C f_X2_28 dX2_add_87 (hw := by first | assumption | exact wset_eq | (refine (wset_ne ?_).trans ?_; (first | assumption | exact Ne.symm (by assumption)); (first | assumption | exact wset_eq | (refine (wset_ne ?_).trans ?_; (first | assumption | exact Ne.symm (by assumption)); (first | assumption | exact wset_eq | (refine (wset_ne ?_).trans ?_; (first | assumption | exact Ne.symm (by assumption)); (first | assumption | exact wset_eq | (refine (wset_ne ?_).trans ?_; (first | assumption | exact Ne.symm (by assumption)); (first | assumption | exact wset_eq | (refine (wset_ne ?_).trans ?_; (first | assumption | exact Ne.symm (by assumption)); (assumption))))))))))) (kk := ?_)
          refine i_iconst C dX2_add_90 (kk := ?_)
          refine i_iload_n C dX2_add_91 (kk := ?_)
          refine i_ishl C dX2_add_92 (hz := Z32_shl (by omega)) (kk := ?_)
          refine i_ior C dX2_add_93 (hz := Z32_or _ _) (kk := ?_)
          refine i_putf C fk_X2_28 dX2_add_94 (hw := by first | assumption | exact wset_eq | (refine (wset_ne ?_).trans ?_; (first | assumption | exact Ne.symm (by assumption)); (first | assumption | exact wset_eq | (refine (wset_ne ?_).trans ?_; (first | assumption | exact Ne.symm (by assumption)); (first | assumption | exact wset_eq | (refine (wset_ne ?_).trans ?_; (first | assumption | exact Ne.symm (by assumption)); (first | assumption | exact wset_eq | (refine (wset_ne ?_).trans ?_; (first | assumption | exact Ne.symm (by assumption)); (first | assumption | exact wset_eq | (refine (wset_ne ?_).trans ?_; (first | assumption | exact Ne.symm (by assumption)); (assumption))))))))))) (kk := ?_)
          exact i_vret C (d := dX2_add_97) (h := by first | exact SpT_add t1 t2 t3 t4 t5 t6 b2 b3 b4 z1 z2 (by omega) hB3 (hv hB3) (mm := anv its) (by rw [anb_no (by omega), Nat.or_zero]) (by first | assumption | exact wset_eq | (refine (wset_ne ?_).trans ?_; (first | assumption | exact Ne.symm (by assumption)); (first | assumption | exact wset_eq | (refine (wset_ne ?_).trans ?_; (first | assumption | exact Ne.symm (by assumption)); (first | assumption | exact wset_eq | (refine (wset_ne ?_).trans ?_; (first | assumption | exact Ne.symm (by assumption)); (first | assumption | exact wset_eq | (refine (wset_ne ?_).trans ?_; (first | assumption | exact Ne.symm (by assumption)); (first | assumption | exact wset_eq | (refine (wset_ne ?_).trans ?_; (first | assumption | exact Ne.symm (by assumption)); (first | assumption | exact wset_eq | (refine (wset_ne ?_).trans ?_; (first | assumption | exact Ne.symm (by assumption)); (assumption))))))))))))) (by first | assumption | exact wset_eq | (refine (wset_ne ?_).trans ?_; (first | assumption | exact Ne.symm (by assumption)); (first | assumption | exact wset_eq | (refine (wset_ne ?_).trans ?_; (first | assumption | exact Ne.symm (by assumption)); (first | assumption | exact wset_eq | (refine (wset_ne ?_).trans ?_; (first | assumption | exact Ne.symm (by assumption)); (first | assumption | exact wset_eq | (refine (wset_ne ?_).trans ?_; (first | assumption | exact Ne.symm (by assumption)); (first | assumption | exact wset_eq | (refine (wset_ne ?_).trans ?_; (first | assumption | exact Ne.symm (by assumption)); (first | assumption | exact wset_eq | (refine (wset_ne ?_).trans ?_; (first | assumption | exact Ne.symm (by assumption)); (assumption))))))))))))) (by first | assumption | exact wset_eq | (refine (wset_ne ?_).trans ?_; (first | assumption | exact Ne.symm (by assumption)); (first | assumption | exact wset_eq | (refine (wset_ne ?_).trans ?_; (first | assumption | exact Ne.symm (by assumption)); (first | assumption | exact wset_eq | (refine (wset_ne ?_).trans ?_; (first | assumption | exact Ne.symm (by assumption)); (first | assumption | exact wset_eq | (refine (wset_ne ?_).trans ?_; (first | assumption | exact Ne.symm (by assumption)); (first | assumption | exact wset_eq | (refine (wset_ne ?_).trans ?_; (first | assumption | exact Ne.symm (by assumption)); (first | assumption | exact wset_eq | (refine (wset_ne ?_).trans ?_; (first | assumption | exact Ne.symm (by assumption)); (assumption))))))))))))) (by first | assumption | exact wset_eq | (refine (wset_ne ?_).trans ?_; (first | assumption | exact Ne.symm (by assumption)); (first | assumption | exact wset_eq | (refine (wset_ne ?_).trans ?_; (first | assumption | exact Ne.symm (by assumption)); (first | assumption | exact wset_eq | (refine (wset_ne ?_).trans ?_; (first | assumption | exact Ne.symm (by assumption)); (first | assumption | exact wset_eq | (refine (wset_ne ?_).trans ?_; (first | assumption | exact Ne.symm (by assumption)); (first | assumption | exact wset_eq | (refine (wset_ne ?_).trans ?_; (first | assumption | exact Ne.symm (by assumption)); (first | assumption | exact wset_eq | (refine (wset_ne ?_).trans ?_; (first | assumption | exact Ne.symm (by assumption)); (assumption))))))))))))) (by first | assumption | exact wset_eq | (refine (wset_ne ?_).trans ?_; (first | assumption | exact Ne.symm (by assumption)); (first | assumption | exact wset_eq | (refine (wset_ne ?_).trans ?_; (first | assumption | exact Ne.symm (by assumption)); (first | assumption | exact wset_eq | (refine (wset_ne ?_).trans ?_; (first | assumption | exact Ne.symm (by assumption)); (first | assumption | exact wset_eq | (refine (wset_ne ?_).trans ?_; (first | assumption | exact Ne.symm (by assumption)); (first | assumption | exact wset_eq | (refine (wset_ne ?_).trans ?_; (first | assumption | exact Ne.symm (by assumption)); (first | assumption | exact wset_eq | (refine (wset_ne ?_).trans ?_; (first | assumption | exact Ne.symm (by assumption)); (assumption))))))))))))) (by first | assumption | exact wset_eq | (refine (wset_ne ?_).trans ?_; (first | assumption | exact Ne.symm (by assumption)); (first | assumption | exact wset_eq | (refine (wset_ne ?_).trans ?_; (first | assumption | exact Ne.symm (by assumption)); (first | assumption | exact wset_eq | (refine (wset_ne ?_).trans ?_; (first | assumption | exact Ne.symm (by assumption)); (first | assumption | exact wset_eq | (refine (wset_ne ?_).trans ?_; (first | assumption | exact Ne.symm (by assumption)); (first | assumption | exact wset_eq | (refine (wset_ne ?_).trans ?_; (first | assumption | exact Ne.symm (by assumption)); (first | assumption | exact wset_eq | (refine (wset_ne ?_).trans ?_; (first | assumption | exact Ne.symm (by assumption)); (assumption))))))))))))) (by intro q hq; repeat (rw [wset_ne (fun e => by subst e; omega)])) | exact SpT_add t1 t2 t3 t4 t5 t6 b2 b3 b4 z1 z2 (by omega) hB3 (hv hB3) (mm := anv its ||| 2 ^ n3) (by rw [anb_yes hB77 hB82]) (by first | assumption | exact wset_eq | (refine (wset_ne ?_).trans ?_; (first | assumption | exact Ne.symm (by assumption)); (first | assumption | exact wset_eq | (refine (wset_ne ?_).trans ?_; (first | assumption | exact Ne.symm (by assumption)); (first | assumption | exact wset_eq | (refine (wset_ne ?_).trans ?_; (first | assumption | exact Ne.symm (by assumption)); (first | assumption | exact wset_eq | (refine (wset_ne ?_).trans ?_; (first | assumption | exact Ne.symm (by assumption)); (first | assumption | exact wset_eq | (refine (wset_ne ?_).trans ?_; (first | assumption | exact Ne.symm (by assumption)); (first | assumption | exact wset_eq | (refine (wset_ne ?_).trans ?_; (first | assumption | exact Ne.symm (by assumption)); (assumption))))))))))))) (by first | assumption | exact wset_eq | (refine (wset_ne ?_).trans ?_; (first | assumption | exact Ne.symm (by assumption)); (first | assumption | exact wset_eq | (refine (wset_ne ?_).trans ?_; (first | assumption | exact Ne.symm (by assumption)); (first | assumption | exact wset_eq | (refine (wset_ne ?_).trans ?_; (first | assumption | exact Ne.symm (by assumption)); (first | assumption | exact wset_eq | (refine (wset_ne ?_).trans ?_; (first | assumption | exact Ne.symm (by assumption)); (first | assumption | exact wset_eq | (refine (wset_ne ?_).trans ?_; (first | assumption | exact Ne.symm (by assumption)); (first | assumption | exact wset_eq | (refine (wset_ne ?_).trans ?_; (first | assumption | exact Ne.symm (by assumption)); (assumption))))))))))))) (by first | assumption | exact wset_eq | (refine (wset_ne ?_).trans ?_; (first | assumption | exact Ne.symm (by assumption)); (first | assumption | exact wset_eq | (refine (wset_ne ?_).trans ?_; (first | assumption | exact Ne.symm (by assumption)); (first | assumption | exact wset_eq | (refine (wset_ne ?_).trans ?_; (first | assumption | exact Ne.symm (by assumption)); (first | assumption | exact wset_eq | (refine (wset_ne ?_).trans ?_; (first | assumption | exact Ne.symm (by assumption)); (first | assumption | exact wset_eq | (refine (wset_ne ?_).trans ?_; (first | assumption | exact Ne.symm (by assumption)); (first | assumption | exact wset_eq | (refine (wset_ne ?_).trans ?_; (first | assumption | exact Ne.symm (by assumption)); (assumption))))))))))))) (by first | assumption | exact wset_eq | (refine (wset_ne ?_).trans ?_; (first | assumption | exact Ne.symm (by assumption)); (first | assumption | exact wset_eq | (refine (wset_ne ?_).trans ?_; (first | assumption | exact Ne.symm (by assumption)); (first | assumption | exact wset_eq | (refine (wset_ne ?_).trans ?_; (first | assumption | exact Ne.symm (by assumption)); (first | assumption | exact wset_eq | (refine (wset_ne ?_).trans ?_; (first | assumption | exact Ne.symm (by assumption)); (first | assumption | exact wset_eq | (refine (wset_ne ?_).trans ?_; (first | assumption | exact Ne.symm (by assumption)); (first | assumption | exact wset_eq | (refine (wset_ne ?_).trans ?_; (first | assumption | exact Ne.symm (by assumption)); (assumption))))))))))))) (by first | assumption | exact wset_eq | (refine (wset_ne ?_).trans ?_; (first | assumption | exact Ne.symm (by assumption)); (first | assumption | exact wset_eq | (refine (wset_ne ?_).trans ?_; (first | assumption | exact Ne.symm (by assumption)); (first | assumption | exact wset_eq | (refine (wset_ne ?_).trans ?_; (first | assumption | exact Ne.symm (by assumption)); (first | assumption | exact wset_eq | (refine (wset_ne ?_).trans ?_; (first | assumption | exact Ne.symm (by assumption)); (first | assumption | exact wset_eq | (refine (wset_ne ?_).trans ?_; (first | assumption | exact Ne.symm (by assumption)); (first | assumption | exact wset_eq | (refine (wset_ne ?_).trans ?_; (first | assumption | exact Ne.symm (by assumption)); (assumption))))))))))))) (by first | assumption | exact wset_eq | (refine (wset_ne ?_).trans ?_; (first | assumption | exact Ne.symm (by assumption)); (first | assumption | exact wset_eq | (refine (wset_ne ?_).trans ?_; (first | assumption | exact Ne.symm (by assumption)); (first | assumption | exact wset_eq | (refine (wset_ne ?_).trans ?_; (first | assumption | exact Ne.symm (by assumption)); (first | assumption | exact wset_eq | (refine (wset_ne ?_).trans ?_; (first | assumption | exact Ne.symm (by assumption)); (first | assumption | exact wset_eq | (refine (wset_ne ?_).trans ?_; (first | assumption | exact Ne.symm (by assumption)); (first | assumption | exact wset_eq | (refine (wset_ne ?_).trans ?_; (first | assumption | exact Ne.symm (by assumption)); (assumption))))))))))))) (by intro q hq; repeat (rw [wset_ne (fun e => by subst e; omega)])))
    · exact i_vret C (d := dX2_add_15) (h := ⟨rfl, by unfold sadd; rw [if_pos (by first | exact Or.inl hB3 | exact Or.inr (by omega))]; exact kS, offR.rf⟩)

set_option maxRecDepth 100000 in
set_option maxHeartbeats 4000000 in
theorem c_X2_count (l : Launch) (hl : l.stackTraces = false) (D : gD) {w : wW} {τ : Nat → Nat} {r a n s v c o : Nat} {its : List It4} {os : List Int} {g : Int} (hS : SpT D w τ r a n s v c o its os := by assumption) (hg : inR g := by omega) : CTm l D yX2_count cX2_count 4 (some .int) (rmL 3 0 0) [.ref a, .int (Z32 g)] w (fun u w1 => u = some (.int (Z32 (shc g its : Int))) ∧ w1 = w) := by
  refine CTm_of hl false rfl (by rfl) (Nat.le_of_ble_eq_true rfl) (fun h => nomatch h) ?_
  intro G C
  show G 0 0 w [some (.ref a), some (.int (Z32 g)), none, none] 0 []
  refine i_iconst C dX2_count_0 (kk := ?_)
  refine i_istore_n C dX2_count_1 (kk := ?_)
  refine i_iconst C dX2_count_2 (kk := ?_)
  refine i_istore_n C dX2_count_3 (kk := ?_)
  have h100 := hS.2.2.2.2.2.2.2.1
  have lp : ∀ (m i : Nat), its.length + 1 ≤ m + i → i ≤ its.length → G 0 0 w [some (.ref a), some (.int (Z32 g)), some (.int (Z32 (shc g (its.take i) : Int))), some (.int (Z32 (i : Int)))] 4 [] := by
    intro m
    induction m with
    | zero => intro i h1 h2; omega
    | succ m ih =>
    intro i h1 h2
    have hc := shc_le g (its.take i)
    rw [List.length_take] at hc
    refine i_iload_n C dX2_count_4 (kk := ?_)
    refine i_aload_n C dX2_count_5 (kk := ?_)
    refine i_getf C f_X2_24 dX2_count_6 (hw := hS.2.2.2.2.2.2.1) (kk := ?_)
    refine i_icmp_ge C dX2_count_9 (tgt := 30) (kt := fun hB9 => ?_) (kf := fun hB9 => ?_)
    · refine i_iload_n C dX2_count_30 (kk := ?_)
      exact i_iret C (d := dX2_count_31) (h := ⟨by rw [List.take_of_length_le (by omega)], rfl⟩)
    · refine i_aload_n C dX2_count_12 (kk := ?_)
      refine i_iload_n C dX2_count_13 (kk := ?_)
      refine i_iload_n C dX2_count_14 (kk := ?_)
      refine i_callV C lk_X2_53 (c_X2_shows l hl D (hS := hS) (i := i) (g := g)) (hcl := rfl) (hst := rfl) dX2_count_15 (hw := hS.2.2.2.2.2.2.1) (kk := fun v15 w15 g15 => ?_)
      obtain ⟨rfl, q15⟩ := g15
      have q15 := q15.symm
      subst q15
      refine i_if_eq C dX2_count_18 (tgt := 24) (ha := by split <;> decide) (kt := fun hB18 => ?_) (kf := fun hB18 => ?_)
      · have e8 : ¬ shw (it4 its i) g := by intro q; rw [if_pos q] at hB18; cases hB18
        have e9 : shc g (its.take i) = shc g (its.take (i + 1)) := by rw [shc_take g (by omega), if_neg e8, Nat.add_zero]
        rw [e9]
        refine i_iinc C dX2_count_24 (kk := ?_)
        refine i_goto C dX2_count_27 (tgt := 4) (kk := ?_)
        exact ih (i + 1) (by omega) (by omega)
      · have e8 : shw (it4 its i) g := by apply Decidable.byContradiction; intro q; rw [if_neg q] at hB18; exact hB18 rfl
        have e9 : (shc g (its.take i) : Int) + 1 = (shc g (its.take (i + 1)) : Int) := by rw [shc_take g (by omega), if_pos e8]; omega
        refine i_iinc C dX2_count_21 (kk := ?_)
        rw [e9]
        refine i_iinc C dX2_count_24 (kk := ?_)
        refine i_goto C dX2_count_27 (tgt := 4) (kk := ?_)
        exact ih (i + 1) (by omega) (by omega)
  exact lp (its.length + 1) 0 (by omega) (by omega)

set_option maxRecDepth 100000 in
set_option maxHeartbeats 4000000 in
theorem c_X2_find (l : Launch) (hl : l.stackTraces = false) (D : gD) {w : wW} {τ : Nat → Nat} {r a n s v c o : Nat} {its : List It4} {os : List Int} {g k : Int} (hS : SpT D w τ r a n s v c o its os := by assumption) (hg : inR g := by omega) (hk : inR k := by omega) : CTm l D yX2_find cX2_find 5 (some .int) (rmL 3 0 0) [.ref a, .int (Z32 g), .int (Z32 k)] w (fun u w1 => ((∃ i : Nat, i < its.length ∧ shw (it4 its i) g ∧ (shc g (its.take i) : Int) = k ∧ u = some (.int (Z32 (i : Int)))) ∨ ((∀ i, i < its.length → shw (it4 its i) g → (shc g (its.take i) : Int) ≠ k) ∧ u = some (.int (Z32 (-1))))) ∧ w1 = w) := by
  refine CTm_of hl false rfl (by rfl) (Nat.le_of_ble_eq_true rfl) (fun h => nomatch h) ?_
  intro G C
  show G 0 0 w [some (.ref a), some (.int (Z32 g)), some (.int (Z32 k)), none, none] 0 []
  refine i_iconst C dX2_find_0 (kk := ?_)
  refine i_istore_n C dX2_find_1 (kk := ?_)
  refine i_iconst C dX2_find_2 (kk := ?_)
  refine i_istore C dX2_find_3 (kk := ?_)
  have h100 := hS.2.2.2.2.2.2.2.1
  have lp : ∀ (m i : Nat), its.length + 1 ≤ m + i → i ≤ its.length → (∀ j, j < i → shw (it4 its j) g → (shc g (its.take j) : Int) ≠ k) → G 0 0 w [some (.ref a), some (.int (Z32 g)), some (.int (Z32 k)), some (.int (Z32 (shc g (its.take i) : Int))), some (.int (Z32 (i : Int)))] 5 [] := by
    intro m
    induction m with
    | zero => intro i h1 h2; omega
    | succ m ih =>
    intro i h1 h2 hno
    have hc := shc_le g (its.take i)
    rw [List.length_take] at hc
    refine i_iload C dX2_find_5 (kk := ?_)
    refine i_aload_n C dX2_find_7 (kk := ?_)
    refine i_getf C f_X2_24 dX2_find_8 (hw := hS.2.2.2.2.2.2.1) (kk := ?_)
    refine i_icmp_ge C dX2_find_11 (tgt := 41) (kt := fun hB11 => ?_) (kf := fun hB11 => ?_)
    · refine i_iconst C dX2_find_41 (kk := ?_)
      exact i_iret C (d := dX2_find_42) (h := ⟨Or.inr ⟨fun j hj => hno j (by omega), rfl⟩, rfl⟩)
    · refine i_aload_n C dX2_find_14 (kk := ?_)
      refine i_iload C dX2_find_15 (kk := ?_)
      refine i_iload_n C dX2_find_17 (kk := ?_)
      refine i_callV C lk_X2_53 (c_X2_shows l hl D (hS := hS) (i := i) (g := g)) (hcl := rfl) (hst := rfl) dX2_find_18 (hw := hS.2.2.2.2.2.2.1) (kk := fun v18 w18 g18 => ?_)
      obtain ⟨rfl, q18⟩ := g18
      have q18 := q18.symm
      subst q18
      refine i_if_eq C dX2_find_21 (tgt := 35) (ha := by split <;> decide) (kt := fun hB21 => ?_) (kf := fun hB21 => ?_)
      · have e8 : ¬ shw (it4 its i) g := by intro q; rw [if_pos q] at hB21; cases hB21
        have e9 : shc g (its.take i) = shc g (its.take (i + 1)) := by rw [shc_take g (by omega), if_neg e8, Nat.add_zero]
        rw [e9]
        have e7 : shw (it4 its i) g → (shc g (its.take i) : Int) ≠ k := fun q => absurd q e8
        refine i_iinc C dX2_find_35 (kk := ?_)
        refine i_goto C dX2_find_38 (tgt := 5) (kk := ?_)
        exact ih (i + 1) (by omega) (by omega) (fun j hj => by by_cases q : j = i; (subst q; exact e7); exact hno j (by omega))
      · have e8 : shw (it4 its i) g := by apply Decidable.byContradiction; intro q; rw [if_neg q] at hB21; exact hB21 rfl
        have e9 : (shc g (its.take i) : Int) + 1 = (shc g (its.take (i + 1)) : Int) := by rw [shc_take g (by omega), if_pos e8]; omega
        refine i_iload_n C dX2_find_24 (kk := ?_)
        refine i_iload_n C dX2_find_25 (kk := ?_)
        refine i_icmp_ne C dX2_find_26 (tgt := 32) (kt := fun hB26 => ?_) (kf := fun hB26 => ?_)
        · have e7 : shw (it4 its i) g → (shc g (its.take i) : Int) ≠ k := fun _ => hB26
          refine i_iinc C dX2_find_32 (kk := ?_)
          rw [e9]
          refine i_iinc C dX2_find_35 (kk := ?_)
          refine i_goto C dX2_find_38 (tgt := 5) (kk := ?_)
          exact ih (i + 1) (by omega) (by omega) (fun j hj => by by_cases q : j = i; (subst q; exact e7); exact hno j (by omega))
        · refine i_iload C dX2_find_29 (kk := ?_)
          exact i_iret C (d := dX2_find_31) (h := ⟨Or.inl ⟨i, by omega, e8, hB26, rfl⟩, rfl⟩)
  exact lp (its.length + 1) 0 (by omega) (by omega) (fun j hj => absurd hj (Nat.not_lt_zero j))

set_option maxRecDepth 100000 in
set_option maxHeartbeats 4000000 in
theorem c_X2_hasAnchor (l : Launch) (hl : l.stackTraces = false) (D : gD) {w : wW} {τ : Nat → Nat} {r a n s v c o : Nat} {its : List It4} {os : List Int} {g : Int} (hS : SpT D w τ r a n s v c o its os := by assumption) (hg : 0 ≤ g ∧ g ≤ 9) : CTm l D yX2_hasAnchor cX2_hasAnchor 2 (some .boolean) (rmL 4 0 0) [.ref a, .int (Z32 g)] w (fun u w1 => (((∃ i, i < its.length ∧ (shw (it4 its i) (-1) ∧ isrt (it4 its i) = 1) ∧ iwth (it4 its i) (-1) = g) ∧ u = some (.int (Z32 1))) ∨ ((∀ i, i < its.length → (shw (it4 its i) (-1) ∧ isrt (it4 its i) = 1) → iwth (it4 its i) (-1) ≠ g) ∧ u = some (.int (Z32 0)))) ∧ w1 = w) := by
  refine CTm_of hl false rfl (by rfl) (Nat.le_of_ble_eq_true rfl) (fun h => nomatch h) ?_
  intro G C
  show G 0 0 w [some (.ref a), some (.int (Z32 g))] 0 []
  have b3 := hS.2.2.2.2.2.2.2.2.2.1
  have hlt := anv_lt b3
  have hb := anv_bit b3 hg.1
  obtain ⟨n9, rfl⟩ := Int.eq_ofNat_of_zero_le hg.1
  rw [Int.toNat_natCast] at hb
  refine i_aload_n C dX2_hasAnchor_0 (kk := ?_)
  refine i_getf C f_X2_28 dX2_hasAnchor_1 (hw := hS.2.2.2.2.2.2.1) (kk := ?_)
  refine i_iload_n C dX2_hasAnchor_4 (kk := ?_)
  refine i_callSN C lk_X2_71 (c_X6_contains l hl D (s := anv its) (p := n9) (by omega) (by omega)) (hst := rfl) dX2_hasAnchor_5 (kk := fun v5 w5 g5 => ?_)
  obtain ⟨rfl, q5⟩ := g5
  have q5 := q5.symm
  subst q5
  by_cases hbb : (anv its).testBit n9 = true
  · rw [if_pos hbb]
    exact i_zret C (d := dX2_hasAnchor_8) (ha := Or.inr rfl) (h := ⟨Or.inl ⟨hb.mp hbb, rfl⟩, rfl⟩)
  · rw [if_neg hbb]
    exact i_zret C (d := dX2_hasAnchor_8) (ha := Or.inl rfl) (h := ⟨Or.inr ⟨fun j hj hs he => hbb (hb.mpr ⟨j, hj, hs, he⟩), rfl⟩, rfl⟩)

set_option maxRecDepth 100000 in
set_option maxHeartbeats 4000000 in
theorem c_X2_takeCalled (l : Launch) (hl : l.stackTraces = false) (D : gD) {w : wW} {τ : Nat → Nat} {r a n s v c o r2 a2 n2 s2 v2 c2 o2 : Nat} {its qs : List It4} {os os2 : List Int} {g : Int} (hS : SpT D w τ r a n s v c o its os := by assumption) (hM : SpT D w τ r2 a2 n2 s2 v2 c2 o2 qs os2 := by assumption) (hr : r2 + 6 ≤ r ∨ r + 6 ≤ r2) (hg : -1 ≤ g ∧ g ≤ 25) : CTm l D yX2_takeCalled cX2_takeCalled 4 none (rmL 4 0 0) [.ref a, .ref a2, .int (Z32 g)] w (fun u w1 => u = none ∧ SpT D w1 τ r a n s v c o (tkC (ndo os) g its qs) os ∧ offR τ w w1 r (r + 6)) := by
  refine CTm_of hl false rfl (by rfl) (Nat.le_of_ble_eq_true rfl) (fun h => nomatch h) ?_
  intro G C
  show G 0 0 w [some (.ref a), some (.ref a2), some (.int (Z32 g)), none] 0 []
  refine i_iconst C dX2_takeCalled_0 (kk := ?_)
  refine i_istore_n C dX2_takeCalled_1 (kk := ?_)
  have h100 := hM.2.2.2.2.2.2.2.1
  have lp : ∀ (m i : Nat) (w1 : wW), qs.length + 1 ≤ m + i → i ≤ qs.length → SpT D w1 τ r a n s v c o (tkC (ndo os) g its (qs.take i)) os → offR τ w w1 r (r + 6) → G 0 0 w1 [some (.ref a), some (.ref a2), some (.int (Z32 g)), some (.int (Z32 (i : Int)))] 2 [] := by
    intro m
    induction m with
    | zero => intro i w1 h1 h2; omega
    | succ m ih =>
    intro i w1 h1 h2 kS kO
    have kM := hM.off kO (by omega)
    refine i_iload_n C dX2_takeCalled_2 (kk := ?_)
    refine i_aload_n C dX2_takeCalled_3 (kk := ?_)
    refine i_getf C f_X2_24 dX2_takeCalled_4 (hw := kM.2.2.2.2.2.2.1) (kk := ?_)
    refine i_icmp_ge C dX2_takeCalled_7 (tgt := 49) (kt := fun hB7 => ?_) (kf := fun hB7 => ?_)
    · exact i_vret C (d := dX2_takeCalled_49) (h := ⟨rfl, by rw [List.take_of_length_le (by omega)] at kS; exact kS, kO⟩)
    · refine i_aload_n C dX2_takeCalled_10 (kk := ?_)
      refine i_iload_n C dX2_takeCalled_11 (kk := ?_)
      refine i_iload_n C dX2_takeCalled_12 (kk := ?_)
      refine i_callV C lk_X2_53 (c_X2_shows l hl D (hS := kM) (i := i) (g := g)) (hcl := rfl) (hst := rfl) dX2_takeCalled_13 (hw := kM.2.2.2.2.2.2.1) (kk := fun v13 w13 g13 => ?_)
      obtain ⟨rfl, q13⟩ := g13
      have q13 := q13.symm
      subst q13
      have hv := kM.2.2.2.2.2.2.2.2.2.1 _ (it4_mem (i := i) (by omega))
      unfold ItV at hv
      have knd := kS.nd
      refine i_if_eq C dX2_takeCalled_16 (tgt := 43) (ha := by split <;> decide) (kt := fun hB16 => ?_) (kf := fun hB16 => ?_)
      · have e8 : ¬ shw (it4 qs i) g := by intro q; rw [if_pos q] at hB16; cases hB16
        have e9 : tkC (ndo os) g its (qs.take i) = tkC (ndo os) g its (qs.take (i + 1)) := by rw [tkC_take (by omega), if_neg e8]
        refine i_iinc C dX2_takeCalled_43 (kk := ?_)
        refine i_goto C dX2_takeCalled_46 (tgt := 2) (kk := ?_)
        first | exact ih (i + 1) _ (by omega) (by omega) kS2 (kO.trans kO2) | exact ih (i + 1) _ (by omega) (by omega) (by rw [← e9]; exact kS) kO
      · have e8 : shw (it4 qs i) g := by apply Decidable.byContradiction; intro q; rw [if_neg q] at hB16; exact hB16 rfl
        have e9 : sadd (tkC (ndo os) g its (qs.take i)) (ndo os, isrt (it4 qs i), iwth (it4 qs i) g, (it4 qs i).2.2.2) = tkC (ndo os) g its (qs.take (i + 1)) := by rw [tkC_take (by omega), if_pos e8]
        have e6 : ItV (0, isrt (it4 qs i), iwth (it4 qs i) g, (it4 qs i).2.2.2) := by unfold ItV isrt iwth; have e5 := e8.2; dsimp only; split <;> omega
        unfold ItV at e6
        dsimp only at e6
        refine i_aload_n C dX2_takeCalled_19 (kk := ?_)
        refine i_aload_n C dX2_takeCalled_20 (kk := ?_)
        refine i_callV C lk_X2_37 (c_X2_need l hl D (hS := kS)) (hcl := rfl) (hst := rfl) dX2_takeCalled_21 (hw := kS.2.2.2.2.2.2.1) (kk := fun v21 w21 g21 => ?_)
        obtain ⟨rfl, q21⟩ := g21
        have q21 := q21.symm
        subst q21
        refine i_aload_n C dX2_takeCalled_24 (kk := ?_)
        refine i_iload_n C dX2_takeCalled_25 (kk := ?_)
        refine i_callV C lk_X2_57 (c_X2_itemSort l hl D (hS := kM) (i := i)) (hcl := rfl) (hst := rfl) dX2_takeCalled_26 (hw := kM.2.2.2.2.2.2.1) (kk := fun v26 w26 g26 => ?_)
        obtain ⟨rfl, q26⟩ := g26
        have q26 := q26.symm
        subst q26
        refine i_aload_n C dX2_takeCalled_29 (kk := ?_)
        refine i_iload_n C dX2_takeCalled_30 (kk := ?_)
        refine i_iload_n C dX2_takeCalled_31 (kk := ?_)
        refine i_callV C lk_X2_61 (c_X2_itemWith l hl D (hS := kM) (i := i) (g := g)) (hcl := rfl) (hst := rfl) dX2_takeCalled_32 (hw := kM.2.2.2.2.2.2.1) (kk := fun v32 w32 g32 => ?_)
        obtain ⟨rfl, q32⟩ := g32
        have q32 := q32.symm
        subst q32
        refine i_aload_n C dX2_takeCalled_35 (kk := ?_)
        refine i_iload_n C dX2_takeCalled_36 (kk := ?_)
        refine i_callV C lk_X2_64 (c_X2_sourceOf l hl D (hS := kM) (i := i)) (hcl := rfl) (hst := rfl) dX2_takeCalled_37 (hw := kM.2.2.2.2.2.2.1) (kk := fun v37 w37 g37 => ?_)
        obtain ⟨rfl, q37⟩ := g37
        have q37 := q37.symm
        subst q37
        refine i_callV C lk_X2_67 (c_X2_add l hl D (hS := kS) (x1 := ndo os) (x2 := isrt (it4 qs i)) (x3 := iwth (it4 qs i) g) (x4 := (it4 qs i).2.2.2) (by omega) (fun q => ⟨⟨by show -1 ≤ ndo os; omega, knd.2⟩, e6.2⟩) knd.2) (hcl := rfl) (hst := rfl) dX2_takeCalled_40 (hw := kS.2.2.2.2.2.2.1) (kk := fun v40 w40 g40 => ?_)
        obtain ⟨rfl, kS2, kO2⟩ := g40
        rw [e9] at kS2
        refine i_iinc C dX2_takeCalled_43 (kk := ?_)
        refine i_goto C dX2_takeCalled_46 (tgt := 2) (kk := ?_)
        first | exact ih (i + 1) _ (by omega) (by omega) kS2 (kO.trans kO2) | exact ih (i + 1) _ (by omega) (by omega) (by rw [← e9]; exact kS) kO
  exact lp (qs.length + 1) 0 w (by omega) (by omega) hS offR.rf

set_option maxRecDepth 100000 in
set_option maxHeartbeats 4000000 in
theorem c_X2_takeCalledOn (l : Launch) (hl : l.stackTraces = false) (D : gD) {w : wW} {τ : Nat → Nat} {r a n s v c o r2 a2 n2 s2 v2 c2 o2 : Nat} {its qs : List It4} {os os2 : List Int} (hS : SpT D w τ r a n s v c o its os := by assumption) (hM : SpT D w τ r2 a2 n2 s2 v2 c2 o2 qs os2 := by assumption) (hr : r2 + 6 ≤ r ∨ r + 6 ≤ r2) : CTm l D yX2_takeCalledOn cX2_takeCalledOn 4 none (rmL 4 0 0) [.ref a, .ref a2] w (fun u w1 => u = none ∧ SpT D w1 τ r a n s v c o (tkO (ndo os) its qs) os ∧ offR τ w w1 r (r + 6)) := by
  refine CTm_of hl false rfl (by rfl) (Nat.le_of_ble_eq_true rfl) (fun h => nomatch h) ?_
  intro G C
  show G 0 0 w [some (.ref a), some (.ref a2), none, none] 0 []
  refine i_iconst C dX2_takeCalledOn_0 (kk := ?_)
  refine i_istore_n C dX2_takeCalledOn_1 (kk := ?_)
  have h100 := hM.2.2.2.2.2.2.2.1
  have lp : ∀ (m i : Nat) (w1 : wW) (o9 : Option Value), qs.length + 1 ≤ m + i → i ≤ qs.length → SpT D w1 τ r a n s v c o (tkO (ndo os) its (qs.take i)) os → offR τ w w1 r (r + 6) → G 0 0 w1 [some (.ref a), some (.ref a2), some (.int (Z32 (i : Int))), o9] 2 [] := by
    intro m
    induction m with
    | zero => intro i w1 o9 h1 h2; omega
    | succ m ih =>
    intro i w1 o9 h1 h2 kS kO
    have kM := hM.off kO (by omega)
    refine i_iload_n C dX2_takeCalledOn_2 (kk := ?_)
    refine i_aload_n C dX2_takeCalledOn_3 (kk := ?_)
    refine i_getf C f_X2_24 dX2_takeCalledOn_4 (hw := kM.2.2.2.2.2.2.1) (kk := ?_)
    refine i_icmp_ge C dX2_takeCalledOn_7 (tgt := 58) (kt := fun hB7 => ?_) (kf := fun hB7 => ?_)
    · exact i_vret C (d := dX2_takeCalledOn_58) (h := ⟨rfl, by rw [List.take_of_length_le (by omega)] at kS; exact kS, kO⟩)
    · refine i_aload_n C dX2_takeCalledOn_10 (kk := ?_)
      have hv := kM.2.2.2.2.2.2.2.2.2.1 _ (it4_mem (i := i) (by omega))
      unfold ItV at hv
      have knd := kS.nd
      have kM0 := kM
      obtain ⟨u1, u2, u3, u4, u5, u6, l1, -, -, -, -, fn, fs, fv, fc, fo, l2, l3, l4, l5, l6, z1, z2⟩ := kM0
      have ez := z1 i (by omega)
      have e1 : fn i = (it4 qs i).1 := congrArg (fun z => z.1) ez
      have e2 : fs i = (it4 qs i).2.1 := congrArg (fun z => z.2.1) ez
      have e3 : fv i = (it4 qs i).2.2.1 := congrArg (fun z => z.2.2.1) ez
      have etg := tog_R knd (b := (it4 qs i).1) (by omega)
      refine i_callV C lk_X2_37 (c_X2_need l hl D (hS := kS)) (hcl := rfl) (hst := rfl) dX2_takeCalledOn_11 (hw := kS.2.2.2.2.2.2.1) (kk := fun v11 w11 g11 => ?_)
      obtain ⟨rfl, q11⟩ := g11
      have q11 := q11.symm
      subst q11
      refine i_aload_n C dX2_takeCalledOn_14 (kk := ?_)
      refine i_getf C f_X2_9 dX2_takeCalledOn_15 (hw := l1) (kk := ?_)
      refine i_iload_n C dX2_takeCalledOn_18 (kk := ?_)
      refine i_callSN C lk_X2_49 (c_X6_at l hl D (f := fn) (a := n2)) (hst := rfl) dX2_takeCalledOn_19 (kk := fun v19 w19 g19 => ?_)
      obtain ⟨rfl, q19⟩ := g19
      have q19 := q19.symm
      subst q19
      rw [atz_nat (by omega)]
      rw [e1]
      refine i_callS C lk_X2_41 (c_X2_together l hl D) (hst := rfl) dX2_takeCalledOn_22 (kk := fun v22 w22 g22 => ?_)
      obtain ⟨rfl, q22⟩ := g22
      have q22 := q22.symm
      subst q22
      refine i_istore_n C dX2_takeCalledOn_25 (kk := ?_)
      refine i_aload_n C dX2_takeCalledOn_26 (kk := ?_)
      refine i_iload_n C dX2_takeCalledOn_27 (kk := ?_)
      refine i_aload_n C dX2_takeCalledOn_28 (kk := ?_)
      refine i_getf C f_X2_15 dX2_takeCalledOn_29 (hw := l1) (kk := ?_)
      refine i_iload_n C dX2_takeCalledOn_32 (kk := ?_)
      refine i_callSN C lk_X2_49 (c_X6_at l hl D (f := fs) (a := s2)) (hst := rfl) dX2_takeCalledOn_33 (kk := fun v33 w33 g33 => ?_)
      obtain ⟨rfl, q33⟩ := g33
      have q33 := q33.symm
      subst q33
      rw [atz_nat (by omega)]
      rw [e2]
      refine i_aload_n C dX2_takeCalledOn_36 (kk := ?_)
      refine i_getf C f_X2_18 dX2_takeCalledOn_37 (hw := l1) (kk := ?_)
      refine i_iload_n C dX2_takeCalledOn_40 (kk := ?_)
      refine i_callSN C lk_X2_49 (c_X6_at l hl D (f := fv) (a := v2)) (hst := rfl) dX2_takeCalledOn_41 (kk := fun v41 w41 g41 => ?_)
      obtain ⟨rfl, q41⟩ := g41
      have q41 := q41.symm
      subst q41
      rw [atz_nat (by omega)]
      rw [e3]
      refine i_aload_n C dX2_takeCalledOn_44 (kk := ?_)
      refine i_iload_n C dX2_takeCalledOn_45 (kk := ?_)
      refine i_callV C lk_X2_64 (c_X2_sourceOf l hl D (hS := kM) (i := i)) (hcl := rfl) (hst := rfl) dX2_takeCalledOn_46 (hw := kM.2.2.2.2.2.2.1) (kk := fun v46 w46 g46 => ?_)
      obtain ⟨rfl, q46⟩ := g46
      have q46 := q46.symm
      subst q46
      refine i_callV C lk_X2_67 (c_X2_add l hl D (hS := kS) (x1 := tog (ndo os) (it4 qs i).1) (x2 := (it4 qs i).2.1) (x3 := (it4 qs i).2.2.1) (x4 := (it4 qs i).2.2.2) (by omega) (fun q => ⟨⟨by show -1 ≤ tog _ _; omega, etg.2⟩, hv.2⟩) etg.2) (hcl := rfl) (hst := rfl) dX2_takeCalledOn_49 (hw := kS.2.2.2.2.2.2.1) (kk := fun v49 w49 g49 => ?_)
      obtain ⟨rfl, kS2, kO2⟩ := g49
      rw [← tkO_take (by omega)] at kS2
      refine i_iinc C dX2_takeCalledOn_52 (kk := ?_)
      refine i_goto C dX2_takeCalledOn_55 (tgt := 2) (kk := ?_)
      exact ih (i + 1) _ _ (by omega) (by omega) kS2 (kO.trans kO2)
  exact lp (qs.length + 1) 0 w _ (by omega) (by omega) hS offR.rf
