set_option maxRecDepth 100000 in
set_option maxHeartbeats 4000000 in
theorem c_X6_at (l : Launch) (hl : l.stackTraces = false) (D : gD) {w : wW} {a N : Nat} {f : Nat → Int} {i : Int} (hw : w a = some (iar D N f) := by assumption) (hN : (N : Int) < 2147483648 := by decide) (hi : inR i := by omega) : CTm l D yX6_at cX6_at 2 (some .int) (rmL 1 0 0) [.ref a, .int (Z32 i)] w (fun v w1 => v = some (.int (Z32 (atz N f i))) ∧ w1 = w) := by
  refine CTm_of hl false rfl (by rfl) (Nat.le_of_ble_eq_true rfl) (fun h => nomatch h) ?_
  intro G C
  show G 0 0 w [some (.ref a), some (.int (Z32 i))] 0 []
  refine i_iload_n C dX6_at_0 (kk := ?_)
  refine i_if_lt C dX6_at_1 (tgt := 16) (kt := fun hB1 => ?_) (kf := fun hB1 => ?_)
  · refine i_iconst C dX6_at_16 (kk := ?_)
    exact i_iret C (d := dX6_at_17) (h := ⟨by first | (rw [atz_in (by omega) (by omega)]; done) | (unfold atz; rw [if_neg (by omega)]; done), rfl⟩)
  · refine i_iload_n C dX6_at_4 (kk := ?_)
    refine i_aload_n C dX6_at_5 (kk := ?_)
    refine i_alen C dX6_at_6 (kk := ?_)
    refine i_icmp_ge C dX6_at_7 (tgt := 16) (kt := fun hB7 => ?_) (kf := fun hB7 => ?_)
    · refine i_iconst C dX6_at_16 (kk := ?_)
      exact i_iret C (d := dX6_at_17) (h := ⟨by first | (rw [atz_in (by omega) (by omega)]; done) | (unfold atz; rw [if_neg (by omega)]; done), rfl⟩)
    · refine i_aload_n C dX6_at_10 (kk := ?_)
      refine i_iload_n C dX6_at_11 (kk := ?_)
      refine i_iaload C dX6_at_12 (kk := ?_)
      refine i_goto C dX6_at_13 (tgt := 17) (kk := ?_)
      exact i_iret C (d := dX6_at_17) (h := ⟨by first | (rw [atz_in (by omega) (by omega)]; done) | (unfold atz; rw [if_neg (by omega)]; done), rfl⟩)

set_option maxRecDepth 100000 in
set_option maxHeartbeats 4000000 in
theorem c_X6_put (l : Launch) (hl : l.stackTraces = false) (D : gD) {w : wW} {a N : Nat} {f : Nat → Int} {i x : Int} (hw : w a = some (iar D N f) := by assumption) (hN : (N : Int) < 2147483648 := by decide) (hi : inR i := by omega) : CTm l D yX6_put cX6_put 3 none (rmL 1 0 0) [.ref a, .int (Z32 i), .int (Z32 x)] w (fun v w1 => v = none ∧ w1 = wset w a (iar D N (putz N f i x))) := by
  refine CTm_of hl false rfl (by rfl) (Nat.le_of_ble_eq_true rfl) (fun h => nomatch h) ?_
  intro G C
  show G 0 0 w [some (.ref a), some (.int (Z32 i)), some (.int (Z32 x))] 0 []
  refine i_iload_n C dX6_put_0 (kk := ?_)
  refine i_if_lt C dX6_put_1 (tgt := 14) (kt := fun hB1 => ?_) (kf := fun hB1 => ?_)
  · exact i_vret C (d := dX6_put_14) (h := ⟨rfl, by first | (rw [putz_in (by omega) (by omega)]; done) | (unfold putz; rw [if_neg (by omega), wset_same hw]; done)⟩)
  · refine i_iload_n C dX6_put_4 (kk := ?_)
    refine i_aload_n C dX6_put_5 (kk := ?_)
    refine i_alen C dX6_put_6 (kk := ?_)
    refine i_icmp_ge C dX6_put_7 (tgt := 14) (kt := fun hB7 => ?_) (kf := fun hB7 => ?_)
    · exact i_vret C (d := dX6_put_14) (h := ⟨rfl, by first | (rw [putz_in (by omega) (by omega)]; done) | (unfold putz; rw [if_neg (by omega), wset_same hw]; done)⟩)
    · refine i_aload_n C dX6_put_10 (kk := ?_)
      refine i_iload_n C dX6_put_11 (kk := ?_)
      refine i_iload_n C dX6_put_12 (kk := ?_)
      refine i_iastore C dX6_put_13 (kk := ?_)
      exact i_vret C (d := dX6_put_14) (h := ⟨rfl, by first | (rw [putz_in (by omega) (by omega)]; done) | (unfold putz; rw [if_neg (by omega), wset_same hw]; done)⟩)

set_option maxRecDepth 100000 in
set_option maxHeartbeats 4000000 in
theorem c_X6_greatest (l : Launch) (hl : l.stackTraces = false) (D : gD) {w : wW} {a N : Nat} {f : Nat → Int} (hw : w a = some (iar D N f) := by assumption) (hN : (N : Int) < 2147483648 := by decide) (hf : ∀ j, j < N → inR (f j)) : CTm l D yX6_greatest cX6_greatest 3 (some .int) (rmL 2 0 0) [.ref a] w (fun v w1 => v = some (.int (Z32 (gtz f N))) ∧ w1 = w) := by
  refine CTm_of hl false rfl (by rfl) (Nat.le_of_ble_eq_true rfl) (fun h => nomatch h) ?_
  intro G C
  show G 0 0 w [some (.ref a), none, none] 0 []
  refine i_iconst C dX6_greatest_0 (kk := ?_)
  refine i_istore_n C dX6_greatest_1 (kk := ?_)
  refine i_iconst C dX6_greatest_2 (kk := ?_)
  refine i_istore_n C dX6_greatest_3 (kk := ?_)
  have lp : ∀ (n j : Nat), N + 1 ≤ n + j → j ≤ N → G 0 0 w [some (.ref a), some (.int (Z32 (gtz f j))), some (.int (Z32 (j : Int)))] 4 [] := by
    intro n
    induction n with
    | zero => intro j h1 h2; omega
    | succ n ih =>
    intro j h1 h2
    have hg := gtz_R (f := f) (n := j) (fun i hi => hf i (by omega))
    refine i_iload_n C dX6_greatest_4 (kk := ?_)
    refine i_aload_n C dX6_greatest_5 (kk := ?_)
    refine i_alen C dX6_greatest_6 (kk := ?_)
    refine i_icmp_ge C dX6_greatest_7 (tgt := 24) (kt := fun hB7 => ?_) (kf := fun hB7 => ?_)
    · refine i_iload_n C dX6_greatest_24 (kk := ?_)
      exact i_iret C (d := dX6_greatest_25) (h := ⟨by rw [show j = N by omega], rfl⟩)
    · refine i_iload_n C dX6_greatest_10 (kk := ?_)
      refine i_aload_n C dX6_greatest_11 (kk := ?_)
      refine i_iload_n C dX6_greatest_12 (kk := ?_)
      refine i_iaload C dX6_greatest_13 (kk := ?_)
      rw [Int.toNat_natCast]
      have hj := hf j (by omega)
      refine i_max C lk_X6_251 dX6_greatest_14 (kk := ?_)
      refine i_istore_n C dX6_greatest_17 (kk := ?_)
      refine i_iinc C dX6_greatest_18 (kk := ?_)
      refine i_goto C dX6_greatest_21 (tgt := 4) (kk := ?_)
      exact ih (j + 1) (by omega) (by omega)
  exact lp (N + 1) 0 (by omega) (by omega)

set_option maxRecDepth 100000 in
set_option maxHeartbeats 4000000 in
theorem c_X6_contains (l : Launch) (hl : l.stackTraces = false) (D : gD) {w : wW} {s p : Nat} (hs : s < 2 ^ 31) (hp : p < 32) : CTm l D yX6_contains cX6_contains 2 (some .boolean) (rmL 1 0 0) [.int (Z32 (s : Int)), .int (Z32 (p : Int))] w (fun v w1 => v = some (.int (Z32 (if s.testBit p then 1 else 0))) ∧ w1 = w) := by
  refine CTm_of hl false rfl (by rfl) (Nat.le_of_ble_eq_true rfl) (fun h => nomatch h) ?_
  intro G C
  show G 0 0 w [some (.int (Z32 (s : Int))), some (.int (Z32 (p : Int)))] 0 []
  refine i_iload_n C dX6_contains_0 (kk := ?_)
  refine i_iload_n C dX6_contains_1 (kk := ?_)
  refine i_ishr C dX6_contains_2 (hz := Z32_shr hs hp) (kk := ?_)
  refine i_iconst C dX6_contains_3 (kk := ?_)
  refine i_iand C dX6_contains_4 (hz := Z32_and1 _) (kk := ?_)
  have hb := bit_mod s p
  rw [hb]
  refine i_if_eq C dX6_contains_5 (tgt := 12) (kt := fun hB5 => ?_) (kf := fun hB5 => ?_)
  · refine i_iconst C dX6_contains_12 (kk := ?_)
    exact i_zret C (d := dX6_contains_13) (ha := by first | exact Or.inl rfl | exact Or.inr rfl) (h := ⟨by split at hB5 <;> rename_i q <;> simp [q] at hB5 ⊢, rfl⟩)
  · refine i_iconst C dX6_contains_8 (kk := ?_)
    refine i_goto C dX6_contains_9 (tgt := 13) (kk := ?_)
    exact i_zret C (d := dX6_contains_13) (ha := by first | exact Or.inl rfl | exact Or.inr rfl) (h := ⟨by split at hB5 <;> rename_i q <;> simp [q] at hB5 ⊢, rfl⟩)
