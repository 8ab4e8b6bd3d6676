theorem mem3 {P : Nat → Prop} {a b c : Nat} (h1 : P a) (h2 : P b) (h3 : P c) : ∀ x ∈ [a, b, c], P x := fun x hx => by
  simp only [List.mem_cons, List.not_mem_nil, or_false] at hx
  rcases hx with rfl | rfl | rfl <;> assumption
theorem mem5 {P : Nat → Prop} {a b c d e : Nat} (h1 : P a) (h2 : P b) (h3 : P c) (h4 : P d) (h5 : P e) : ∀ x ∈ [a, b, c, d, e], P x := fun x hx => by
  simp only [List.mem_cons, List.not_mem_nil, or_false] at hx
  rcases hx with rfl | rfl | rfl | rfl | rfl <;> assumption
theorem nin3 {q a b c : Nat} (h : q ∉ [a, b, c]) : q ≠ a ∧ q ≠ b ∧ q ≠ c := by simpa [not_or] using h
theorem nin5 {q a b c d e : Nat} (h : q ∉ [a, b, c, d, e]) : q ≠ a ∧ q ≠ b ∧ q ≠ c ∧ q ≠ d ∧ q ≠ e := by simpa [not_or] using h
theorem thru {W w1 : wW} {q t : Nat} {e X : va_E} {L : List Nat} (h : W q = some e) (ht : W t = none) (hL : ∀ x ∈ L, (wset W t X) x = none) (hf : ∀ q, q ≠ t → q ∉ L → w1 q = (wset W t X) q) : w1 q = some e := keepL (keep1 h ht) hL hf (ne_live h ht)
theorem PgC.off {D : gD} {w : wW} {g v t x1 x2 x3 s y1 y2 y3 y4 y5 z : Nat} {X : va_E} (h : PgC D w g v t x1 x2 x3 s y1 y2 y3 y4 y5) (hz : z ∉ ([g, v, t, x1, x2, x3, s, y1, y2, y3, y4, y5] : List Nat)) : PgC D (wset w z X) g v t x1 x2 x3 s y1 y2 y3 y4 y5 := by
  simp only [List.mem_cons, List.not_mem_nil, or_false, not_or] at hz
  obtain ⟨z1, z2, z3, z4, z5, z6, z7, z8, z9, z10, z11, z12⟩ := hz
  obtain ⟨n1, n2, ⟨n3, n4, n5, n6⟩, n7, n8, n9, n10, n11, n12⟩ := h
  exact ⟨by rw [wset_ne (Ne.symm z1)]; exact n1, by rw [wset_ne (Ne.symm z2)]; exact n2, ⟨by rw [wset_ne (Ne.symm z3)]; exact n3, by rw [wset_ne (Ne.symm z4)]; exact n4, by rw [wset_ne (Ne.symm z5)]; exact n5, by rw [wset_ne (Ne.symm z6)]; exact n6⟩, by rw [wset_ne (Ne.symm z7)]; exact n7, by rw [wset_ne (Ne.symm z8)]; exact n8, by rw [wset_ne (Ne.symm z9)]; exact n9, by rw [wset_ne (Ne.symm z10)]; exact n10, by rw [wset_ne (Ne.symm z11)]; exact n11, by rw [wset_ne (Ne.symm z12)]; exact n12⟩
set_option maxRecDepth 100000 in
set_option maxHeartbeats 4000000 in
theorem c_X1_init (l : Launch) (hl : l.stackTraces = false) (D : gD) {w : wW} {a : Nat} (hw : w a = some (.inr (1, [.null, .int 0, .null])) := by assumption) : CTm l D yX1_init cX1_init 1 none (rmL 3 11 536) [.ref a] w (fun u w1 => u = none ∧ ∃ v t x1 x2 x3 s y1 y2 y3 y4 y5, Gr w w1 a [v, t, x1, x2, x3, s, y1, y2, y3, y4, y5] ∧ PgC D w1 a v t x1 x2 x3 s y1 y2 y3 y4 y5) := by
  refine CTm_of hl true rfl (by rfl) (Nat.le_of_ble_eq_true rfl) (fun _ => rfl) ?_
  intro G C
  show G 0 0 w [some (.ref a)] 0 []
  refine i_aload_n C dX1_init_0 (kk := ?_)
  refine i_objInit C lk_X1_3 dX1_init_1 (kk := ?_)
  refine i_aload_n C dX1_init_4 (kk := ?_)
  refine i_new C nw_X1_9 dX1_init_5 (kk := fun q5 nq5 => ?_)
  refine i_dup C dX1_init_8 (kk := ?_)
  refine i_null C dX1_init_9 (kk := ?_)
  refine i_iconst C dX1_init_10 (kk := ?_)
  refine i_new C nw_X1_11 dX1_init_11 (kk := fun q11 nq11 => ?_)
  refine i_dup C dX1_init_14 (kk := ?_)
  refine i_callI C lk_X1_13 (c_X3_init l hl D (hw := wset_eq)) (hst := rfl) dX1_init_15 (kk := fun v15 w15 g15 => ?_)
  obtain ⟨rfl, x1, x2, x3, f1, f2, f3, d1, d2, d3, k0, k1, k2, k3, kf⟩ := g15
  have L3 := mem3 (P := fun x => _ = none) f1 f2 f3
  have F3 := fun q hq hn => kf q hq (nin3 hn).1 (nin3 hn).2.1 (nin3 hn).2.2
  have G2 : Gr w w15 a [q5, q11, x1, x2, x3] := (((Gr.rf (w := w) (a := a) (by rw [hw]; exact nofun)).new nq5).new nq11).more (t := q11) (nd3 d1 d2 d3) L3 (mem3 (P := fun x => w15 x ≠ none) (by rw [k1]; exact nofun) (by rw [k2]; exact nofun) (by rw [k3]; exact nofun)) (Or.inr (by simp)) (by rw [k0]; exact nofun) F3
  have hV0 := thru (q := q5) wset_eq nq11 L3 F3
  have hA0 := thru (q := a) (keep1 hw nq5) nq11 L3 F3
  have na5 : a ≠ q5 := ne_live hw nq5
  have n11 : q11 ≠ q5 := fun z => by rw [z, wset_eq] at nq11; cases nq11
  have na11 : q11 ≠ a := (ne_live (keep1 hw nq5) nq11).symm
  refine i_iconst C dX1_init_18 (kk := ?_)
  refine i_callI C lk_X1_14 (c0_X4_init l hl D (hw := hV0)) (hst := rfl) dX1_init_19 (kk := fun v19 w19 g19 => ?_)
  obtain ⟨rfl, rfl⟩ := g19
  have hA1 : _ = some _ := (wset_ne na5).trans hA0
  refine i_putf C fk_X1_17 dX1_init_22 (hw := hA1) (kk := ?_)
  refine i_aload_n C dX1_init_25 (kk := ?_)
  refine i_iconst C dX1_init_26 (kk := ?_)
  refine i_putf C fk_X1_23 dX1_init_27 (hw := wset_eq) (kk := ?_)
  refine i_aload_n C dX1_init_30 (kk := ?_)
  have G3 := ((G2.mod (X := .inr (4, [.null, .int (Z32 0), .ref q11, .int (Z32 3)])) (t := q5) (Or.inr (by simp))).mod (X := .inr (1, [.ref q5, .int 0, .null])) (t := a) (Or.inl rfl)).mod (X := .inr (1, [.ref q5, .int (Z32 0), .null])) (t := a) (Or.inl rfl)
  refine i_new C nw_X1_27 dX1_init_31 (kk := fun q31 nq31 => ?_)
  refine i_dup C dX1_init_34 (kk := ?_)
  refine i_callI C lk_X1_29 (c_X2_init l hl D (hw := wset_eq)) (hst := rfl) dX1_init_35 (kk := fun v35 w35 g35 => ?_)
  obtain ⟨rfl, y1, y2, y3, y4, y5, f1', f2', f3', f4', f5', e1, e2, e3, e4, e5, e6, e7, e8, e9, e10, j0, j1, j2, j3, j4, j5, jf⟩ := g35
  have L5 := mem5 (P := fun x => _ = none) f1' f2' f3' f4' f5'
  have F5 := fun q hq hn => jf q hq (nin5 hn).1 (nin5 hn).2.1 (nin5 hn).2.2.1 (nin5 hn).2.2.2.1 (nin5 hn).2.2.2.2
  have G4 : Gr w w35 a [q5, q11, x1, x2, x3, q31, y1, y2, y3, y4, y5] := (G3.new nq31).more (t := q31) (nd5 e1 e2 e3 e4 e5 e6 e7 e8 e9 e10) L5 (mem5 (P := fun x => w35 x ≠ none) (by rw [j1]; exact nofun) (by rw [j2]; exact nofun) (by rw [j3]; exact nofun) (by rw [j4]; exact nofun) (by rw [j5]; exact nofun)) (Or.inr (by simp)) (by rw [j0]; exact nofun) F5
  have T := fun q e (h : _ = some e) => thru (q := q) (e := e) h nq31 L5 F5
  have hA4 := T a _ wset_eq
  have hv4 := T q5 _ (by rw [wset_ne (Ne.symm na5), wset_ne (Ne.symm na5), wset_eq])
  have ht4 := T q11 _ (by rw [wset_ne na11, wset_ne na11, wset_ne n11]; exact k0)
  have r : ∀ x, x ∈ [x1, x2, x3] → x ≠ a ∧ x ≠ q5 := fun x hx => by
    have y := L3 x hx
    exact ⟨fun z => by rw [z, keep1 (keep1 hw nq5) nq11] at y; cases y, fun z => by rw [z, keep1 wset_eq nq11] at y; cases y⟩
  have hx1 := T x1 _ (by rw [wset_ne (r x1 (by simp)).1, wset_ne (r x1 (by simp)).1, wset_ne (r x1 (by simp)).2]; exact k1)
  have hx2 := T x2 _ (by rw [wset_ne (r x2 (by simp)).1, wset_ne (r x2 (by simp)).1, wset_ne (r x2 (by simp)).2]; exact k2)
  have hx3 := T x3 _ (by rw [wset_ne (r x3 (by simp)).1, wset_ne (r x3 (by simp)).1, wset_ne (r x3 (by simp)).2]; exact k3)
  have na31 : q31 ≠ a := fun z => by rw [z, wset_eq] at nq31; cases nq31
  have r2 : ∀ x, x ∈ [y1, y2, y3, y4, y5] → x ≠ a := fun x hx z => by
    have y := L5 x hx
    rw [z, wset_ne (Ne.symm na31), wset_eq] at y
    cases y
  refine i_putF C ff_X1_30 dX1_init_38 (hw := hA4) (kk := ?_)
  exact i_vret C (d := dX1_init_41) (h := ⟨rfl, q5, q11, x1, x2, x3, q31, y1, y2, y3, y4, y5, G4.mod (Or.inl rfl), wset_eq, by rw [wset_ne (Ne.symm na5)]; exact hv4, ⟨by rw [wset_ne na11]; exact ht4, by rw [wset_ne (r x1 (by simp)).1]; exact hx1, by rw [wset_ne (r x2 (by simp)).1]; exact hx2, by rw [wset_ne (r x3 (by simp)).1]; exact hx3⟩, by rw [wset_ne na31]; exact j0, by rw [wset_ne (r2 y1 (by simp))]; exact j1, by rw [wset_ne (r2 y2 (by simp))]; exact j2, by rw [wset_ne (r2 y3 (by simp))]; exact j3, by rw [wset_ne (r2 y4 (by simp))]; exact j4, by rw [wset_ne (r2 y5 (by simp))]; exact j5⟩)
