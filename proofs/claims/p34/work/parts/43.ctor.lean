theorem mem3 {P : Nat → Prop} {a b c : Nat} (h1 : P a) (h2 : P b) (h3 : P c) : ∀ x ∈ [a, b, c], P x := fun x hx => by
  simp only [List.mem_cons, List.not_mem_nil, or_false] at hx
  rcases hx with rfl | rfl | rfl <;> assumption
theorem mem5 {P : Nat → Prop} {a b c d e : Nat} (h1 : P a) (h2 : P b) (h3 : P c) (h4 : P d) (h5 : P e) : ∀ x ∈ [a, b, c, d, e], P x := fun x hx => by
  simp only [List.mem_cons, List.not_mem_nil, or_false] at hx
  rcases hx with rfl | rfl | rfl | rfl | rfl <;> assumption
theorem nin3 {q a b c : Nat} (h : q ∉ [a, b, c]) : q ≠ a ∧ q ≠ b ∧ q ≠ c := by simpa [not_or] using h
theorem nin5 {q a b c d e : Nat} (h : q ∉ [a, b, c, d, e]) : q ≠ a ∧ q ≠ b ∧ q ≠ c ∧ q ≠ d ∧ q ≠ e := by simpa [not_or] using h
theorem thru {W w1 : wW} {q t : Nat} {e X : va_E} {L : List Nat} (h : W q = some e) (ht : W t = none) (hL : ∀ x ∈ L, (wset W t X) x = none) (hf : ∀ q, q ≠ t → q ∉ L → w1 q = (wset W t X) q) : w1 q = some e := keepL (keep1 h ht) hL hf (ne_live h ht)
theorem PgC.off {D : gD} {w : wW} {g v t x1 x2 x3 s y1 y2 y3 y4 y5 z : Nat} {X : va_E} (h : PgC D w g v t x1 x2 x3 s y1 y2 y3 y4 y5) (hz : z ∉ ([g, v, t, x1, x2, x3, s, y1, y2, y3, y4, y5] : List Nat)) : PgC D (wset w z X) g v t x1 x2 x3 s y1 y2 y3 y4 y5 := by
  simp only [List.mem_cons, List.not_mem_nil, or_false, not_or] at hz
  obtain ⟨z1, z2, z3, z4, z5, z6, z7, z8, z9, z10, z11, z12⟩ := hz
  obtain ⟨n1, n2, ⟨n3, n4, n5, n6⟩, n7, n8, n9, n10, n11, n12⟩ := h
  exact ⟨by rw [wset_ne (Ne.symm z1)]; exact n1, by rw [wset_ne (Ne.symm z2)]; exact n2, ⟨by rw [wset_ne (Ne.symm z3)]; exact n3, by rw [wset_ne (Ne.symm z4)]; exact n4, by rw [wset_ne (Ne.symm z5)]; exact n5, by rw [wset_ne (Ne.symm z6)]; exact n6⟩, by rw [wset_ne (Ne.symm z7)]; exact n7, by rw [wset_ne (Ne.symm z8)]; exact n8, by rw [wset_ne (Ne.symm z9)]; exact n9, by rw [wset_ne (Ne.symm z10)]; exact n10, by rw [wset_ne (Ne.symm z11)]; exact n11, by rw [wset_ne (Ne.symm z12)]; exact n12⟩
set_option maxRecDepth 100000 in
set_option maxHeartbeats 4000000 in
theorem c_X1_init (l : Launch) (hl : l.stackTraces = false) (D : gD) {w : wW} {a : Nat} (hw : w a = some (.inr (1, [.null, .int 0, .null])) := by assumption) : CTm l D yX1_init cX1_init 1 none (rmL 3 11 537) [.ref a] w (fun u w1 => u = none ∧ ∃ v t x1 x2 x3 s y1 y2 y3 y4 y5, Gr w w1 a [v, t, x1, x2, x3, s, y1, y2, y3, y4, y5] ∧ PgC D w1 a v t x1 x2 x3 s y1 y2 y3 y4 y5) := by
  refine CTm_of hl true rfl (by rfl) (Nat.le_of_ble_eq_true rfl) (fun _ => rfl) ?_
  intro G C
  show G 0 0 w [some (.ref a)] 0 []
  refine i_aload_n C dX1_init_0 (kk := ?_)
  refine i_objInit C lk_X1_3 dX1_init_1 (kk := ?_)
  refine i_aload_n C dX1_init_4 (kk := ?_)
  refine i_new C nw_X1_9 dX1_init_5 (kk := fun q5 nq5 => ?_)
  refine i_dup C dX1_init_8 (kk := ?_)
  refine i_null C dX1_init_9 (kk := ?_)
  refine i_iconst C dX1_init_10 (kk := ?_)
  refine i_new C nw_X1_11 dX1_init_11 (kk := fun q11 nq11 => ?_)
  refine i_dup C dX1_init_14 (kk := ?_)
  refine i_callI C lk_X1_13 (c_X3_init l hl D (hw := wset_eq)) (hst := rfl) dX1_init_15 (kk := fun v15 w15 g15 => ?_)
  obtain ⟨rfl, x1, x2, x3, f1, f2, f3, d1, d2, d3, k0, k1, k2, k3, kf⟩ := g15
  have L3 := mem3 (P := fun x => _ = none) f1 f2 f3
  have F3 := fun q hq hn => kf q hq (nin3 hn).1 (nin3 hn).2.1 (nin3 hn).2.2
  have G2 : Gr w w15 a [q5, q11, x1, x2, x3] := (((Gr.rf (w := w) (a := a) (by rw [hw]; exact nofun)).new nq5).new nq11).more (t := q11) (nd3 d1 d2 d3) L3 (mem3 (P := fun x => w15 x ≠ none) (by rw [k1]; exact nofun) (by rw [k2]; exact nofun) (by rw [k3]; exact nofun)) (Or.inr (by simp)) (by rw [k0]; exact nofun) F3
  have hV0 := thru (q := q5) wset_eq nq11 L3 F3
  have hA0 := thru (q := a) (keep1 hw nq5) nq11 L3 F3
  have na5 : a ≠ q5 := ne_live hw nq5
  have n11 : q11 ≠ q5 := fun z => by rw [z, wset_eq] at nq11; cases nq11
  have na11 : q11 ≠ a := (ne_live (keep1 hw nq5) nq11).symm
  refine i_iconst C dX1_init_18 (kk := ?_)
  refine i_callI C lk_X1_14 (c0_X4_init l hl D (hw := hV0)) (hst := rfl) dX1_init_19 (kk := fun v19 w19 g19 => ?_)
  obtain ⟨rfl, rfl⟩ := g19
  refine i_putf C fk_X1_17 dX1_init_22 (hw := ((wset_ne na5).trans hA0)) (kk := ?_)
  refine i_aload_n C dX1_init_25 (kk := ?_)
  refine i_iconst C dX1_init_26 (kk := ?_)
  refine i_putf C fk_X1_23 dX1_init_27 (hw := wset_eq) (kk := ?_)
  refine i_aload_n C dX1_init_30 (kk := ?_)
  have G3 := ((G2.mod (X := .inr (4, [.null, .int (Z32 0), .ref q11, .int (Z32 3)])) (t := q5) (Or.inr (by simp))).mod (X := .inr (1, [.ref q5, .int 0, .null])) (t := a) (Or.inl rfl)).mod (X := .inr (1, [.ref q5, .int (Z32 0), .null])) (t := a) (Or.inl rfl)
  refine i_new C nw_X1_27 dX1_init_31 (kk := fun q31 nq31 => ?_)
  refine i_dup C dX1_init_34 (kk := ?_)
  refine i_callI C lk_X1_29 (c_X2_init l hl D (hw := wset_eq)) (hst := rfl) dX1_init_35 (kk := fun v35 w35 g35 => ?_)
  obtain ⟨rfl, y1, y2, y3, y4, y5, f1', f2', f3', f4', f5', e1, e2, e3, e4, e5, e6, e7, e8, e9, e10, j0, j1, j2, j3, j4, j5, jf⟩ := g35
  have L5 := mem5 (P := fun x => _ = none) f1' f2' f3' f4' f5'
  have F5 := fun q hq hn => jf q hq (nin5 hn).1 (nin5 hn).2.1 (nin5 hn).2.2.1 (nin5 hn).2.2.2.1 (nin5 hn).2.2.2.2
  have G4 : Gr w w35 a [q5, q11, x1, x2, x3, q31, y1, y2, y3, y4, y5] := (G3.new nq31).more (t := q31) (nd5 e1 e2 e3 e4 e5 e6 e7 e8 e9 e10) L5 (mem5 (P := fun x => w35 x ≠ none) (by rw [j1]; exact nofun) (by rw [j2]; exact nofun) (by rw [j3]; exact nofun) (by rw [j4]; exact nofun) (by rw [j5]; exact nofun)) (Or.inr (by simp)) (by rw [j0]; exact nofun) F5
  have T := fun q e (h : _ = some e) => thru (q := q) (e := e) h nq31 L5 F5
  have hA4 := T a _ wset_eq
  have hv4 := T q5 _ (by rw [wset_ne (Ne.symm na5), wset_ne (Ne.symm na5), wset_eq])
  have ht4 := T q11 _ (by rw [wset_ne na11, wset_ne na11, wset_ne n11]; exact k0)
  have r : ∀ x, x ∈ [x1, x2, x3] → x ≠ a ∧ x ≠ q5 := fun x hx => by
    have y := L3 x hx
    exact ⟨fun z => by (rw [z, keep1 (keep1 hw nq5) nq11] at y; cases y), fun z => by (rw [z, keep1 wset_eq nq11] at y; cases y)⟩
  have hx1 := T x1 _ (by rw [wset_ne (r x1 (by simp)).1, wset_ne (r x1 (by simp)).1, wset_ne (r x1 (by simp)).2]; exact k1)
  have hx2 := T x2 _ (by rw [wset_ne (r x2 (by simp)).1, wset_ne (r x2 (by simp)).1, wset_ne (r x2 (by simp)).2]; exact k2)
  have hx3 := T x3 _ (by rw [wset_ne (r x3 (by simp)).1, wset_ne (r x3 (by simp)).1, wset_ne (r x3 (by simp)).2]; exact k3)
  have na31 : q31 ≠ a := fun z => by rw [z, wset_eq] at nq31; cases nq31
  have r2 : ∀ x, x ∈ [y1, y2, y3, y4, y5] → x ≠ a := fun x hx z => by
    have y := L5 x hx
    rw [z, wset_ne (Ne.symm na31), wset_eq] at y
    cases y
  refine i_putF C ff_X1_30 dX1_init_38 (hw := hA4) (kk := ?_)
  exact i_vret C (d := dX1_init_41) (h := ⟨rfl, q5, q11, x1, x2, x3, q31, y1, y2, y3, y4, y5, G4.mod (Or.inl rfl), wset_eq, by rw [wset_ne (Ne.symm na5)]; exact hv4, ⟨by rw [wset_ne na11]; exact ht4, by rw [wset_ne (r x1 (by simp)).1]; exact hx1, by rw [wset_ne (r x2 (by simp)).1]; exact hx2, by rw [wset_ne (r x3 (by simp)).1]; exact hx3⟩, by rw [wset_ne na31]; exact j0, by rw [wset_ne (r2 y1 (by simp))]; exact j1, by rw [wset_ne (r2 y2 (by simp))]; exact j2, by rw [wset_ne (r2 y3 (by simp))]; exact j3, by rw [wset_ne (r2 y4 (by simp))]; exact j4, by rw [wset_ne (r2 y5 (by simp))]; exact j5⟩)

theorem nd19 {a q48 q18 q5 x1 x2 x3 q24 c1 c2 c3 c4 c5 q35 d1 d2 d3 d4 d5 : Nat} (h : ([q5, x1, x2, x3, q18, q24, c1, c2, c3, c4, c5, q35, d1, d2, d3, d4, d5, q48] : List Nat).Nodup) (ha : a ∉ ([q5, x1, x2, x3, q18, q24, c1, c2, c3, c4, c5, q35, d1, d2, d3, d4, d5, q48] : List Nat)) : ([(a, 0), (q48, 1), (q18, 2), (q5, 3), (x1, 4), (x2, 5), (x3, 6), (q24, 10), (c1, 11), (c2, 12), (c3, 13), (c4, 14), (c5, 15), (q35, 20), (d1, 21), (d2, 22), (d3, 23), (d4, 24), (d5, 25)].map Prod.fst).Nodup := by
  have h2 : (a :: [q5, x1, x2, x3, q18, q24, c1, c2, c3, c4, c5, q35, d1, d2, d3, d4, d5, q48]).Nodup := List.nodup_cons.mpr ⟨ha, h⟩
  refine (List.Perm.nodup_iff ?_).mp h2
  show (a :: [q5, x1, x2, x3, q18, q24, c1, c2, c3, c4, c5, q35, d1, d2, d3, d4, d5, q48]).Perm [a, q48, q18, q5, x1, x2, x3, q24, c1, c2, c3, c4, c5, q35, d1, d2, d3, d4, d5]
  refine List.Perm.cons a ?_
  refine (List.perm_append_comm (l₁ := [q5, x1, x2, x3, q18, q24, c1, c2, c3, c4, c5, q35, d1, d2, d3, d4, d5]) (l₂ := [q48])).trans (List.Perm.cons q48 ?_)
  exact (List.perm_append_comm (l₁ := [q5, x1, x2, x3]) (l₂ := [q18])).append_right [q24, c1, c2, c3, c4, c5, q35, d1, d2, d3, d4, d5]
set_option maxRecDepth 100000 in
set_option maxHeartbeats 4000000 in
theorem c_X6_init (l : Launch) (hl : l.stackTraces = false) (D : gD) {w : wW} {a : Nat} (hw : w a = some (.inr (6, [.null, .null, .null, .null, .null])) := by assumption) : CTm l D yX6_init cX6_init 2 none (rmL 4 170 7200) [.ref a] w (fun u w1 => u = none ∧ ∃ τ ad : Nat → Nat, WkI D w1 τ ad 10 20 sg0 ∧ ad 0 = a ∧ ∀ q, w q ≠ none → q ≠ a → w1 q = w q) := by
  refine CTm_of hl true rfl (by rfl) (Nat.le_of_ble_eq_true rfl) (fun _ => rfl) ?_
  intro G C
  show G 0 0 w [some (.ref a), none] 0 []
  refine i_aload_n C dX6_init_0 (kk := ?_)
  refine i_objInit C lk_X6_3 dX6_init_1 (kk := ?_)
  refine i_aload_n C dX6_init_4 (kk := ?_)
  refine i_new C nw_X6_9 dX6_init_5 (kk := fun q5 nq5 => ?_)
  refine i_dup C dX6_init_8 (kk := ?_)
  refine i_callI C lk_X6_11 (c_X3_init l hl D (hw := wset_eq)) (hst := rfl) dX6_init_9 (kk := fun v9 w9 g9 => ?_)
  obtain ⟨rfl, x1, x2, x3, f1, f2, f3, d1, d2, d3, k0, k1, k2, k3, kf⟩ := g9
  have L3 := mem3 (P := fun x => _ = none) f1 f2 f3
  have F3 := fun q hq hn => kf q hq (nin3 hn).1 (nin3 hn).2.1 (nin3 hn).2.2
  have G1 : Gr w w9 a [q5, x1, x2, x3] := ((Gr.rf (w := w) (a := a) (by rw [hw]; exact nofun)).new nq5).more (t := q5) (nd3 d1 d2 d3) L3 (mem3 (P := fun x => w9 x ≠ none) (by rw [k1]; exact nofun) (by rw [k2]; exact nofun) (by rw [k3]; exact nofun)) (Or.inr (by simp)) (by rw [k0]; exact nofun) F3
  have hA0 := thru (q := a) hw nq5 L3 F3
  have na5 : q5 ≠ a := (ne_live hw nq5).symm
  have r : ∀ x, x ∈ [x1, x2, x3] → x ≠ a := fun x hx z => by
    have y := L3 x hx
    rw [z, keep1 hw nq5] at y
    cases y
  have T5 := (wset_ne (e := .inr (6, [.ref q5, .null, .null, .null, .null])) na5).trans k0
  have T1 := (wset_ne (e := .inr (6, [.ref q5, .null, .null, .null, .null])) (r x1 (by simp))).trans k1
  have T2 := (wset_ne (e := .inr (6, [.ref q5, .null, .null, .null, .null])) (r x2 (by simp))).trans k2
  have T3 := (wset_ne (e := .inr (6, [.ref q5, .null, .null, .null, .null])) (r x3 (by simp))).trans k3
  have G2 := G1.mod (X := .inr (6, [.ref q5, .null, .null, .null, .null])) (t := a) (Or.inl rfl)
  refine i_putF C ff_X6_12 dX6_init_12 (hw := hA0) (kk := ?_)
  refine i_aload_n C dX6_init_15 (kk := ?_)
  refine i_bipush C dX6_init_16 (kk := ?_)
  refine i_newint C (harr := ta_int) (N := 6) (d := dX6_init_18) (kk := fun q18 nq18 => ?_)
  have hA18 : wset w9 a (.inr (6, [.ref q5, .null, .null, .null, .null])) a = some (.inr (6, [.ref q5, .null, .null, .null, .null])) := wset_eq
  have na18 : q18 ≠ a := (ne_live hA18 nq18).symm
  have NE5 := na5
  have NE1 := r x1 (by simp)
  have NE2 := r x2 (by simp)
  have NE3 := r x3 (by simp)
  have T5 := (wset_ne (e := .inr (6, [.ref q5, .null, .ref q18, .null, .null])) NE5).trans (keep1 (X := iar D 6 (fun _ => 0)) T5 nq18)
  have T1 := (wset_ne (e := .inr (6, [.ref q5, .null, .ref q18, .null, .null])) NE1).trans (keep1 (X := iar D 6 (fun _ => 0)) T1 nq18)
  have T2 := (wset_ne (e := .inr (6, [.ref q5, .null, .ref q18, .null, .null])) NE2).trans (keep1 (X := iar D 6 (fun _ => 0)) T2 nq18)
  have T3 := (wset_ne (e := .inr (6, [.ref q5, .null, .ref q18, .null, .null])) NE3).trans (keep1 (X := iar D 6 (fun _ => 0)) T3 nq18)
  have TU : wset (wset (wset w9 a (.inr (6, [.ref q5, .null, .null, .null, .null]))) q18 (iar D 6 (fun _ => 0))) a (.inr (6, [.ref q5, .null, .ref q18, .null, .null])) q18 = some (iar D 6 (fun _ => 0)) := (wset_ne na18).trans wset_eq
  have G3 := (G2.new (X := iar D 6 (fun _ => 0)) nq18).mod (X := .inr (6, [.ref q5, .null, .ref q18, .null, .null])) (t := a) (Or.inl rfl)
  refine i_putF C ff_X6_16 dX6_init_20 (hw := (keep1 hA18 nq18)) (kk := ?_)
  refine i_aload_n C dX6_init_23 (kk := ?_)
  refine i_new C nw_X6_20 dX6_init_24 (kk := fun q24 nq24 => ?_)
  refine i_dup C dX6_init_27 (kk := ?_)
  refine i_callI C lk_X6_22 (c_X0_init l hl D (hw := wset_eq)) (hst := rfl) dX6_init_28 (kk := fun v28 w28 g28 => ?_)
  have hA28 : wset (wset (wset w9 a (.inr (6, [.ref q5, .null, .null, .null, .null]))) q18 (iar D 6 (fun _ => 0))) a (.inr (6, [.ref q5, .null, .ref q18, .null, .null])) a = some (.inr (6, [.ref q5, .null, .ref q18, .null, .null])) := wset_eq
  obtain ⟨rfl, c1, c2, c3, c4, c5, f1, f2, f3, f4, f5, e1, e2, e3, e4, e5, e6, e7, e8, e9, e10, j0, j1, j2, j3, j4, j5, jf⟩ := g28
  have L5 := mem5 (P := fun x => _ = none) f1 f2 f3 f4 f5
  have F5 := fun q hq hn => jf q hq (nin5 hn).1 (nin5 hn).2.1 (nin5 hn).2.2.1 (nin5 hn).2.2.2.1 (nin5 hn).2.2.2.2
  have G4 := (G3.new nq24).more (t := q24) (nd5 e1 e2 e3 e4 e5 e6 e7 e8 e9 e10) L5 (mem5 (P := fun x => w28 x ≠ none) (by rw [j1]; exact nofun) (by rw [j2]; exact nofun) (by rw [j3]; exact nofun) (by rw [j4]; exact nofun) (by rw [j5]; exact nofun)) (Or.inr (by simp)) (by rw [j0]; exact nofun) F5
  have naq24 : q24 ≠ a := (ne_live hA28 nq24).symm
  have r : ∀ x, x ∈ [c1, c2, c3, c4, c5] → x ≠ a := fun x hx z => by
    have y := L5 x hx
    rw [z] at y
    exact nomatch (keep1 hA28 nq24).symm.trans y
  have hA28' := thru hA28 nq24 L5 F5
  have T5 := (wset_ne (e := .inr (6, [.ref q5, .null, .ref q18, .ref q24, .null])) NE5).trans (thru T5 nq24 L5 F5)
  have T1 := (wset_ne (e := .inr (6, [.ref q5, .null, .ref q18, .ref q24, .null])) NE1).trans (thru T1 nq24 L5 F5)
  have T2 := (wset_ne (e := .inr (6, [.ref q5, .null, .ref q18, .ref q24, .null])) NE2).trans (thru T2 nq24 L5 F5)
  have T3 := (wset_ne (e := .inr (6, [.ref q5, .null, .ref q18, .ref q24, .null])) NE3).trans (thru T3 nq24 L5 F5)
  have TU := (wset_ne (e := .inr (6, [.ref q5, .null, .ref q18, .ref q24, .null])) na18).trans (thru TU nq24 L5 F5)
  have A0 := (wset_ne (e := .inr (6, [.ref q5, .null, .ref q18, .ref q24, .null])) naq24).trans j0
  have A1 := (wset_ne (e := .inr (6, [.ref q5, .null, .ref q18, .ref q24, .null])) (r c1 (by simp))).trans j1
  have A2 := (wset_ne (e := .inr (6, [.ref q5, .null, .ref q18, .ref q24, .null])) (r c2 (by simp))).trans j2
  have A3 := (wset_ne (e := .inr (6, [.ref q5, .null, .ref q18, .ref q24, .null])) (r c3 (by simp))).trans j3
  have A4 := (wset_ne (e := .inr (6, [.ref q5, .null, .ref q18, .ref q24, .null])) (r c4 (by simp))).trans j4
  have A5 := (wset_ne (e := .inr (6, [.ref q5, .null, .ref q18, .ref q24, .null])) (r c5 (by simp))).trans j5
  have G4 := G4.mod (X := .inr (6, [.ref q5, .null, .ref q18, .ref q24, .null])) (t := a) (Or.inl rfl)
  have NA := r
  refine i_putf C fk_X6_23 dX6_init_31 (hw := hA28') (kk := ?_)
  refine i_aload_n C dX6_init_34 (kk := ?_)
  refine i_new C nw_X6_20 dX6_init_35 (kk := fun q35 nq35 => ?_)
  refine i_dup C dX6_init_38 (kk := ?_)
  refine i_callI C lk_X6_22 (c_X0_init l hl D (hw := wset_eq)) (hst := rfl) dX6_init_39 (kk := fun v39 w39 g39 => ?_)
  have hA39 : wset w28 a (.inr (6, [.ref q5, .null, .ref q18, .ref q24, .null])) a = some (.inr (6, [.ref q5, .null, .ref q18, .ref q24, .null])) := wset_eq
  obtain ⟨rfl, d1, d2, d3, d4, d5, f1, f2, f3, f4, f5, e1, e2, e3, e4, e5, e6, e7, e8, e9, e10, j0, j1, j2, j3, j4, j5, jf⟩ := g39
  have L5 := mem5 (P := fun x => _ = none) f1 f2 f3 f4 f5
  have F5 := fun q hq hn => jf q hq (nin5 hn).1 (nin5 hn).2.1 (nin5 hn).2.2.1 (nin5 hn).2.2.2.1 (nin5 hn).2.2.2.2
  have G5 := (G4.new nq35).more (t := q35) (nd5 e1 e2 e3 e4 e5 e6 e7 e8 e9 e10) L5 (mem5 (P := fun x => w39 x ≠ none) (by rw [j1]; exact nofun) (by rw [j2]; exact nofun) (by rw [j3]; exact nofun) (by rw [j4]; exact nofun) (by rw [j5]; exact nofun)) (Or.inr (by simp)) (by rw [j0]; exact nofun) F5
  have naq35 : q35 ≠ a := (ne_live hA39 nq35).symm
  have r : ∀ x, x ∈ [d1, d2, d3, d4, d5] → x ≠ a := fun x hx z => by
    have y := L5 x hx
    rw [z] at y
    exact nomatch (keep1 hA39 nq35).symm.trans y
  have hA39' := thru hA39 nq35 L5 F5
  have T5 := (wset_ne (e := .inr (6, [.ref q5, .null, .ref q18, .ref q24, .ref q35])) NE5).trans (thru T5 nq35 L5 F5)
  have T1 := (wset_ne (e := .inr (6, [.ref q5, .null, .ref q18, .ref q24, .ref q35])) NE1).trans (thru T1 nq35 L5 F5)
  have T2 := (wset_ne (e := .inr (6, [.ref q5, .null, .ref q18, .ref q24, .ref q35])) NE2).trans (thru T2 nq35 L5 F5)
  have T3 := (wset_ne (e := .inr (6, [.ref q5, .null, .ref q18, .ref q24, .ref q35])) NE3).trans (thru T3 nq35 L5 F5)
  have TU := (wset_ne (e := .inr (6, [.ref q5, .null, .ref q18, .ref q24, .ref q35])) na18).trans (thru TU nq35 L5 F5)
  have A0 := (wset_ne (e := .inr (6, [.ref q5, .null, .ref q18, .ref q24, .ref q35])) naq24).trans (thru A0 nq35 L5 F5)
  have A1 := (wset_ne (e := .inr (6, [.ref q5, .null, .ref q18, .ref q24, .ref q35])) (NA c1 (by simp))).trans (thru A1 nq35 L5 F5)
  have A2 := (wset_ne (e := .inr (6, [.ref q5, .null, .ref q18, .ref q24, .ref q35])) (NA c2 (by simp))).trans (thru A2 nq35 L5 F5)
  have A3 := (wset_ne (e := .inr (6, [.ref q5, .null, .ref q18, .ref q24, .ref q35])) (NA c3 (by simp))).trans (thru A3 nq35 L5 F5)
  have A4 := (wset_ne (e := .inr (6, [.ref q5, .null, .ref q18, .ref q24, .ref q35])) (NA c4 (by simp))).trans (thru A4 nq35 L5 F5)
  have A5 := (wset_ne (e := .inr (6, [.ref q5, .null, .ref q18, .ref q24, .ref q35])) (NA c5 (by simp))).trans (thru A5 nq35 L5 F5)
  have B0 := (wset_ne (e := .inr (6, [.ref q5, .null, .ref q18, .ref q24, .ref q35])) naq35).trans j0
  have B1 := (wset_ne (e := .inr (6, [.ref q5, .null, .ref q18, .ref q24, .ref q35])) (r d1 (by simp))).trans j1
  have B2 := (wset_ne (e := .inr (6, [.ref q5, .null, .ref q18, .ref q24, .ref q35])) (r d2 (by simp))).trans j2
  have B3 := (wset_ne (e := .inr (6, [.ref q5, .null, .ref q18, .ref q24, .ref q35])) (r d3 (by simp))).trans j3
  have B4 := (wset_ne (e := .inr (6, [.ref q5, .null, .ref q18, .ref q24, .ref q35])) (r d4 (by simp))).trans j4
  have B5 := (wset_ne (e := .inr (6, [.ref q5, .null, .ref q18, .ref q24, .ref q35])) (r d5 (by simp))).trans j5
  have G5 := G5.mod (X := .inr (6, [.ref q5, .null, .ref q18, .ref q24, .ref q35])) (t := a) (Or.inl rfl)
  have NB := r
  refine i_putf C fk_X6_27 dX6_init_42 (hw := hA39') (kk := ?_)
  refine i_aload_n C dX6_init_45 (kk := ?_)
  refine i_bipush C dX6_init_46 (kk := ?_)
  refine i_newpages C (N := 12) (hlk := t_80) (d := dX6_init_48) (kk := fun q48 nq48 => ?_)
  have hA48 : wset w39 a (.inr (6, [.ref q5, .null, .ref q18, .ref q24, .ref q35])) a = some (.inr (6, [.ref q5, .null, .ref q18, .ref q24, .ref q35])) := wset_eq
  have na48 : q48 ≠ a := (ne_live hA48 nq48).symm
  have T5 := (wset_ne (e := .inr (6, [.ref q5, .ref q48, .ref q18, .ref q24, .ref q35])) NE5).trans (keep1 (X := par D 12 (fun _ => none)) T5 nq48)
  have T1 := (wset_ne (e := .inr (6, [.ref q5, .ref q48, .ref q18, .ref q24, .ref q35])) NE1).trans (keep1 (X := par D 12 (fun _ => none)) T1 nq48)
  have T2 := (wset_ne (e := .inr (6, [.ref q5, .ref q48, .ref q18, .ref q24, .ref q35])) NE2).trans (keep1 (X := par D 12 (fun _ => none)) T2 nq48)
  have T3 := (wset_ne (e := .inr (6, [.ref q5, .ref q48, .ref q18, .ref q24, .ref q35])) NE3).trans (keep1 (X := par D 12 (fun _ => none)) T3 nq48)
  have TU := (wset_ne (e := .inr (6, [.ref q5, .ref q48, .ref q18, .ref q24, .ref q35])) na18).trans (keep1 (X := par D 12 (fun _ => none)) TU nq48)
  have A0 := (wset_ne (e := .inr (6, [.ref q5, .ref q48, .ref q18, .ref q24, .ref q35])) naq24).trans (keep1 (X := par D 12 (fun _ => none)) A0 nq48)
  have B0 := (wset_ne (e := .inr (6, [.ref q5, .ref q48, .ref q18, .ref q24, .ref q35])) naq35).trans (keep1 (X := par D 12 (fun _ => none)) B0 nq48)
  have A1 := (wset_ne (e := .inr (6, [.ref q5, .ref q48, .ref q18, .ref q24, .ref q35])) (NA c1 (by simp))).trans (keep1 (X := par D 12 (fun _ => none)) A1 nq48)
  have B1 := (wset_ne (e := .inr (6, [.ref q5, .ref q48, .ref q18, .ref q24, .ref q35])) (NB d1 (by simp))).trans (keep1 (X := par D 12 (fun _ => none)) B1 nq48)
  have A2 := (wset_ne (e := .inr (6, [.ref q5, .ref q48, .ref q18, .ref q24, .ref q35])) (NA c2 (by simp))).trans (keep1 (X := par D 12 (fun _ => none)) A2 nq48)
  have B2 := (wset_ne (e := .inr (6, [.ref q5, .ref q48, .ref q18, .ref q24, .ref q35])) (NB d2 (by simp))).trans (keep1 (X := par D 12 (fun _ => none)) B2 nq48)
  have A3 := (wset_ne (e := .inr (6, [.ref q5, .ref q48, .ref q18, .ref q24, .ref q35])) (NA c3 (by simp))).trans (keep1 (X := par D 12 (fun _ => none)) A3 nq48)
  have B3 := (wset_ne (e := .inr (6, [.ref q5, .ref q48, .ref q18, .ref q24, .ref q35])) (NB d3 (by simp))).trans (keep1 (X := par D 12 (fun _ => none)) B3 nq48)
  have A4 := (wset_ne (e := .inr (6, [.ref q5, .ref q48, .ref q18, .ref q24, .ref q35])) (NA c4 (by simp))).trans (keep1 (X := par D 12 (fun _ => none)) A4 nq48)
  have B4 := (wset_ne (e := .inr (6, [.ref q5, .ref q48, .ref q18, .ref q24, .ref q35])) (NB d4 (by simp))).trans (keep1 (X := par D 12 (fun _ => none)) B4 nq48)
  have A5 := (wset_ne (e := .inr (6, [.ref q5, .ref q48, .ref q18, .ref q24, .ref q35])) (NA c5 (by simp))).trans (keep1 (X := par D 12 (fun _ => none)) A5 nq48)
  have B5 := (wset_ne (e := .inr (6, [.ref q5, .ref q48, .ref q18, .ref q24, .ref q35])) (NB d5 (by simp))).trans (keep1 (X := par D 12 (fun _ => none)) B5 nq48)
  have TP : wset (wset (wset w39 a (.inr (6, [.ref q5, .null, .ref q18, .ref q24, .ref q35]))) q48 (par D 12 (fun _ => none))) a (.inr (6, [.ref q5, .ref q48, .ref q18, .ref q24, .ref q35])) q48 = some (par D 12 (fun _ => none)) := (wset_ne na48).trans wset_eq
  have G6 := (G5.new (X := par D 12 (fun _ => none)) nq48).mod (X := .inr (6, [.ref q5, .ref q48, .ref q18, .ref q24, .ref q35])) (t := a) (Or.inl rfl)
  obtain ⟨W, hWe⟩ : ∃ W : wW, W = wset (wset (wset w39 a (.inr (6, [.ref q5, .null, .ref q18, .ref q24, .ref q35]))) q48 (par D 12 (fun _ => none))) a (.inr (6, [.ref q5, .ref q48, .ref q18, .ref q24, .ref q35])) := ⟨_, rfl⟩
  have TA : W a = some (.inr (6, [.ref q5, .ref q48, .ref q18, .ref q24, .ref q35])) := by rw [hWe]; exact wset_eq
  rw [← hWe] at T5 T1 T2 T3 TU A0 B0 A1 B1 A2 B2 A3 B3 A4 B4 A5 B5 TP G6
  refine i_putF C ff_X6_32 dX6_init_51 (hw := (keep1 hA48 nq48)) (kk := ?_)
  show G _ _ (wset (wset (wset w39 a (.inr (6, [.ref q5, .null, .ref q18, .ref q24, .ref q35]))) q48 (par D 12 (fun _ => none))) a (.inr (6, [.ref q5, .ref q48, .ref q18, .ref q24, .ref q35]))) _ _ _
  rw [← hWe]
  have hnd : ([q5, x1, x2, x3, q18, q24, c1, c2, c3, c4, c5, q35, d1, d2, d3, d4, d5, q48] : List Nat).Nodup := G6.1
  have hna : a ∉ ([q5, x1, x2, x3, q18, q24, c1, c2, c3, c4, c5, q35, d1, d2, d3, d4, d5, q48] : List Nat) := fun z => by
    have y := G6.2.1 a z
    rw [hw] at y
    cases y
  obtain ⟨τ, ad, m1, -, -⟩ := tagL (fun _ => 0) (fun _ => 0) [(a, 0), (q48, 1), (q18, 2), (q5, 3), (x1, 4), (x2, 5), (x3, 6), (q24, 10), (c1, 11), (c2, 12), (c3, 13), (c4, 14), (c5, 15), (q35, 20), (d1, 21), (d2, 22), (d3, 23), (d4, 24), (d5, 25)] (nd19 hnd hna) (show ([0, 1, 2, 3, 4, 5, 6, 10, 11, 12, 13, 14, 15, 20, 21, 22, 23, 24, 25] : List Nat).Nodup by decide)
  have M := fun x r (hx : (x, r) ∈ _) => m1 (x, r) hx
  have t0 := M a 0 (by simp)
  have t1 := M q48 1 (by simp)
  have t2 := M q18 2 (by simp)
  have t3 := M q5 3 (by simp)
  have t4 := M x1 4 (by simp)
  have t5 := M x2 5 (by simp)
  have t6 := M x3 6 (by simp)
  have t10 := M q24 10 (by simp)
  have t11 := M c1 11 (by simp)
  have t12 := M c2 12 (by simp)
  have t13 := M c3 13 (by simp)
  have t14 := M c4 14 (by simp)
  have t15 := M c5 15 (by simp)
  have t20 := M q35 20 (by simp)
  have t21 := M d1 21 (by simp)
  have t22 := M d2 22 (by simp)
  have t23 := M d3 23 (by simp)
  have t24 := M d4 24 (by simp)
  have t25 := M d5 25 (by simp)
  have hI : InI D W τ ad 0 := by
    unfold InI TxD NtD
    rw [t0.2, t1.2, t2.2, t3.2, t4.2, t5.2, t6.2, t10.2, t11.2, t12.2, t13.2, t14.2, t15.2, t20.2, t21.2, t22.2, t23.2, t24.2, t25.2]
    exact ⟨⟨t0.1, TA⟩, ⟨t1.1, _, TP, fun p hp => absurd hp (Nat.not_lt_zero p)⟩, ⟨t2.1, TU⟩, ⟨t3.1, t4.1, t5.1, t6.1, T5, by decide, OWp.nil, (fun _ h => nomatch h), _, _, _, T1, T2, T3, fun i hi => absurd hi (Nat.not_lt_zero i)⟩, ⟨⟨t10.1, t11.1, t12.1, t13.1, t14.1, t15.1, A0, A1, A2, A3, A4, A5, fun _ => Nat.zero_le _, fun _ => Nat.zero_le _, (fun _ => show 0 < 4096 by decide), fun _ => Nat.zero_le _, fun _ => Nat.zero_le _⟩, t20.1, t21.1, t22.1, t23.1, t24.1, t25.1, B0, B1, B2, B3, B4, B5, fun _ => Nat.zero_le _, fun _ => Nat.zero_le _, (fun _ => show 0 < 4096 by decide), fun _ => Nat.zero_le _, fun _ => Nat.zero_le _⟩, fun p hp => absurd hp (Nat.not_lt_zero p)⟩
  have hK0 : w q48 = none := G6.2.1 q48 (by simp)
  have hF0 : ∀ q, w q ≠ none → q ≠ a → W q = w q := fun q h1 h2 => G6.2.2.2.2.2 q h2 (fun z => h1 (G6.2.1 q z))
  refine i_iconst C dX6_init_54 (kk := ?_)
  refine i_istore_n C dX6_init_55 (kk := ?_)
  have lp : ∀ (m i n k : Nat) (w1 : wW) (τ ad : Nat → Nat), 12 + 1 ≤ m + i → i ≤ 12 → n = 18 + 12 * i → k = 507 + 540 * i → InI D w1 τ ad i → ad 0 = a → ad 1 = q48 → (∀ q, w q ≠ none → q ≠ a → w1 q = w q) → G n k w1 [some (.ref a), some (.int (Z32 (i : Int)))] 56 [] := by
    intro m
    induction m with
    | zero => intro i n k w1 τ ad h1 h2; omega
    | succ m ih =>
    intro i n k w1 τ ad h1 h2 hn hk hI ha0 ha1 hF
    have hO := hI.1.2
    rw [ha0, ha1] at hO
    obtain ⟨pf, hPf, -⟩ := hI.2.1.2
    rw [ha1] at hPf
    refine i_iload_n C dX6_init_56 (kk := ?_)
    refine i_aload_n C dX6_init_57 (kk := ?_)
    refine i_getf C f_X6_32 dX6_init_58 (hw := hO) (kk := ?_)
    refine i_alenP C dX6_init_61 (hw := hPf) (kk := ?_)
    refine i_icmp_ge C dX6_init_62 (tgt := 84) (kt := fun hB62 => ?_) (kf := fun hB62 => ?_)
    · have hi12 : i = 12 := by omega
      subst hi12
      exact i_vret C (d := dX6_init_84) (hn := by show n ≤ 170; omega) (hk := by show k ≤ 7200; omega) (h := ⟨rfl, τ, ad, hI.done, ha0, hF⟩)
    · refine i_aload_n C dX6_init_65 (kk := ?_)
      refine i_getf C f_X6_32 dX6_init_66 (hw := hO) (kk := ?_)
      refine i_iload_n C dX6_init_69 (kk := ?_)
      refine i_new C nw_X6_30 dX6_init_70 (hcells := by show n + 1 ≤ 170; omega) (hslots := by show k + 3 ≤ 7200; omega) (kk := fun q70 nq70 => ?_)
      refine i_dup C dX6_init_73 (kk := ?_)
      refine i_callI C lk_X6_36 (c_X1_init l hl D (hw := wset_eq)) (hst := rfl) dX6_init_74 (hf := ⟨by show n + 1 + 11 ≤ 170; omega, by show k + 3 + 537 ≤ 7200; omega⟩) (kk := fun v74 w74 g74 => ?_)
      obtain ⟨rfl, v, t, z1, z2, z3, s, y1, y2, y3, y4, y5, GG, hC⟩ := g74
      have hgn : q70 ∉ [v, t, z1, z2, z3, s, y1, y2, y3, y4, y5] := fun z => by
        have y := GG.2.1 q70 z
        rw [wset_eq] at y
        cases y
      have hall : ∀ x ∈ ([q70, v, t, z1, z2, z3, s, y1, y2, y3, y4, y5] : List Nat), w1 x = none := fun x hx => by
        rcases List.mem_cons.mp hx with z | z
        · rw [z]; exact nq70
        · have y := GG.2.1 x z
          rwa [wset_ne (fun e => hgn (by rw [← e]; exact z))] at y
      have hfr : ∀ q, w1 q ≠ none → w74 q = w1 q := fun q hq => by
        have e1 : q ≠ q70 := fun z => hq (by rw [z]; exact nq70)
        have e2 : q ∉ [v, t, z1, z2, z3, s, y1, y2, y3, y4, y5] := fun z => hq (hall q (List.mem_cons_of_mem _ z))
        rw [GG.2.2.2.2.2 q e1 e2, wset_ne e1]
      have hP4 : w74 q48 = some (par D 12 pf) := by rw [hfr _ (by rw [hPf]; exact nofun)]; exact hPf
      have hnp : q48 ∉ ([q70, v, t, z1, z2, z3, s, y1, y2, y3, y4, y5] : List Nat) := fun z => by
        have y := hall _ z
        rw [hPf] at y
        cases y
      have hAA : ∀ pf', w1 (ad 1) = some (par D 12 pf') → wset w74 q48 (par D 12 (upz pf i (some q70))) (ad 1) = some (par D 12 (upz pf' i (some q70))) := fun pf' h => by
        rw [ha1] at h ⊢
        rw [hPf] at h
        have h9 := Option.some.inj h
        unfold par at h9
        simp only [Sum.inl.injEq, Prod.mk.injEq, Sum.inr.injEq, true_and] at h9
        rw [h9]
        exact wset_eq
      obtain ⟨τ', ad', hI', e0, e1⟩ := hI.step (w1 := wset w74 q48 (par D 12 (upz pf i (some q70)))) (by omega) (List.nodup_cons.mpr ⟨hgn, GG.1⟩) hall (hC.off hnp) (fun q h1 h2 => by rw [ha1] at h2; rw [wset_ne h2]; exact hfr q h1) hAA
      have hF' : ∀ q, w q ≠ none → q ≠ a → wset w74 q48 (par D 12 (upz pf i (some q70))) q = w q := fun q h1 h2 => by
        have h3 : q ≠ q48 := fun z => h1 (by rw [z]; exact hK0)
        have h4 := hF q h1 h2
        rw [wset_ne h3, hfr q (by rw [h4]; exact h1)]
        exact h4
      refine i_aastore C dX6_init_77 (hw := hP4) (hv := hC.1) (kk := ?_)
      rw [Int.toNat_natCast]
      refine i_iinc C dX6_init_78 (kk := ?_)
      refine i_goto C dX6_init_81 (tgt := 56) (kk := ?_)
      exact ih (i + 1) _ _ _ τ' ad' (by omega) (by omega) (by show n + 1 + 11 = _; omega) (by show k + 3 + 537 = _; omega) hI' (e0.trans ha0) (e1.trans ha1) hF'
  exact lp 13 0 _ _ W τ ad (by omega) (by omega) rfl rfl hI t0.2 t1.2 hF0
