set_option maxRecDepth 100000 in
set_option maxHeartbeats 4000000 in
theorem c_X6_addPiece (l : Launch) (hl : l.stackTraces = false) (D : gD) {w : wW} {τ ad : Nat → Nat} {nb tb : Nat} {σ : Sg} {s g x : Int} (hW : WkI D w τ ad nb tb σ := by assumption) (hp9 : PV (s, g, x)) (how : 0 ≤ owc (sDr σ) + dow s) : CTx l D yX6_addPiece cX6_addPiece 4 (some .int) (rmL 7 1 6) [.ref (ad 0), .int (Z32 s), .int (Z32 g), .int (Z32 x)] w (fun u w1 => ((sDr σ).length < 30 ∧ u = some (.int (Z32 (((sDr σ).length + 1 : Nat) : Int))) ∧ WkI D w1 τ ad nb tb (uDr σ (sDr σ ++ [(s, g, x)])) ∧ offR τ w w1 0 5000)) (fun E w1 => E = "java/lang/IllegalStateException" ∧ ¬ (sDr σ).length < 30 ∧ w1 = w) := by
  refine CTx_of hl rfl (by rfl) (Nat.le_of_ble_eq_true rfl) ?_
  intro G C
  show G 0 0 w [some (.ref (ad 0)), some (.int (Z32 s)), some (.int (Z32 g)), some (.int (Z32 x))] 0 []
  have hD := hW.2.2.1.2.2.2.2.2
  have h30 := hD.2.2.2.2.2.1
  refine i_aload_n C dX6_addPiece_0 (kk := ?_)
  refine i_getf C f_X6_12 dX6_addPiece_1 (hw := hW.obj) (kk := ?_)
  refine i_getf C f_X6_208 dX6_addPiece_4 (hw := hD.2.2.2.2.1) (kk := ?_)
  refine i_bipush C dX6_addPiece_7 (kk := ?_)
  refine i_icmp_lt C dX6_addPiece_9 (tgt := 22) (kt := fun hB9 => ?_) (kf := fun hB9 => ?_)
  · refine i_aload_n C dX6_addPiece_22 (kk := ?_)
    refine i_getf C f_X6_12 dX6_addPiece_23 (hw := hW.obj) (kk := ?_)
    refine i_iload_n C dX6_addPiece_26 (kk := ?_)
    refine i_iload_n C dX6_addPiece_27 (kk := ?_)
    refine i_iload_n C dX6_addPiece_28 (kk := ?_)
    refine i_callV C lk_X6_211 (c_X3_add l hl D (hT := hD) (s := s) (g := g) (x := x) (hlen := by omega) hp9 how) (hcl := rfl) (hst := rfl) dX6_addPiece_29 (hw := hD.2.2.2.2.1) (kk := fun v29 w29 g29 => ?_)
    obtain ⟨rfl, kT, kO⟩ := g29
    have hW2 := hW.draft kT (txOK_push hW.1.1 hp9 (by omega) how) kO
    refine i_aload_n C dX6_addPiece_32 (kk := ?_)
    refine i_getf C f_X6_12 dX6_addPiece_33 (hw := hW2.obj) (kk := ?_)
    refine i_getf C f_X6_208 dX6_addPiece_36 (hw := kT.2.2.2.2.1) (kk := ?_)
    exact i_iret C (d := dX6_addPiece_39) (h := ⟨by omega, by rw [List.length_append]; rfl, hW2, kO.wide (by omega) (by omega)⟩)
  · exact i_throw C th_56_209_60 dX6_addPiece_12 dX6_addPiece_15 dX6_addPiece_16 dX6_addPiece_18 dX6_addPiece_21 (hX := ⟨rfl, by omega, rfl⟩)

set_option maxRecDepth 100000 in
set_option maxHeartbeats 4000000 in
theorem c_X6_letter (l : Launch) (hl : l.stackTraces = false) (D : gD) {w : wW} {τ ad : Nat → Nat} {nb tb : Nat} {σ : Sg} {p : Int} (hW : WkI D w τ ad nb tb σ := by assumption) (hp : inR p := by omega) : CTx l D yX6_letter cX6_letter 2 (some .int) (rmL 8 3 18) [.ref (ad 0), .int (Z32 p)] w (fun u w1 => (0 ≤ p ∧ p < 26) ∧ ((sDr σ).length < 30 ∧ u = some (.int (Z32 (((sDr σ).length + 1 : Nat) : Int))) ∧ WkI D w1 τ ad nb tb (uDr σ (sDr σ ++ [(0, (-1), p)])) ∧ offR τ w w1 0 5000)) (fun E w1 => ((E = "java/lang/IllegalArgumentException" ∧ ¬ (0 ≤ p ∧ p < 26)) ∨ (E = "java/lang/IllegalStateException" ∧ (0 ≤ p ∧ p < 26) ∧ ¬ (sDr σ).length < 30)) ∧ w1 = w) := by
  refine CTx_of hl rfl (by rfl) (Nat.le_of_ble_eq_true rfl) ?_
  intro G C
  show G 0 0 w [some (.ref (ad 0)), some (.int (Z32 p))] 0 []
  refine i_iload_n C dX6_letter_0 (kk := ?_)
  refine i_bipush C dX6_letter_1 (kk := ?_)
  refine i_callSX C lk_X6_37 (c_X6_requireBelow l hl D) (hst := rfl) dX6_letter_3 (hxx := fun E w1 h => ⟨Or.inl (⟨h.1, h.2.1⟩), h.2.2⟩) (kk := fun v3 w3 g3 => ?_)
  obtain ⟨rfl, k0, q3⟩ := g3
  have q3 := q3.symm
  subst q3
  refine i_aload_n C dX6_letter_6 (kk := ?_)
  refine i_iconst C dX6_letter_7 (kk := ?_)
  refine i_iconst C dX6_letter_8 (kk := ?_)
  refine i_iload_n C dX6_letter_9 (kk := ?_)
  refine i_callVX C lk_X6_41 (c_X6_addPiece l hl D (hW := hW) (s := 0) (g := (-1)) (x := p) (by unfold PV; dsimp only; omega) (by have z := hW.1.1.2.1.all; show 0 ≤ owc (sDr σ) + 0; omega)) (hcl := rfl) (hst := rfl) dX6_letter_10 (hw := hW.obj) (hxx := fun E w1 h => ⟨Or.inr (⟨h.1, k0, h.2.1⟩), h.2.2⟩) (kk := fun v10 w10 g10 => ?_)
  obtain ⟨y1, rfl, y3⟩ := g10
  exact i_iret C (d := dX6_letter_13) (h := ⟨k0, y1, rfl, y3⟩)

set_option maxRecDepth 100000 in
set_option maxHeartbeats 4000000 in
theorem c_X6_argument (l : Launch) (hl : l.stackTraces = false) (D : gD) {w : wW} {τ ad : Nat → Nat} {nb tb : Nat} {σ : Sg} (hW : WkI D w τ ad nb tb σ := by assumption) : CTx l D yX6_argument cX6_argument 1 (some .int) (rmL 8 3 18) [.ref (ad 0)] w (fun u w1 => ((sDr σ).length < 30 ∧ u = some (.int (Z32 (((sDr σ).length + 1 : Nat) : Int))) ∧ WkI D w1 τ ad nb tb (uDr σ (sDr σ ++ [(3, (-1), (-1))])) ∧ offR τ w w1 0 5000)) (fun E w1 => ((E = "java/lang/IllegalStateException" ∧ ¬ (sDr σ).length < 30)) ∧ w1 = w) := by
  refine CTx_of hl rfl (by rfl) (Nat.le_of_ble_eq_true rfl) ?_
  intro G C
  show G 0 0 w [some (.ref (ad 0))] 0 []
  refine i_aload_n C dX6_argument_0 (kk := ?_)
  refine i_iconst C dX6_argument_1 (kk := ?_)
  refine i_iconst C dX6_argument_2 (kk := ?_)
  refine i_iconst C dX6_argument_3 (kk := ?_)
  refine i_callVX C lk_X6_41 (c_X6_addPiece l hl D (hW := hW) (s := 3) (g := (-1)) (x := (-1)) (by unfold PV; dsimp only; omega) (by have z := hW.1.1.2.1.all; show 0 ≤ owc (sDr σ) + 0; omega)) (hcl := rfl) (hst := rfl) dX6_argument_4 (hw := hW.obj) (hxx := fun E w1 h => ⟨⟨h.1, h.2.1⟩, h.2.2⟩) (kk := fun v4 w4 g4 => ?_)
  obtain ⟨y1, rfl, y3⟩ := g4
  exact i_iret C (d := dX6_argument_7) (h := ⟨y1, rfl, y3⟩)

set_option maxRecDepth 100000 in
set_option maxHeartbeats 4000000 in
theorem c_X6_call (l : Launch) (hl : l.stackTraces = false) (D : gD) {w : wW} {τ ad : Nat → Nat} {nb tb : Nat} {σ : Sg} {p q : Int} (hW : WkI D w τ ad nb tb σ := by assumption) (hp : inR p := by omega) (hq : inR q := by omega) : CTx l D yX6_call cX6_call 3 (some .int) (rmL 8 3 18) [.ref (ad 0), .int (Z32 p), .int (Z32 q)] w (fun u w1 => (0 ≤ p ∧ p < 12) ∧ (-1 ≤ q ∧ q < 26) ∧ ((sDr σ).length < 30 ∧ u = some (.int (Z32 (((sDr σ).length + 1 : Nat) : Int))) ∧ WkI D w1 τ ad nb tb (uDr σ (sDr σ ++ [(4, p, q)])) ∧ offR τ w w1 0 5000)) (fun E w1 => ((E = "java/lang/IndexOutOfBoundsException" ∧ ¬ (0 ≤ p ∧ p < 12)) ∨ (E = "java/lang/IllegalArgumentException" ∧ (0 ≤ p ∧ p < 12) ∧ ¬ (-1 ≤ q ∧ q < 26)) ∨ (E = "java/lang/IllegalStateException" ∧ (0 ≤ p ∧ p < 12) ∧ (-1 ≤ q ∧ q < 26) ∧ ¬ (sDr σ).length < 30)) ∧ w1 = w) := by
  refine CTx_of hl rfl (by rfl) (Nat.le_of_ble_eq_true rfl) ?_
  intro G C
  show G 0 0 w [some (.ref (ad 0)), some (.int (Z32 p)), some (.int (Z32 q))] 0 []
  refine i_iload_n C dX6_call_0 (kk := ?_)
  refine i_callSX C lk_X6_45 (c_X6_requirePage l hl D) (hst := rfl) dX6_call_1 (hxx := fun E w1 h => ⟨Or.inl (⟨h.1, h.2.1⟩), h.2.2⟩) (kk := fun v1 w1 g1 => ?_)
  obtain ⟨rfl, k0, q1⟩ := g1
  have q1 := q1.symm
  subst q1
  refine i_iload_n C dX6_call_4 (kk := ?_)
  refine i_callSX C lk_X6_49 (c_X6_requireArgument l hl D) (hst := rfl) dX6_call_5 (hxx := fun E w1 h => ⟨Or.inr (Or.inl (⟨h.1, k0, h.2.1⟩)), h.2.2⟩) (kk := fun v5 w5 g5 => ?_)
  obtain ⟨rfl, k1, q5⟩ := g5
  have q5 := q5.symm
  subst q5
  refine i_aload_n C dX6_call_8 (kk := ?_)
  refine i_iconst C dX6_call_9 (kk := ?_)
  refine i_iload_n C dX6_call_10 (kk := ?_)
  refine i_iload_n C dX6_call_11 (kk := ?_)
  refine i_callVX C lk_X6_41 (c_X6_addPiece l hl D (hW := hW) (s := 4) (g := p) (x := q) (by unfold PV; dsimp only; omega) (by have z := hW.1.1.2.1.all; show 0 ≤ owc (sDr σ) + 0; omega)) (hcl := rfl) (hst := rfl) dX6_call_12 (hw := hW.obj) (hxx := fun E w1 h => ⟨Or.inr (Or.inr (⟨h.1, k0, k1, h.2.1⟩)), h.2.2⟩) (kk := fun v12 w12 g12 => ?_)
  obtain ⟨y1, rfl, y3⟩ := g12
  exact i_iret C (d := dX6_call_15) (h := ⟨k0, k1, y1, rfl, y3⟩)

set_option maxRecDepth 100000 in
set_option maxHeartbeats 4000000 in
theorem c_X6_callOn (l : Launch) (hl : l.stackTraces = false) (D : gD) {w : wW} {τ ad : Nat → Nat} {nb tb : Nat} {σ : Sg} {p : Int} (hW : WkI D w τ ad nb tb σ := by assumption) (hp : inR p := by omega) : CTx l D yX6_callOn cX6_callOn 2 (some .int) (rmL 8 3 18) [.ref (ad 0), .int (Z32 p)] w (fun u w1 => (0 ≤ p ∧ p < 12) ∧ ((sDr σ).length < 30 ∧ u = some (.int (Z32 (((sDr σ).length + 1 : Nat) : Int))) ∧ WkI D w1 τ ad nb tb (uDr σ (sDr σ ++ [(5, p, (-1))])) ∧ offR τ w w1 0 5000)) (fun E w1 => ((E = "java/lang/IndexOutOfBoundsException" ∧ ¬ (0 ≤ p ∧ p < 12)) ∨ (E = "java/lang/IllegalStateException" ∧ (0 ≤ p ∧ p < 12) ∧ ¬ (sDr σ).length < 30)) ∧ w1 = w) := by
  refine CTx_of hl rfl (by rfl) (Nat.le_of_ble_eq_true rfl) ?_
  intro G C
  show G 0 0 w [some (.ref (ad 0)), some (.int (Z32 p))] 0 []
  refine i_iload_n C dX6_callOn_0 (kk := ?_)
  refine i_callSX C lk_X6_45 (c_X6_requirePage l hl D) (hst := rfl) dX6_callOn_1 (hxx := fun E w1 h => ⟨Or.inl (⟨h.1, h.2.1⟩), h.2.2⟩) (kk := fun v1 w1 g1 => ?_)
  obtain ⟨rfl, k0, q1⟩ := g1
  have q1 := q1.symm
  subst q1
  refine i_aload_n C dX6_callOn_4 (kk := ?_)
  refine i_iconst C dX6_callOn_5 (kk := ?_)
  refine i_iload_n C dX6_callOn_6 (kk := ?_)
  refine i_iconst C dX6_callOn_7 (kk := ?_)
  refine i_callVX C lk_X6_41 (c_X6_addPiece l hl D (hW := hW) (s := 5) (g := p) (x := (-1)) (by unfold PV; dsimp only; omega) (by have z := hW.1.1.2.1.all; show 0 ≤ owc (sDr σ) + 0; omega)) (hcl := rfl) (hst := rfl) dX6_callOn_8 (hw := hW.obj) (hxx := fun E w1 h => ⟨Or.inr (⟨h.1, k0, h.2.1⟩), h.2.2⟩) (kk := fun v8 w8 g8 => ?_)
  obtain ⟨y1, rfl, y3⟩ := g8
  exact i_iret C (d := dX6_callOn_11) (h := ⟨k0, y1, rfl, y3⟩)

set_option maxRecDepth 100000 in
set_option maxHeartbeats 4000000 in
theorem c_X6_when (l : Launch) (hl : l.stackTraces = false) (D : gD) {w : wW} {τ ad : Nat → Nat} {nb tb : Nat} {σ : Sg} {p : Int} (hW : WkI D w τ ad nb tb σ := by assumption) (hp : inR p := by omega) : CTx l D yX6_when cX6_when 2 (some .int) (rmL 8 3 18) [.ref (ad 0), .int (Z32 p)] w (fun u w1 => (0 ≤ p ∧ p < 26) ∧ ((sDr σ).length < 30 ∧ u = some (.int (Z32 (((sDr σ).length + 1 : Nat) : Int))) ∧ WkI D w1 τ ad nb tb (uDr σ (sDr σ ++ [(6, (-1), p)])) ∧ offR τ w w1 0 5000)) (fun E w1 => ((E = "java/lang/IllegalArgumentException" ∧ ¬ (0 ≤ p ∧ p < 26)) ∨ (E = "java/lang/IllegalStateException" ∧ (0 ≤ p ∧ p < 26) ∧ ¬ (sDr σ).length < 30)) ∧ w1 = w) := by
  refine CTx_of hl rfl (by rfl) (Nat.le_of_ble_eq_true rfl) ?_
  intro G C
  show G 0 0 w [some (.ref (ad 0)), some (.int (Z32 p))] 0 []
  refine i_iload_n C dX6_when_0 (kk := ?_)
  refine i_bipush C dX6_when_1 (kk := ?_)
  refine i_callSX C lk_X6_37 (c_X6_requireBelow l hl D) (hst := rfl) dX6_when_3 (hxx := fun E w1 h => ⟨Or.inl (⟨h.1, h.2.1⟩), h.2.2⟩) (kk := fun v3 w3 g3 => ?_)
  obtain ⟨rfl, k0, q3⟩ := g3
  have q3 := q3.symm
  subst q3
  refine i_aload_n C dX6_when_6 (kk := ?_)
  refine i_bipush C dX6_when_7 (kk := ?_)
  refine i_iconst C dX6_when_9 (kk := ?_)
  refine i_iload_n C dX6_when_10 (kk := ?_)
  refine i_callVX C lk_X6_41 (c_X6_addPiece l hl D (hW := hW) (s := 6) (g := (-1)) (x := p) (by unfold PV; dsimp only; omega) (by have z := hW.1.1.2.1.all; show 0 ≤ owc (sDr σ) + 1; omega)) (hcl := rfl) (hst := rfl) dX6_when_11 (hw := hW.obj) (hxx := fun E w1 h => ⟨Or.inr (⟨h.1, k0, h.2.1⟩), h.2.2⟩) (kk := fun v11 w11 g11 => ?_)
  obtain ⟨y1, rfl, y3⟩ := g11
  exact i_iret C (d := dX6_when_14) (h := ⟨k0, y1, rfl, y3⟩)

set_option maxRecDepth 100000 in
set_option maxHeartbeats 4000000 in
theorem c_X6_anchor (l : Launch) (hl : l.stackTraces = false) (D : gD) {w : wW} {τ ad : Nat → Nat} {nb tb : Nat} {σ : Sg} {p : Int} (hW : WkI D w τ ad nb tb σ := by assumption) (hp : inR p := by omega) : CTx l D yX6_anchor cX6_anchor 2 (some .int) (rmL 8 3 18) [.ref (ad 0), .int (Z32 p)] w (fun u w1 => (0 ≤ p ∧ p < 10) ∧ ((sDr σ).length < 30 ∧ u = some (.int (Z32 (((sDr σ).length + 1 : Nat) : Int))) ∧ WkI D w1 τ ad nb tb (uDr σ (sDr σ ++ [(1, (-1), p)])) ∧ offR τ w w1 0 5000)) (fun E w1 => ((E = "java/lang/IllegalArgumentException" ∧ ¬ (0 ≤ p ∧ p < 10)) ∨ (E = "java/lang/IllegalStateException" ∧ (0 ≤ p ∧ p < 10) ∧ ¬ (sDr σ).length < 30)) ∧ w1 = w) := by
  refine CTx_of hl rfl (by rfl) (Nat.le_of_ble_eq_true rfl) ?_
  intro G C
  show G 0 0 w [some (.ref (ad 0)), some (.int (Z32 p))] 0 []
  refine i_iload_n C dX6_anchor_0 (kk := ?_)
  refine i_bipush C dX6_anchor_1 (kk := ?_)
  refine i_callSX C lk_X6_37 (c_X6_requireBelow l hl D) (hst := rfl) dX6_anchor_3 (hxx := fun E w1 h => ⟨Or.inl (⟨h.1, h.2.1⟩), h.2.2⟩) (kk := fun v3 w3 g3 => ?_)
  obtain ⟨rfl, k0, q3⟩ := g3
  have q3 := q3.symm
  subst q3
  refine i_aload_n C dX6_anchor_6 (kk := ?_)
  refine i_iconst C dX6_anchor_7 (kk := ?_)
  refine i_iconst C dX6_anchor_8 (kk := ?_)
  refine i_iload_n C dX6_anchor_9 (kk := ?_)
  refine i_callVX C lk_X6_41 (c_X6_addPiece l hl D (hW := hW) (s := 1) (g := (-1)) (x := p) (by unfold PV; dsimp only; omega) (by have z := hW.1.1.2.1.all; show 0 ≤ owc (sDr σ) + 0; omega)) (hcl := rfl) (hst := rfl) dX6_anchor_10 (hw := hW.obj) (hxx := fun E w1 h => ⟨Or.inr (⟨h.1, k0, h.2.1⟩), h.2.2⟩) (kk := fun v10 w10 g10 => ?_)
  obtain ⟨y1, rfl, y3⟩ := g10
  exact i_iret C (d := dX6_anchor_13) (h := ⟨k0, y1, rfl, y3⟩)

set_option maxRecDepth 100000 in
set_option maxHeartbeats 4000000 in
theorem c_X6_link (l : Launch) (hl : l.stackTraces = false) (D : gD) {w : wW} {τ ad : Nat → Nat} {nb tb : Nat} {σ : Sg} {p q : Int} (hW : WkI D w τ ad nb tb σ := by assumption) (hp : inR p := by omega) (hq : inR q := by omega) : CTx l D yX6_link cX6_link 3 (some .int) (rmL 8 3 18) [.ref (ad 0), .int (Z32 p), .int (Z32 q)] w (fun u w1 => (0 ≤ p ∧ p < 12) ∧ (0 ≤ q ∧ q < 10) ∧ ((sDr σ).length < 30 ∧ u = some (.int (Z32 (((sDr σ).length + 1 : Nat) : Int))) ∧ WkI D w1 τ ad nb tb (uDr σ (sDr σ ++ [(2, p, q)])) ∧ offR τ w w1 0 5000)) (fun E w1 => ((E = "java/lang/IndexOutOfBoundsException" ∧ ¬ (0 ≤ p ∧ p < 12)) ∨ (E = "java/lang/IllegalArgumentException" ∧ (0 ≤ p ∧ p < 12) ∧ ¬ (0 ≤ q ∧ q < 10)) ∨ (E = "java/lang/IllegalStateException" ∧ (0 ≤ p ∧ p < 12) ∧ (0 ≤ q ∧ q < 10) ∧ ¬ (sDr σ).length < 30)) ∧ w1 = w) := by
  refine CTx_of hl rfl (by rfl) (Nat.le_of_ble_eq_true rfl) ?_
  intro G C
  show G 0 0 w [some (.ref (ad 0)), some (.int (Z32 p)), some (.int (Z32 q))] 0 []
  refine i_iload_n C dX6_link_0 (kk := ?_)
  refine i_callSX C lk_X6_45 (c_X6_requirePage l hl D) (hst := rfl) dX6_link_1 (hxx := fun E w1 h => ⟨Or.inl (⟨h.1, h.2.1⟩), h.2.2⟩) (kk := fun v1 w1 g1 => ?_)
  obtain ⟨rfl, k0, q1⟩ := g1
  have q1 := q1.symm
  subst q1
  refine i_iload_n C dX6_link_4 (kk := ?_)
  refine i_bipush C dX6_link_5 (kk := ?_)
  refine i_callSX C lk_X6_37 (c_X6_requireBelow l hl D) (hst := rfl) dX6_link_7 (hxx := fun E w1 h => ⟨Or.inr (Or.inl (⟨h.1, k0, h.2.1⟩)), h.2.2⟩) (kk := fun v7 w7 g7 => ?_)
  obtain ⟨rfl, k1, q7⟩ := g7
  have q7 := q7.symm
  subst q7
  refine i_aload_n C dX6_link_10 (kk := ?_)
  refine i_iconst C dX6_link_11 (kk := ?_)
  refine i_iload_n C dX6_link_12 (kk := ?_)
  refine i_iload_n C dX6_link_13 (kk := ?_)
  refine i_callVX C lk_X6_41 (c_X6_addPiece l hl D (hW := hW) (s := 2) (g := p) (x := q) (by unfold PV; dsimp only; omega) (by have z := hW.1.1.2.1.all; show 0 ≤ owc (sDr σ) + 0; omega)) (hcl := rfl) (hst := rfl) dX6_link_14 (hw := hW.obj) (hxx := fun E w1 h => ⟨Or.inr (Or.inr (⟨h.1, k0, k1, h.2.1⟩)), h.2.2⟩) (kk := fun v14 w14 g14 => ?_)
  obtain ⟨y1, rfl, y3⟩ := g14
  exact i_iret C (d := dX6_link_17) (h := ⟨k0, k1, y1, rfl, y3⟩)

set_option maxRecDepth 100000 in
set_option maxHeartbeats 4000000 in
theorem c_X6_redirect (l : Launch) (hl : l.stackTraces = false) (D : gD) {w : wW} {τ ad : Nat → Nat} {nb tb : Nat} {σ : Sg} {p : Int} (hW : WkI D w τ ad nb tb σ := by assumption) (hp : inR p := by omega) : CTx l D yX6_redirect cX6_redirect 2 (some .int) (rmL 8 3 18) [.ref (ad 0), .int (Z32 p)] w (fun u w1 => (0 ≤ p ∧ p < 12) ∧ ((sDr σ).length < 30 ∧ u = some (.int (Z32 (((sDr σ).length + 1 : Nat) : Int))) ∧ WkI D w1 τ ad nb tb (uDr σ (sDr σ ++ [(8, p, (-1))])) ∧ offR τ w w1 0 5000)) (fun E w1 => ((E = "java/lang/IndexOutOfBoundsException" ∧ ¬ (0 ≤ p ∧ p < 12)) ∨ (E = "java/lang/IllegalStateException" ∧ (0 ≤ p ∧ p < 12) ∧ ¬ (sDr σ).length < 30)) ∧ w1 = w) := by
  refine CTx_of hl rfl (by rfl) (Nat.le_of_ble_eq_true rfl) ?_
  intro G C
  show G 0 0 w [some (.ref (ad 0)), some (.int (Z32 p))] 0 []
  refine i_iload_n C dX6_redirect_0 (kk := ?_)
  refine i_callSX C lk_X6_45 (c_X6_requirePage l hl D) (hst := rfl) dX6_redirect_1 (hxx := fun E w1 h => ⟨Or.inl (⟨h.1, h.2.1⟩), h.2.2⟩) (kk := fun v1 w1 g1 => ?_)
  obtain ⟨rfl, k0, q1⟩ := g1
  have q1 := q1.symm
  subst q1
  refine i_aload_n C dX6_redirect_4 (kk := ?_)
  refine i_bipush C dX6_redirect_5 (kk := ?_)
  refine i_iload_n C dX6_redirect_7 (kk := ?_)
  refine i_iconst C dX6_redirect_8 (kk := ?_)
  refine i_callVX C lk_X6_41 (c_X6_addPiece l hl D (hW := hW) (s := 8) (g := p) (x := (-1)) (by unfold PV; dsimp only; omega) (by have z := hW.1.1.2.1.all; show 0 ≤ owc (sDr σ) + 0; omega)) (hcl := rfl) (hst := rfl) dX6_redirect_9 (hw := hW.obj) (hxx := fun E w1 h => ⟨Or.inr (⟨h.1, k0, h.2.1⟩), h.2.2⟩) (kk := fun v9 w9 g9 => ?_)
  obtain ⟨y1, rfl, y3⟩ := g9
  exact i_iret C (d := dX6_redirect_12) (h := ⟨k0, y1, rfl, y3⟩)

set_option maxRecDepth 100000 in
set_option maxHeartbeats 4000000 in
theorem c_X6_end (l : Launch) (hl : l.stackTraces = false) (D : gD) {w : wW} {τ ad : Nat → Nat} {nb tb : Nat} {σ : Sg} (hW : WkI D w τ ad nb tb σ := by assumption) : CTx l D yX6_end cX6_end 1 (some .int) (rmL 8 1 6) [.ref (ad 0)] w (fun u w1 => (0 < owc (sDr σ) ∧ ((sDr σ).length < 30 ∧ u = some (.int (Z32 (((sDr σ).length + 1 : Nat) : Int))) ∧ WkI D w1 τ ad nb tb (uDr σ (sDr σ ++ [(7, -1, -1)])) ∧ offR τ w w1 0 5000))) (fun E w1 => E = "java/lang/IllegalStateException" ∧ ¬ (0 < owc (sDr σ) ∧ (sDr σ).length < 30) ∧ w1 = w) := by
  refine CTx_of hl rfl (by rfl) (Nat.le_of_ble_eq_true rfl) ?_
  intro G C
  show G 0 0 w [some (.ref (ad 0))] 0 []
  have hD := hW.2.2.1.2.2.2.2.2
  refine i_aload_n C dX6_end_0 (kk := ?_)
  refine i_getf C f_X6_12 dX6_end_1 (hw := hW.obj) (kk := ?_)
  refine i_callV C lk_X6_52 (c_X3_hasOpenWhen l hl D (hT := hD)) (hcl := rfl) (hst := rfl) dX6_end_4 (hw := hD.2.2.2.2.1) (kk := fun v4 w4 g4 => ?_)
  obtain ⟨rfl, q4⟩ := g4
  have q4 := q4.symm
  subst q4
  refine i_if_ne C dX6_end_7 (tgt := 20) (ha := by split <;> decide) (kt := fun hB7 => ?_) (kf := fun hB7 => ?_)
  · have e8 : 0 < owc (sDr σ) := by apply Decidable.byContradiction; intro q; rw [if_neg q] at hB7; exact hB7 rfl
    refine i_aload_n C dX6_end_20 (kk := ?_)
    refine i_bipush C dX6_end_21 (kk := ?_)
    refine i_iconst C dX6_end_23 (kk := ?_)
    refine i_iconst C dX6_end_24 (kk := ?_)
    refine i_callVX C lk_X6_41 (c_X6_addPiece l hl D (hW := hW) (s := 7) (g := -1) (x := -1) (by unfold PV; dsimp only; omega) (by show 0 ≤ owc (sDr σ) + (-1); omega)) (hcl := rfl) (hst := rfl) dX6_end_25 (hw := hW.obj) (hxx := fun E w1 h => ⟨h.1, fun q => h.2.1 q.2, h.2.2⟩) (kk := fun v25 w25 g25 => ?_)
    obtain ⟨y1, rfl, y3⟩ := g25
    exact i_iret C (d := dX6_end_28) (h := ⟨e8, y1, rfl, y3⟩)
  · have e8 : ¬ 0 < owc (sDr σ) := by intro q; rw [if_pos q] at hB7; cases hB7
    exact i_throw C th_56_58_60 dX6_end_10 dX6_end_13 dX6_end_14 dX6_end_16 dX6_end_19 (hX := ⟨rfl, fun q => e8 q.1, rfl⟩)
