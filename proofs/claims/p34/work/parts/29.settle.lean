set_option maxRecDepth 100000 in
set_option maxHeartbeats 4000000 in
theorem c1_X6_pageAt (l : Launch) (hl : l.stackTraces = false) (D : gD) {w : wW} {τ ad : Nat → Nat} {σ : Sg} {x1 x2 x3 x4 : Nat} {p : Nat} (hX : w (ad 0) = some (mwO x1 (ad 1) x2 x3 x4)) (hA : WkA D w τ ad σ) (hp : p < 12 := by omega) : CTm l D yX6_pageAt cX6_pageAt 3 (some (.object "MacroWiki$Page")) (rmL 1 0 0) [.ref (ad 0), .int (Z32 (p : Int))] w (fun u w1 => u = some (.ref (ad (100 + p))) ∧ w1 = w) := by
  refine CTm_of hl false rfl (by rfl) (Nat.le_of_ble_eq_true rfl) (fun h => nomatch h) ?_
  intro G C
  show G 0 0 w [some (.ref (ad 0)), some (.int (Z32 (p : Int))), none] 0 []
  obtain ⟨a0, a1, a2, ⟨pf, b1, b2⟩, -⟩ := hA
  refine i_iload_n C dX6_pageAt_0 (kk := ?_)
  refine i_if_lt C dX6_pageAt_1 (tgt := 22) (kt := fun hB1 => ?_) (kf := fun hB1 => ?_)
  · exfalso; omega
  · refine i_iload_n C dX6_pageAt_4 (kk := ?_)
    refine i_aload_n C dX6_pageAt_5 (kk := ?_)
    refine i_getf C f_X6_32 dX6_pageAt_6 (hw := hX) (kk := ?_)
    refine i_alenP C dX6_pageAt_9 (hw := b1) (kk := ?_)
    refine i_icmp_ge C dX6_pageAt_10 (tgt := 22) (kt := fun hB10 => ?_) (kf := fun hB10 => ?_)
    · exfalso; omega
    · refine i_aload_n C dX6_pageAt_13 (kk := ?_)
      refine i_getf C f_X6_32 dX6_pageAt_14 (hw := hX) (kk := ?_)
      refine i_iload_n C dX6_pageAt_17 (kk := ?_)
      refine i_aaload C dX6_pageAt_18 (hw := b1) (v := .ref (ad (100 + p))) (hv := by rw [Int.toNat_natCast, b2 _ (by omega)]; rfl) (kk := ?_)
      refine i_goto C dX6_pageAt_19 (tgt := 23) (kk := ?_)
      refine i_astore_n C dX6_pageAt_23 (kk := ?_)
      refine i_aload_n C dX6_pageAt_24 (kk := ?_)
      refine i_ifnonnull C dX6_pageAt_25 (tgt := 38) (kk := ?_)
      refine i_aload_n C dX6_pageAt_38 (kk := ?_)
      exact i_aret C (d := dX6_pageAt_39) (h := ⟨rfl, rfl⟩)

set_option maxRecDepth 100000 in
set_option maxHeartbeats 4000000 in
theorem c_X6_spreadPiece (l : Launch) (hl : l.stackTraces = false) (D : gD) {w : wW} {τ ad : Nat → Nat} {σ : Sg} {x1 x2 x3 x4 : Nat} {p r2 t ta te tc i : Nat} {ps : List Pc3} {its : List It4} {os : List Int} {rec : Nat → List It4} (hX : w (ad 0) = some (mwO x1 (ad 1) x2 x3 x4)) (hA : WkA D w τ ad σ) (hP : WkP w τ ad σ) (hS : SpD D w τ ad (200 + 6 * p) its os) (hT : TxT D w τ r2 t ta te tc ps) (hi : i < ps.length) (hp : p < 12) (hos : os.length < 30 ∨ (pcs ps i).1 ≠ 6) (hQ : ((pcs ps i).1 = 4 ∨ (pcs ps i).1 = 5) → ∃ q : Nat, q < 12 ∧ (pcs ps i).2.1 = (q : Int) ∧ q ≠ p ∧ ∃ os2, SpD D w τ ad (200 + 6 * q) (rec q) os2) : CTm l D yX6_spreadPiece cX6_spreadPiece 6 none (rmL 5 0 0) [.ref (ad 0), .ref (ad (200 + 6 * p)), .ref t, .int (Z32 (i : Int)), .int (Z32 (p : Int))] w (fun u w1 => u = none ∧ SpD D w1 τ ad (200 + 6 * p) (spStep rec p (its, os) (pcs ps i)).1 (spStep rec p (its, os) (pcs ps i)).2 ∧ offR τ w w1 (200 + 6 * p) (200 + 6 * p + 6)) := by
  refine CTm_of hl false rfl (by rfl) (Nat.le_of_ble_eq_true rfl) (fun h => nomatch h) ?_
  intro G C
  show G 0 0 w [some (.ref (ad 0)), some (.ref (ad (200 + 6 * p))), some (.ref t), some (.int (Z32 (i : Int))), some (.int (Z32 (p : Int))), none] 0 []
  have hv := hT.2.2.2.2.2.2.2.1 _ (pcs_mem hi)
  have hvR := hv.R
  have hnd := SpT.nd hS
  refine i_aload_n C dX6_spreadPiece_0 (kk := ?_)
  refine i_iload_n C dX6_spreadPiece_1 (kk := ?_)
  refine i_callV C lk_X6_261 (c_X3_sortOf l hl D (hT := hT) (i := i)) (hcl := rfl) (hst := rfl) dX6_spreadPiece_2 (hw := hT.2.2.2.2.1) (kk := fun v2 w2 g2 => ?_)
  obtain ⟨rfl, q2⟩ := g2
  have q2 := q2.symm
  subst q2
  refine i_istore C dX6_spreadPiece_5 (kk := ?_)
  refine i_iload C dX6_spreadPiece_7 (kk := ?_)
  rcases (show (pcs ps i).1 = 0 ∨ (pcs ps i).1 = 1 ∨ (pcs ps i).1 = 2 ∨ (pcs ps i).1 = 3 ∨ (pcs ps i).1 = 4 ∨ (pcs ps i).1 = 5 ∨ (pcs ps i).1 = 6 ∨ (pcs ps i).1 = 7 ∨ (pcs ps i).1 = 8 by omega) with hs | hs | hs | hs | hs | hs | hs | hs | hs
  · rw [hs]
    refine i_tableIn C dX6_spreadPiece_9 (tgt := 118) (ha := by decide) (h1 := by decide) (h2 := by decide) (ho := rfl) (ht := by decide) (kk := ?_)
    rw [← hs]
    refine i_aload_n C dX6_spreadPiece_118 (kk := ?_)
    refine i_aload_n C dX6_spreadPiece_119 (kk := ?_)
    refine i_callV C lk_X6_284 (c_X2_need l hl D (hS := hS)) (hcl := rfl) (hst := rfl) dX6_spreadPiece_120 (hw := hS.2.2.2.2.2.2.1) (kk := fun v120 w120 g120 => ?_)
    obtain ⟨rfl, q120⟩ := g120
    have q120 := q120.symm
    subst q120
    refine i_iload C dX6_spreadPiece_123 (kk := ?_)
    refine i_aload_n C dX6_spreadPiece_125 (kk := ?_)
    refine i_iload_n C dX6_spreadPiece_126 (kk := ?_)
    refine i_callV C lk_X6_287 (c_X3_itemOf l hl D (hT := hT) (i := i)) (hcl := rfl) (hst := rfl) dX6_spreadPiece_127 (hw := hT.2.2.2.2.1) (kk := fun v127 w127 g127 => ?_)
    obtain ⟨rfl, q127⟩ := g127
    have q127 := q127.symm
    subst q127
    show G _ _ _ _ _ (.int (Z32 (pItem (pcs ps i))) :: _)
    refine i_iload C dX6_spreadPiece_130 (kk := ?_)
    refine i_callV C lk_X6_290 (c_X2_add l hl D (hS := hS) (x1 := ndo os) (x2 := (pcs ps i).1) (x3 := pItem (pcs ps i)) (x4 := (p : Int)) (by omega) (fun z => by unfold PV at hv; unfold ItV pItem; dsimp only; split <;> omega) (by omega)) (hcl := rfl) (hst := rfl) dX6_spreadPiece_132 (hw := hS.2.2.2.2.2.2.1) (kk := fun v132 w132 g132 => ?_)
    obtain ⟨rfl, a1, a2⟩ := g132
    refine i_goto C dX6_spreadPiece_135 (tgt := 138) (kk := ?_)
    exact i_vret C (d := dX6_spreadPiece_138) (h := by first | exact ⟨rfl, by unfold spStep; simp [hs]; exact hS, offR.rf⟩ | exact ⟨rfl, by unfold spStep; simp [hs]; exact a1, a2⟩ | exact ⟨rfl, by unfold spStep; simp [hs]; rw [hs] at a1; exact a1, a2⟩ | exact ⟨rfl, by unfold spStep; simp [hs, hqe]; exact a1, a2⟩)
  · rw [hs]
    refine i_tableIn C dX6_spreadPiece_9 (tgt := 118) (ha := by decide) (h1 := by decide) (h2 := by decide) (ho := rfl) (ht := by decide) (kk := ?_)
    rw [← hs]
    refine i_aload_n C dX6_spreadPiece_118 (kk := ?_)
    refine i_aload_n C dX6_spreadPiece_119 (kk := ?_)
    refine i_callV C lk_X6_284 (c_X2_need l hl D (hS := hS)) (hcl := rfl) (hst := rfl) dX6_spreadPiece_120 (hw := hS.2.2.2.2.2.2.1) (kk := fun v120 w120 g120 => ?_)
    obtain ⟨rfl, q120⟩ := g120
    have q120 := q120.symm
    subst q120
    refine i_iload C dX6_spreadPiece_123 (kk := ?_)
    refine i_aload_n C dX6_spreadPiece_125 (kk := ?_)
    refine i_iload_n C dX6_spreadPiece_126 (kk := ?_)
    refine i_callV C lk_X6_287 (c_X3_itemOf l hl D (hT := hT) (i := i)) (hcl := rfl) (hst := rfl) dX6_spreadPiece_127 (hw := hT.2.2.2.2.1) (kk := fun v127 w127 g127 => ?_)
    obtain ⟨rfl, q127⟩ := g127
    have q127 := q127.symm
    subst q127
    show G _ _ _ _ _ (.int (Z32 (pItem (pcs ps i))) :: _)
    refine i_iload C dX6_spreadPiece_130 (kk := ?_)
    refine i_callV C lk_X6_290 (c_X2_add l hl D (hS := hS) (x1 := ndo os) (x2 := (pcs ps i).1) (x3 := pItem (pcs ps i)) (x4 := (p : Int)) (by omega) (fun z => by unfold PV at hv; unfold ItV pItem; dsimp only; split <;> omega) (by omega)) (hcl := rfl) (hst := rfl) dX6_spreadPiece_132 (hw := hS.2.2.2.2.2.2.1) (kk := fun v132 w132 g132 => ?_)
    obtain ⟨rfl, a1, a2⟩ := g132
    refine i_goto C dX6_spreadPiece_135 (tgt := 138) (kk := ?_)
    exact i_vret C (d := dX6_spreadPiece_138) (h := by first | exact ⟨rfl, by unfold spStep; simp [hs]; exact hS, offR.rf⟩ | exact ⟨rfl, by unfold spStep; simp [hs]; exact a1, a2⟩ | exact ⟨rfl, by unfold spStep; simp [hs]; rw [hs] at a1; exact a1, a2⟩ | exact ⟨rfl, by unfold spStep; simp [hs, hqe]; exact a1, a2⟩)
  · rw [hs]
    refine i_tableIn C dX6_spreadPiece_9 (tgt := 118) (ha := by decide) (h1 := by decide) (h2 := by decide) (ho := rfl) (ht := by decide) (kk := ?_)
    rw [← hs]
    refine i_aload_n C dX6_spreadPiece_118 (kk := ?_)
    refine i_aload_n C dX6_spreadPiece_119 (kk := ?_)
    refine i_callV C lk_X6_284 (c_X2_need l hl D (hS := hS)) (hcl := rfl) (hst := rfl) dX6_spreadPiece_120 (hw := hS.2.2.2.2.2.2.1) (kk := fun v120 w120 g120 => ?_)
    obtain ⟨rfl, q120⟩ := g120
    have q120 := q120.symm
    subst q120
    refine i_iload C dX6_spreadPiece_123 (kk := ?_)
    refine i_aload_n C dX6_spreadPiece_125 (kk := ?_)
    refine i_iload_n C dX6_spreadPiece_126 (kk := ?_)
    refine i_callV C lk_X6_287 (c_X3_itemOf l hl D (hT := hT) (i := i)) (hcl := rfl) (hst := rfl) dX6_spreadPiece_127 (hw := hT.2.2.2.2.1) (kk := fun v127 w127 g127 => ?_)
    obtain ⟨rfl, q127⟩ := g127
    have q127 := q127.symm
    subst q127
    show G _ _ _ _ _ (.int (Z32 (pItem (pcs ps i))) :: _)
    refine i_iload C dX6_spreadPiece_130 (kk := ?_)
    refine i_callV C lk_X6_290 (c_X2_add l hl D (hS := hS) (x1 := ndo os) (x2 := (pcs ps i).1) (x3 := pItem (pcs ps i)) (x4 := (p : Int)) (by omega) (fun z => by unfold PV at hv; unfold ItV pItem; dsimp only; split <;> omega) (by omega)) (hcl := rfl) (hst := rfl) dX6_spreadPiece_132 (hw := hS.2.2.2.2.2.2.1) (kk := fun v132 w132 g132 => ?_)
    obtain ⟨rfl, a1, a2⟩ := g132
    refine i_goto C dX6_spreadPiece_135 (tgt := 138) (kk := ?_)
    exact i_vret C (d := dX6_spreadPiece_138) (h := by first | exact ⟨rfl, by unfold spStep; simp [hs]; exact hS, offR.rf⟩ | exact ⟨rfl, by unfold spStep; simp [hs]; exact a1, a2⟩ | exact ⟨rfl, by unfold spStep; simp [hs]; rw [hs] at a1; exact a1, a2⟩ | exact ⟨rfl, by unfold spStep; simp [hs, hqe]; exact a1, a2⟩)
  · rw [hs]
    refine i_tableIn C dX6_spreadPiece_9 (tgt := 118) (ha := by decide) (h1 := by decide) (h2 := by decide) (ho := rfl) (ht := by decide) (kk := ?_)
    rw [← hs]
    refine i_aload_n C dX6_spreadPiece_118 (kk := ?_)
    refine i_aload_n C dX6_spreadPiece_119 (kk := ?_)
    refine i_callV C lk_X6_284 (c_X2_need l hl D (hS := hS)) (hcl := rfl) (hst := rfl) dX6_spreadPiece_120 (hw := hS.2.2.2.2.2.2.1) (kk := fun v120 w120 g120 => ?_)
    obtain ⟨rfl, q120⟩ := g120
    have q120 := q120.symm
    subst q120
    refine i_iload C dX6_spreadPiece_123 (kk := ?_)
    refine i_aload_n C dX6_spreadPiece_125 (kk := ?_)
    refine i_iload_n C dX6_spreadPiece_126 (kk := ?_)
    refine i_callV C lk_X6_287 (c_X3_itemOf l hl D (hT := hT) (i := i)) (hcl := rfl) (hst := rfl) dX6_spreadPiece_127 (hw := hT.2.2.2.2.1) (kk := fun v127 w127 g127 => ?_)
    obtain ⟨rfl, q127⟩ := g127
    have q127 := q127.symm
    subst q127
    show G _ _ _ _ _ (.int (Z32 (pItem (pcs ps i))) :: _)
    refine i_iload C dX6_spreadPiece_130 (kk := ?_)
    refine i_callV C lk_X6_290 (c_X2_add l hl D (hS := hS) (x1 := ndo os) (x2 := (pcs ps i).1) (x3 := pItem (pcs ps i)) (x4 := (p : Int)) (by omega) (fun z => by unfold PV at hv; unfold ItV pItem; dsimp only; split <;> omega) (by omega)) (hcl := rfl) (hst := rfl) dX6_spreadPiece_132 (hw := hS.2.2.2.2.2.2.1) (kk := fun v132 w132 g132 => ?_)
    obtain ⟨rfl, a1, a2⟩ := g132
    refine i_goto C dX6_spreadPiece_135 (tgt := 138) (kk := ?_)
    exact i_vret C (d := dX6_spreadPiece_138) (h := by first | exact ⟨rfl, by unfold spStep; simp [hs]; exact hS, offR.rf⟩ | exact ⟨rfl, by unfold spStep; simp [hs]; exact a1, a2⟩ | exact ⟨rfl, by unfold spStep; simp [hs]; rw [hs] at a1; exact a1, a2⟩ | exact ⟨rfl, by unfold spStep; simp [hs, hqe]; exact a1, a2⟩)
  · rw [hs]
    refine i_tableIn C dX6_spreadPiece_9 (tgt := 75) (ha := by decide) (h1 := by decide) (h2 := by decide) (ho := rfl) (ht := by decide) (kk := ?_)
    refine i_aload_n C dX6_spreadPiece_75 (kk := ?_)
    refine i_aload_n C dX6_spreadPiece_76 (kk := ?_)
    refine i_aload_n C dX6_spreadPiece_77 (kk := ?_)
    refine i_iload_n C dX6_spreadPiece_78 (kk := ?_)
    refine i_callV C lk_X6_273 (c_X3_pageOf l hl D (hT := hT) (i := i)) (hcl := rfl) (hst := rfl) dX6_spreadPiece_79 (hw := hT.2.2.2.2.1) (kk := fun v79 w79 g79 => ?_)
    obtain ⟨rfl, q79⟩ := g79
    have q79 := q79.symm
    subst q79
    obtain ⟨q, hq12, hqe, hqp, os2, hM2⟩ := hQ (by omega)
    rw [hqe]
    refine i_callV C lk_X6_67 (c1_X6_pageAt l hl D (hX := hX) (hA := hA) (p := q)) (hcl := rfl) (hst := rfl) dX6_spreadPiece_82 (hw := hX) (kk := fun v82 w82 g82 => ?_)
    obtain ⟨rfl, q82⟩ := g82
    have q82 := q82.symm
    subst q82
    refine i_getf C f_X6_129 dX6_spreadPiece_85 (hw := (hP q hq12).2) (kk := ?_)
    refine i_aload_n C dX6_spreadPiece_88 (kk := ?_)
    refine i_iload_n C dX6_spreadPiece_89 (kk := ?_)
    refine i_callV C lk_X6_264 (c_X3_signOf l hl D (hT := hT) (i := i)) (hcl := rfl) (hst := rfl) dX6_spreadPiece_90 (hw := hT.2.2.2.2.1) (kk := fun v90 w90 g90 => ?_)
    obtain ⟨rfl, q90⟩ := g90
    have q90 := q90.symm
    subst q90
    refine i_callV C lk_X6_276 (c_X2_takeCalled l hl D (hS := hS) (hM := hM2) (g := (pcs ps i).2.2) (by omega) (by unfold PV at hv; omega)) (hcl := rfl) (hst := rfl) dX6_spreadPiece_93 (hw := hS.2.2.2.2.2.2.1) (kk := fun v93 w93 g93 => ?_)
    obtain ⟨rfl, a1, a2⟩ := g93
    refine i_goto C dX6_spreadPiece_96 (tgt := 138) (kk := ?_)
    exact i_vret C (d := dX6_spreadPiece_138) (h := by first | exact ⟨rfl, by unfold spStep; simp [hs]; exact hS, offR.rf⟩ | exact ⟨rfl, by unfold spStep; simp [hs]; exact a1, a2⟩ | exact ⟨rfl, by unfold spStep; simp [hs]; rw [hs] at a1; exact a1, a2⟩ | exact ⟨rfl, by unfold spStep; simp [hs, hqe]; exact a1, a2⟩)
  · rw [hs]
    refine i_tableIn C dX6_spreadPiece_9 (tgt := 99) (ha := by decide) (h1 := by decide) (h2 := by decide) (ho := rfl) (ht := by decide) (kk := ?_)
    refine i_aload_n C dX6_spreadPiece_99 (kk := ?_)
    refine i_aload_n C dX6_spreadPiece_100 (kk := ?_)
    refine i_aload_n C dX6_spreadPiece_101 (kk := ?_)
    refine i_iload_n C dX6_spreadPiece_102 (kk := ?_)
    refine i_callV C lk_X6_273 (c_X3_pageOf l hl D (hT := hT) (i := i)) (hcl := rfl) (hst := rfl) dX6_spreadPiece_103 (hw := hT.2.2.2.2.1) (kk := fun v103 w103 g103 => ?_)
    obtain ⟨rfl, q103⟩ := g103
    have q103 := q103.symm
    subst q103
    obtain ⟨q, hq12, hqe, hqp, os2, hM2⟩ := hQ (by omega)
    rw [hqe]
    refine i_callV C lk_X6_67 (c1_X6_pageAt l hl D (hX := hX) (hA := hA) (p := q)) (hcl := rfl) (hst := rfl) dX6_spreadPiece_106 (hw := hX) (kk := fun v106 w106 g106 => ?_)
    obtain ⟨rfl, q106⟩ := g106
    have q106 := q106.symm
    subst q106
    refine i_getf C f_X6_129 dX6_spreadPiece_109 (hw := (hP q hq12).2) (kk := ?_)
    refine i_callV C lk_X6_280 (c_X2_takeCalledOn l hl D (hS := hS) (hM := hM2) (by omega)) (hcl := rfl) (hst := rfl) dX6_spreadPiece_112 (hw := hS.2.2.2.2.2.2.1) (kk := fun v112 w112 g112 => ?_)
    obtain ⟨rfl, a1, a2⟩ := g112
    refine i_goto C dX6_spreadPiece_115 (tgt := 138) (kk := ?_)
    exact i_vret C (d := dX6_spreadPiece_138) (h := by first | exact ⟨rfl, by unfold spStep; simp [hs]; exact hS, offR.rf⟩ | exact ⟨rfl, by unfold spStep; simp [hs]; exact a1, a2⟩ | exact ⟨rfl, by unfold spStep; simp [hs]; rw [hs] at a1; exact a1, a2⟩ | exact ⟨rfl, by unfold spStep; simp [hs, hqe]; exact a1, a2⟩)
  · rw [hs]
    refine i_tableIn C dX6_spreadPiece_9 (tgt := 56) (ha := by decide) (h1 := by decide) (h2 := by decide) (ho := rfl) (ht := by decide) (kk := ?_)
    refine i_aload_n C dX6_spreadPiece_56 (kk := ?_)
    refine i_aload_n C dX6_spreadPiece_57 (kk := ?_)
    refine i_iload_n C dX6_spreadPiece_58 (kk := ?_)
    refine i_callV C lk_X6_264 (c_X3_signOf l hl D (hT := hT) (i := i)) (hcl := rfl) (hst := rfl) dX6_spreadPiece_59 (hw := hT.2.2.2.2.1) (kk := fun v59 w59 g59 => ?_)
    obtain ⟨rfl, q59⟩ := g59
    have q59 := q59.symm
    subst q59
    refine i_callV C lk_X6_267 (c_X2_openWhen l hl D (hS := hS) (g := (pcs ps i).2.2) (by omega) (by unfold PV at hv; omega)) (hcl := rfl) (hst := rfl) dX6_spreadPiece_62 (hw := hS.2.2.2.2.2.2.1) (kk := fun v62 w62 g62 => ?_)
    obtain ⟨rfl, a1, a2⟩ := g62
    refine i_goto C dX6_spreadPiece_65 (tgt := 138) (kk := ?_)
    exact i_vret C (d := dX6_spreadPiece_138) (h := by first | exact ⟨rfl, by unfold spStep; simp [hs]; exact hS, offR.rf⟩ | exact ⟨rfl, by unfold spStep; simp [hs]; exact a1, a2⟩ | exact ⟨rfl, by unfold spStep; simp [hs]; rw [hs] at a1; exact a1, a2⟩ | exact ⟨rfl, by unfold spStep; simp [hs, hqe]; exact a1, a2⟩)
  · rw [hs]
    refine i_tableIn C dX6_spreadPiece_9 (tgt := 68) (ha := by decide) (h1 := by decide) (h2 := by decide) (ho := rfl) (ht := by decide) (kk := ?_)
    refine i_aload_n C dX6_spreadPiece_68 (kk := ?_)
    refine i_callV C lk_X6_270 (c_X2_closeWhen l hl D (hS := hS)) (hcl := rfl) (hst := rfl) dX6_spreadPiece_69 (hw := hS.2.2.2.2.2.2.1) (kk := fun v69 w69 g69 => ?_)
    obtain ⟨rfl, a1, a2⟩ := g69
    refine i_goto C dX6_spreadPiece_72 (tgt := 138) (kk := ?_)
    exact i_vret C (d := dX6_spreadPiece_138) (h := by first | exact ⟨rfl, by unfold spStep; simp [hs]; exact hS, offR.rf⟩ | exact ⟨rfl, by unfold spStep; simp [hs]; exact a1, a2⟩ | exact ⟨rfl, by unfold spStep; simp [hs]; rw [hs] at a1; exact a1, a2⟩ | exact ⟨rfl, by unfold spStep; simp [hs, hqe]; exact a1, a2⟩)
  · rw [hs]
    refine i_tableOut C dX6_spreadPiece_9 (tgt := 138) (ha := by decide) (h1 := by decide) (ht := by decide) (kk := ?_)
    exact i_vret C (d := dX6_spreadPiece_138) (h := by first | exact ⟨rfl, by unfold spStep; simp [hs]; exact hS, offR.rf⟩ | exact ⟨rfl, by unfold spStep; simp [hs]; exact a1, a2⟩ | exact ⟨rfl, by unfold spStep; simp [hs]; rw [hs] at a1; exact a1, a2⟩ | exact ⟨rfl, by unfold spStep; simp [hs, hqe]; exact a1, a2⟩)

set_option maxRecDepth 100000 in
set_option maxHeartbeats 4000000 in
theorem c_X6_spreadPage (l : Launch) (hl : l.stackTraces = false) (D : gD) {w : wW} {τ ad : Nat → Nat} {nb tb : Nat} {σ : Sg} {Q : Nat → Prop} {p : Nat} (hM : WkM D w τ ad nb tb σ Q := by assumption) (hp : p < 12 := by omega) (hc : ∀ pc ∈ sT σ p, (pc.1 = 4 ∨ pc.1 = 5) → Q pc.2.1.toNat) : CTm l D yX6_spreadPage cX6_spreadPage 6 none (rmL 6 0 0) [.ref (ad 0), .int (Z32 (p : Int))] w (fun u w1 => u = none ∧ WkM D w1 τ ad nb tb σ (fun q => q = p ∨ Q q) ∧ offR τ w w1 200 272) := by
  refine CTm_of hl false rfl (by rfl) (Nat.le_of_ble_eq_true rfl) (fun h => nomatch h) ?_
  intro G C
  show G 0 0 w [some (.ref (ad 0)), some (.int (Z32 (p : Int))), none, none, none, none] 0 []
  refine i_aload_n C dX6_spreadPage_0 (kk := ?_)
  refine i_iload_n C dX6_spreadPage_1 (kk := ?_)
  refine i_callV C lk_X6_67 (c1_X6_pageAt l hl D (hX := hM.obj) (hA := hM.2.2.1) (p := p)) (hcl := rfl) (hst := rfl) dX6_spreadPage_2 (hw := hM.obj) (kk := fun v2 w2 g2 => ?_)
  obtain ⟨rfl, q2⟩ := g2
  have q2 := q2.symm
  subst q2
  refine i_astore_n C dX6_spreadPage_5 (kk := ?_)
  refine i_aload_n C dX6_spreadPage_6 (kk := ?_)
  refine i_getf C f_X6_73 dX6_spreadPage_7 (hw := hM.page hp) (kk := ?_)
  refine i_getf C f_X6_113 dX6_spreadPage_10 (hw := hM.ver hp) (kk := ?_)
  refine i_astore_n C dX6_spreadPage_13 (kk := ?_)
  refine i_aload_n C dX6_spreadPage_14 (kk := ?_)
  refine i_getf C f_X6_129 dX6_spreadPage_15 (hw := hM.page hp) (kk := ?_)
  refine i_astore C dX6_spreadPage_18 (kk := ?_)
  obtain ⟨its, os, kS, -⟩ := hM.2.2.2.2.1 p hp
  have h30 := (hM.txt hp).2.2.2.2.2.1
  refine i_aload C dX6_spreadPage_20 (kk := ?_)
  refine i_callV C lk_X6_256 (c_X2_clear l hl D (hS := kS)) (hcl := rfl) (hst := rfl) dX6_spreadPage_22 (hw := kS.2.2.2.2.2.2.1) (kk := fun v22 w22 g22 => ?_)
  obtain ⟨rfl, kS0, kO0⟩ := g22
  refine i_iconst C dX6_spreadPage_25 (kk := ?_)
  refine i_istore C dX6_spreadPage_26 (kk := ?_)
  have hoW := (hM.1.txt p hp).2.1
  have lp : ∀ (m i : Nat) (w1 : wW), (sT σ p).length + 1 ≤ m + i → i ≤ (sT σ p).length → SpD D w1 τ ad (200 + 6 * p) (spText (sprT (sT σ)) p ((sT σ p).take i)).1 (spText (sprT (sT σ)) p ((sT σ p).take i)).2 → offR τ w w1 (200 + 6 * p) (200 + 6 * p + 6) → G 0 0 w1 [some (.ref (ad 0)), some (.int (Z32 (p : Int))), some (.ref (ad (100 + p))), some (.ref (ad (vr p (sNv σ p) + 1))), some (.ref (ad (200 + 6 * p))), some (.int (Z32 (i : Int)))] 28 [] := by
    intro m
    induction m with
    | zero => intro i w1 h1 h2; omega
    | succ m ih =>
    intro i w1 h1 h2 kS1 kO1
    have hM1 := hM.step (Q' := fun q => q ≠ p ∧ Q q) kS1 kO1 hp (fun q _ hne h => h.2) (fun h => absurd rfl h.1)
    refine i_iload C dX6_spreadPage_28 (kk := ?_)
    refine i_aload_n C dX6_spreadPage_30 (kk := ?_)
    refine i_getf C f_X6_208 dX6_spreadPage_31 (hw := (hM1.txt hp).2.2.2.2.1) (kk := ?_)
    refine i_icmp_ge C dX6_spreadPage_34 (tgt := 53) (kt := fun hB34 => ?_) (kf := fun hB34 => ?_)
    · exact i_vret C (d := dX6_spreadPage_53) (h := ⟨rfl, hM.step kS1 kO1 hp (fun q hq hne h => h.resolve_left hne) (fun _ => by rw [sprT_fix hM.1.txt hM.1.acy hp (hM.1.2.1 p hp).2.2.1, List.take_of_length_le (by omega)]), kO1.wide (by omega) (by omega)⟩)
    · refine i_aload_n C dX6_spreadPage_37 (kk := ?_)
      refine i_aload C dX6_spreadPage_38 (kk := ?_)
      refine i_aload_n C dX6_spreadPage_40 (kk := ?_)
      refine i_iload C dX6_spreadPage_41 (kk := ?_)
      refine i_iload_n C dX6_spreadPage_43 (kk := ?_)
      refine i_callV C lk_X6_257 (c_X6_spreadPiece l hl D (hX := hM1.obj) (hA := hM1.2.2.1) (hP := hM1.2.2.2.1) (hS := kS1) (hT := hM1.txt hp) (i := i) (rec := sprT (sT σ)) (by omega) hp (Or.inl (by have e1 := spText_os (rec := sprT (sT σ)) (p := p) hoW i (by omega); have e2 := owc_le ((sT σ p).take i); have e3 := List.length_take_le i (sT σ p); omega)) (fun h45 => by obtain ⟨q, hq, e, hd, hne⟩ := dep_call hM.1.txt hM.1.acy hp (pcs_mem (i := i) (by omega)) h45; obtain ⟨its2, os2, b1, b2⟩ := hM1.2.2.2.2.1 q hq; have hc9 := hc _ (pcs_mem (i := i) (by omega)) h45; rw [e, Int.toNat_natCast] at hc9; exact ⟨q, hq, e, hne, os2, by rw [← b2 ⟨hne, hc9⟩]; exact b1⟩)) (hcl := rfl) (hst := rfl) dX6_spreadPage_44 (hw := hM1.obj) (kk := fun v44 w44 g44 => ?_)
      obtain ⟨rfl, a1, a2⟩ := g44
      have a3 : SpD D w44 τ ad (200 + 6 * p) (spText (sprT (sT σ)) p ((sT σ p).take (i + 1))).1 (spText (sprT (sT σ)) p ((sT σ p).take (i + 1))).2 := by rw [spText_take (by omega)]; exact a1
      refine i_iinc C dX6_spreadPage_47 (kk := ?_)
      refine i_goto C dX6_spreadPage_50 (tgt := 28) (kk := ?_)
      exact ih (i + 1) _ (by omega) (by omega) a3 (kO1.trans a2)
  exact lp ((sT σ p).length + 1) 0 _ (by omega) (by omega) kS0 kO0

set_option maxRecDepth 100000 in
set_option maxHeartbeats 4000000 in
theorem c_X6_settle (l : Launch) (hl : l.stackTraces = false) (D : gD) {w : wW} {τ ad : Nat → Nat} {nb tb : Nat} {σ : Sg} (hS : SgOK σ) (hb : (nb = 10 ∧ tb = 20) ∨ (nb = 20 ∧ tb = 10)) (hX : w (ad 0) = some (mwO (ad 3) (ad 1) (ad 2) (ad nb) (ad tb))) (hN : ∃ fc fo fr fd fx, NtD D w τ ad nb fc fo fr fd fx) (hT : ∃ fc fo fr fd fx, NtD D w τ ad tb fc fo fr fd fx ∧ NetOK (sT σ) fc fo fr fd fx) (hA : WkA D w τ ad σ) (hP : WkP w τ ad σ) (hSp : ∀ p, p < 12 → ∃ its os, SpD D w τ ad (200 + 6 * p) its os) (hV : WkV D w τ ad σ) : CTm l D yX6_settle cX6_settle 4 none (rmL 7 0 0) [.ref (ad 0)] w (fun u w1 => u = none ∧ WkI D w1 τ ad tb nb σ ∧ offR τ w w1 0 5000) := by
  refine CTm_of hl false rfl (by rfl) (Nat.le_of_ble_eq_true rfl) (fun h => nomatch h) ?_
  intro G C
  show G 0 0 w [some (.ref (ad 0)), none, none, none] 0 []
  have h0 := hA.1
  refine i_aload_n C dX6_settle_0 (kk := ?_)
  refine i_getf C f_X6_23 dX6_settle_1 (hw := hX) (kk := ?_)
  refine i_astore_n C dX6_settle_4 (kk := ?_)
  refine i_aload_n C dX6_settle_5 (kk := ?_)
  refine i_aload_n C dX6_settle_6 (kk := ?_)
  refine i_getf C f_X6_27 dX6_settle_7 (hw := hX) (kk := ?_)
  refine i_putf C fk_X6_23 dX6_settle_10 (hw := hX) (kk := ?_)
  refine i_aload_n C dX6_settle_13 (kk := ?_)
  refine i_aload_n C dX6_settle_14 (kk := ?_)
  refine i_putf C fk_X6_27 dX6_settle_15 (hw := wset_eq) (kk := ?_)
  have ko1 : offR τ w (wset (wset w (ad 0) (mwO (ad 3) (ad 1) (ad 2) (ad tb) (ad tb))) (ad 0) (mwO (ad 3) (ad 1) (ad 2) (ad tb) (ad nb))) 0 1 := (offR.rf.put (by omega) (by omega)).put (by omega) (by omega)
  have hM0 := WkM.swap hS hb hN hT hA hP hSp hV wset_eq ko1
  refine i_iconst C dX6_settle_18 (kk := ?_)
  refine i_istore_n C dX6_settle_19 (kk := ?_)
  have lp : ∀ (m d : Nat) (w1 : wW) (o9 : Option Value), 6 + 1 ≤ m + d → d ≤ 6 → WkM D w1 τ ad tb nb σ (fun q => depT (sT σ) q < d) → offR τ w w1 0 5000 → G 0 0 w1 [some (.ref (ad 0)), some (.ref (ad nb)), some (.int (Z32 (d : Int))), o9] 20 [] := by
    intro m
    induction m with
    | zero => intro d w1 o9 h1 h2; omega
    | succ m ih =>
    intro d w1 o9 h1 h2 hM kO
    refine i_iload_n C dX6_settle_20 (kk := ?_)
    refine i_iconst C dX6_settle_21 (kk := ?_)
    refine i_icmp_gt C dX6_settle_22 (tgt := 62) (kt := fun hB22 => ?_) (kf := fun hB22 => ?_)
    · exact i_vret C (d := dX6_settle_62) (h := ⟨rfl, hM.all (fun p hp => by have := (hS.2.1 p hp).2.2.1; omega), kO⟩)
    · refine i_iconst C dX6_settle_25 (kk := ?_)
      refine i_istore_n C dX6_settle_26 (kk := ?_)
      have lq : ∀ (m j : Nat) (w1 : wW), 12 + 1 ≤ m + j → j ≤ 12 → WkM D w1 τ ad tb nb σ (fun q => depT (sT σ) q < d ∨ (depT (sT σ) q = d ∧ q < j)) → offR τ w w1 0 5000 → G 0 0 w1 [some (.ref (ad 0)), some (.ref (ad nb)), some (.int (Z32 (d : Int))), some (.int (Z32 (j : Int)))] 27 [] := by
        intro m
        induction m with
        | zero => intro j w1 h1 h2; omega
        | succ m ihj =>
        intro j w1 h1 h2 hM kO
        refine i_iload_n C dX6_settle_27 (kk := ?_)
        refine i_bipush C dX6_settle_28 (kk := ?_)
        refine i_icmp_ge C dX6_settle_30 (tgt := 56) (kt := fun hB30 => ?_) (kf := fun hB30 => ?_)
        · refine i_iinc C dX6_settle_56 (kk := ?_)
          refine i_goto C dX6_settle_59 (tgt := 20) (kk := ?_)
          exact ih (d + 1) _ _ (by omega) (by omega) (hM.mono (fun q hq h => by omega)) kO
        · refine i_aload_n C dX6_settle_33 (kk := ?_)
          refine i_getf C f_X6_23 dX6_settle_34 (hw := hM.obj) (kk := ?_)
          refine i_iload_n C dX6_settle_37 (kk := ?_)
          obtain ⟨hb9, -, ⟨fc, fo, fr, fd, fx, kN, kO9⟩, -⟩ := hM.2.1
          have hd9 := (kO9 j (by omega)).2.2.1
          have hd5 := (hS.2.1 j (by omega)).2.2.1
          refine i_callV C lk_X6_245 (c_X0_depthOf l hl D (hN := kN) (p := j)) (hcl := rfl) (hst := rfl) dX6_settle_38 (hw := kN.2.2.2.2.2.2.1) (kk := fun v38 w38 g38 => ?_)
          obtain ⟨rfl, q38⟩ := g38
          have q38 := q38.symm
          subst q38
          refine i_iload_n C dX6_settle_41 (kk := ?_)
          refine i_icmp_ne C dX6_settle_42 (tgt := 50) (kt := fun hB42 => ?_) (kf := fun hB42 => ?_)
          · have hM2 : WkM D w1 τ ad tb nb σ (fun q => depT (sT σ) q < d ∨ (depT (sT σ) q = d ∧ q < j + 1)) := hM.mono (fun q hq h => h.imp id (fun h => ⟨h.1, by have : q ≠ j := (fun e => by subst e; omega); omega⟩))
            refine i_iinc C dX6_settle_50 (kk := ?_)
            refine i_goto C dX6_settle_53 (tgt := 27) (kk := ?_)
            first | exact ihj (j + 1) _ (by omega) (by omega) hM4 (kO.trans (kO3.wide (by omega) (by omega))) | exact ihj (j + 1) _ (by omega) (by omega) hM2 kO
          · refine i_aload_n C dX6_settle_45 (kk := ?_)
            refine i_iload_n C dX6_settle_46 (kk := ?_)
            refine i_callV C lk_X6_248 (c_X6_spreadPage l hl D (hM := hM) (p := j) (hc := fun pc hm h45 => by obtain ⟨q, hq, e, hd, hne⟩ := dep_call hS.txt hS.acy (p := j) (by omega) hm h45; rw [e, Int.toNat_natCast]; exact Or.inl (by omega))) (hcl := rfl) (hst := rfl) dX6_settle_47 (hw := hM.obj) (kk := fun v47 w47 g47 => ?_)
            obtain ⟨rfl, hM3, kO3⟩ := g47
            have hM4 : WkM D w47 τ ad tb nb σ (fun q => depT (sT σ) q < d ∨ (depT (sT σ) q = d ∧ q < j + 1)) := hM3.mono (fun q hq h => by by_cases z : q = j; (exact Or.inl z); (exact Or.inr (h.imp id (fun h => ⟨h.1, by omega⟩))))
            refine i_iinc C dX6_settle_50 (kk := ?_)
            refine i_goto C dX6_settle_53 (tgt := 27) (kk := ?_)
            first | exact ihj (j + 1) _ (by omega) (by omega) hM4 (kO.trans (kO3.wide (by omega) (by omega))) | exact ihj (j + 1) _ (by omega) (by omega) hM2 kO
      exact lq 13 0 _ (by omega) (by omega) (hM.mono (fun q hq h => by omega)) kO
  exact lp 7 0 _ _ (by omega) (by omega) (hM0.mono (fun q hq h => absurd h (Nat.not_lt_zero _))) (ko1.wide (by omega) (by omega))
