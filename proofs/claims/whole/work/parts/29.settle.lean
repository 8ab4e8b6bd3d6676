set_option maxRecDepth 100000 in
set_option maxHeartbeats 4000000 in
theorem c1_X6_pageAt (l : Launch) (hl : l.stackTraces = false) (D : gD) {w : wW} {τ ad : Nat → Nat} {σ : Sg} {x1 x2 x3 x4 : Nat} {p : Nat} (hX : w (ad 0) = some (mwO x1 (ad 1) x2 x3 x4)) (hA : WkA D w τ ad σ) (hp : p < 12 := by omega) : CTm l D yX6_pageAt cX6_pageAt 3 (some (.object "MacroWiki$Page")) (rmL 1 0 0) [.ref (ad 0), .int (Z32 (p : Int))] w (fun u w1 => u = some (.ref (ad (100 + p))) ∧ w1 = w) := by
  refine CTm_of hl false rfl (by rfl) (Nat.le_of_ble_eq_true rfl) (fun h => nomatch h) ?_
  intro G C
  show G 0 0 w [some (.ref (ad 0)), some (.int (Z32 (p : Int))), none] 0 []
  obtain ⟨a0, a1, a2, ⟨pf, b1, b2⟩, -⟩ := hA
  refine i_iload_n C dX6_pageAt_0 (kk := ?_)
  refine i_if_lt C dX6_pageAt_1 (tgt := 22) (kt := fun hB1 => ?_) (kf := fun hB1 => ?_)
  · exfalso; omega
  · refine i_iload_n C dX6_pageAt_4 (kk := ?_)
    refine i_aload_n C dX6_pageAt_5 (kk := ?_)
    refine i_getf C f_X6_32 dX6_pageAt_6 (hw := hX) (kk := ?_)
    refine i_alenP C dX6_pageAt_9 (hw := b1) (kk := ?_)
    refine i_icmp_ge C dX6_pageAt_10 (tgt := 22) (kt := fun hB10 => ?_) (kf := fun hB10 => ?_)
    · exfalso; omega
    · refine i_aload_n C dX6_pageAt_13 (kk := ?_)
      refine i_getf C f_X6_32 dX6_pageAt_14 (hw := hX) (kk := ?_)
      refine i_iload_n C dX6_pageAt_17 (kk := ?_)
      refine i_aaload C dX6_pageAt_18 (hw := b1) (v := .ref (ad (100 + p))) (hv := by rw [Int.toNat_natCast, b2 _ (by omega)]; rfl) (kk := ?_)
      refine i_goto C dX6_pageAt_19 (tgt := 23) (kk := ?_)
      refine i_astore_n C dX6_pageAt_23 (kk := ?_)
      refine i_aload_n C dX6_pageAt_24 (kk := ?_)
      refine i_ifnonnull C dX6_pageAt_25 (tgt := 38) (kk := ?_)
      refine i_aload_n C dX6_pageAt_38 (kk := ?_)
      exact i_aret C (d := dX6_pageAt_39) (h := ⟨rfl, rfl⟩)

set_option maxRecDepth 100000 in
set_option maxHeartbeats 4000000 in
theorem c_X6_spreadPiece (l : Launch) (hl : l.stackTraces = false) (D : gD) {w : wW} {τ ad : Nat → Nat} {σ : Sg} {x1 x2 x3 x4 : Nat} {p r2 t ta te tc i : Nat} {ps : List Pc3} {its : List It4} {os : List Int} {rec : Nat → List It4} (hX : w (ad 0) = some (mwO x1 (ad 1) x2 x3 x4)) (hA : WkA D w τ ad σ) (hP : WkP w τ ad σ) (hS : SpD D w τ ad (200 + 6 * p) its os) (hT : TxT D w τ r2 t ta te tc ps) (hi : i < ps.length) (hp : p < 12) (hos : os.length < 30 ∨ (pcs ps i).1 ≠ 6) (hQ : ((pcs ps i).1 = 4 ∨ (pcs ps i).1 = 5) → ∃ q : Nat, q < 12 ∧ (pcs ps i).2.1 = (q : Int) ∧ q ≠ p ∧ ∃ os2, SpD D w τ ad (200 + 6 * q) (rec q) os2) : CTm l D yX6_spreadPiece cX6_spreadPiece 6 none (rmL 5 0 0) [.ref (ad 0), .ref (ad (200 + 6 * p)), .ref t, .int (Z32 (i : Int)), .int (Z32 (p : Int))] w (fun u w1 => u = none ∧ SpD D w1 τ ad (200 + 6 * p) (spStep rec p (its, os) (pcs ps i)).1 (spStep rec p (its, os) (pcs ps i)).2 ∧ offR τ w w1 (200 + 6 * p) (200 + 6 * p + 6)) := by
  refine CTm_of hl false rfl (by rfl) (Nat.le_of_ble_eq_true rfl) (fun h => nomatch h) ?_
  intro G C
  show G 0 0 w [some (.ref (ad 0)), some (.ref (ad (200 + 6 * p))), some (.ref t), some (.int (Z32 (i : Int))), some (.int (Z32 (p : Int))), none] 0 []
  have hv := hT.2.2.2.2.2.2.2.1 _ (pcs_mem hi)
  have hvR := hv.R
  have hnd := SpT.nd hS
  refine i_aload_n C dX6_spreadPiece_0 (kk := ?_)
  refine i_iload_n C dX6_spreadPiece_1 (kk := ?_)
  refine i_callV C lk_X6_261 (c_X3_sortOf l hl D (hT := hT) (i := i)) (hcl := rfl) (hst := rfl) dX6_spreadPiece_2 (hw := hT.2.2.2.2.1) (kk := fun v2 w2 g2 => ?_)
  obtain ⟨rfl, q2⟩ := g2
  have q2 := q2.symm
  subst q2
  refine i_istore C dX6_spreadPiece_5 (kk := ?_)
  refine i_iload C dX6_spreadPiece_7 (kk := ?_)
  rcases (show (pcs ps i).1 = 0 ∨ (pcs ps i).1 = 1 ∨ (pcs ps i).1 = 2 ∨ (pcs ps i).1 = 3 ∨ (pcs ps i).1 = 4 ∨ (pcs ps i).1 = 5 ∨ (pcs ps i).1 = 6 ∨ (pcs ps i).1 = 7 ∨ (pcs ps i).1 = 8 by omega) with hs | hs | hs | hs | hs | hs | hs | hs | hs
  · rw [hs]
    refine i_tableIn C dX6_spreadPiece_9 (tgt := 118) (ha := by decide) (h1 := by decide) (h2 := by decide) (ho := rfl) (ht := by decide) (kk := ?_)
    rw [← hs]
    refine i_aload_n C dX6_spreadPiece_118 (kk := ?_)
    refine i_aload_n C dX6_spreadPiece_119 (kk := ?_)
    refine i_callV C lk_X6_284 (c_X2_need l hl D (hS := hS)) (hcl := rfl) (hst := rfl) dX6_spreadPiece_120 (hw := hS.2.2.2.2.2.2.1) (kk := fun v120 w120 g120 => ?_)
    obtain ⟨rfl, q120⟩ := g120
    have q120 := q120.symm
    subst q120
    refine i_iload C dX6_spreadPiece_123 (kk := ?_)
    refine i_aload_n C dX6_spreadPiece_125 (kk := ?_)
    refine i_iload_n C dX6_spreadPiece_126 (kk := ?_)
    refine i_callV C lk_X6_287 (c_X3_itemOf l hl D (hT := hT) (i := i)) (hcl := rfl) (hst := rfl) dX6_spreadPiece_127 (hw := hT.2.2.2.2.1) (kk := fun v127 w127 g127 => ?_)
    obtain ⟨rfl, q127⟩ := g127
    have q127 := q127.symm
    subst q127
    show G _ _ _ _ _ (.int (Z32 (pItem (pcs ps i))) :: _)
    refine i_iload C dX6_spreadPiece_130 (kk := ?_)
    refine i_callV C lk_X6_290 (c_X2_add l hl D (hS := hS) (x1 := ndo os) (x2 := (pcs ps i).1) (x3 := pItem (pcs ps i)) (x4 := (p : Int)) (by omega) (fun z => by unfold PV at hv; unfold ItV pItem; dsimp only; split <;> omega) (by omega)) (hcl := rfl) (hst := rfl) dX6_spreadPiece_132 (hw := hS.2.2.2.2.2.2.1) (kk := fun v132 w132 g132 => ?_)
    obtain ⟨rfl, a1, a2⟩ := g132
    refine i_goto C dX6_spreadPiece_135 (tgt := 138) (kk := ?_)
    exact i_vret C (d := dX6_spreadPiece_138) (h := by first | exact ⟨rfl, by unfold spStep; simp [hs]; exact hS, offR.rf⟩ | exact ⟨rfl, by unfold spStep; simp [hs]; exact a1, a2⟩ | exact ⟨rfl, by unfold spStep; simp [hs]; rw [hs] at a1; exact a1, a2⟩ | exact ⟨rfl, by unfold spStep; simp [hs, hqe]; exact a1, a2⟩)
  · rw [hs]
    refine i_tableIn C dX6_spreadPiece_9 (tgt := 118) (ha := by decide) (h1 := by decide) (h2 := by decide) (ho := rfl) (ht := by decide) (kk := ?_)
    rw [← hs]
    refine i_aload_n C dX6_spreadPiece_118 (kk := ?_)
    refine i_aload_n C dX6_spreadPiece_119 (kk := ?_)
    refine i_callV C lk_X6_284 (c_X2_need l hl D (hS := hS)) (hcl := rfl) (hst := rfl) dX6_spreadPiece_120 (hw := hS.2.2.2.2.2.2.1) (kk := fun v120 w120 g120 => ?_)
    obtain ⟨rfl, q120⟩ := g120
    have q120 := q120.symm
    subst q120
    refine i_iload C dX6_spreadPiece_123 (kk := ?_)
    refine i_aload_n C dX6_spreadPiece_125 (kk := ?_)
    refine i_iload_n C dX6_spreadPiece_126 (kk := ?_)
    refine i_callV C lk_X6_287 (c_X3_itemOf l hl D (hT := hT) (i := i)) (hcl := rfl) (hst := rfl) dX6_spreadPiece_127 (hw := hT.2.2.2.2.1) (kk := fun v127 w127 g127 => ?_)
    obtain ⟨rfl, q127⟩ := g127
    have q127 := q127.symm
    subst q127
    show G _ _ _ _ _ (.int (Z32 (pItem (pcs ps i))) :: _)
    refine i_iload C dX6_spreadPiece_130 (kk := ?_)
    refine i_callV C lk_X6_290 (c_X2_add l hl D (hS := hS) (x1 := ndo os) (x2 := (pcs ps i).1) (x3 := pItem (pcs ps i)) (x4 := (p : Int)) (by omega) (fun z => by unfold PV at hv; unfold ItV pItem; dsimp only; split <;> omega) (by omega)) (hcl := rfl) (hst := rfl) dX6_spreadPiece_132 (hw := hS.2.2.2.2.2.2.1) (kk := fun v132 w132 g132 => ?_)
    obtain ⟨rfl, a1, a2⟩ := g132
    refine i_goto C dX6_spreadPiece_135 (tgt := 138) (kk := ?_)
    exact i_vret C (d := dX6_spreadPiece_138) (h := by first | exact ⟨rfl, by unfold spStep; simp [hs]; exact hS, offR.rf⟩ | exact ⟨rfl, by unfold spStep; simp [hs]; exact a1, a2⟩ | exact ⟨rfl, by unfold spStep; simp [hs]; rw [hs] at a1; exact a1, a2⟩ | exact ⟨rfl, by unfold spStep; simp [hs, hqe]; exact a1, a2⟩)
  · rw [hs]
    refine i_tableIn C dX6_spreadPiece_9 (tgt := 118) (ha := by decide) (h1 := by decide) (h2 := by decide) (ho := rfl) (ht := by decide) (kk := ?_)
    rw [← hs]
    refine i_aload_n C dX6_spreadPiece_118 (kk := ?_)
    refine i_aload_n C dX6_spreadPiece_119 (kk := ?_)
    refine i_callV C lk_X6_284 (c_X2_need l hl D (hS := hS)) (hcl := rfl) (hst := rfl) dX6_spreadPiece_120 (hw := hS.2.2.2.2.2.2.1) (kk := fun v120 w120 g120 => ?_)
    obtain ⟨rfl, q120⟩ := g120
    have q120 := q120.symm
    subst q120
    refine i_iload C dX6_spreadPiece_123 (kk := ?_)
    refine i_aload_n C dX6_spreadPiece_125 (kk := ?_)
    refine i_iload_n C dX6_spreadPiece_126 (kk := ?_)
    refine i_callV C lk_X6_287 (c_X3_itemOf l hl D (hT := hT) (i := i)) (hcl := rfl) (hst := rfl) dX6_spreadPiece_127 (hw := hT.2.2.2.2.1) (kk := fun v127 w127 g127 => ?_)
    obtain ⟨rfl, q127⟩ := g127
    have q127 := q127.symm
    subst q127
    show G _ _ _ _ _ (.int (Z32 (pItem (pcs ps i))) :: _)
    refine i_iload C dX6_spreadPiece_130 (kk := ?_)
    refine i_callV C lk_X6_290 (c_X2_add l hl D (hS := hS) (x1 := ndo os) (x2 := (pcs ps i).1) (x3 := pItem (pcs ps i)) (x4 := (p : Int)) (by omega) (fun z => by unfold PV at hv; unfold ItV pItem; dsimp only; split <;> omega) (by omega)) (hcl := rfl) (hst := rfl) dX6_spreadPiece_132 (hw := hS.2.2.2.2.2.2.1) (kk := fun v132 w132 g132 => ?_)
    obtain ⟨rfl, a1, a2⟩ := g132
    refine i_goto C dX6_spreadPiece_135 (tgt := 138) (kk := ?_)
    exact i_vret C (d := dX6_spreadPiece_138) (h := by first | exact ⟨rfl, by unfold spStep; simp [hs]; exact hS, offR.rf⟩ | exact ⟨rfl, by unfold spStep; simp [hs]; exact a1, a2⟩ | exact ⟨rfl, by unfold spStep; simp [hs]; rw [hs] at a1; exact a1, a2⟩ | exact ⟨rfl, by unfold spStep; simp [hs, hqe]; exact a1, a2⟩)
  · rw [hs]
    refine i_tableIn C dX6_spreadPiece_9 (tgt := 118) (ha := by decide) (h1 := by decide) (h2 := by decide) (ho := rfl) (ht := by decide) (kk := ?_)
    rw [← hs]
    refine i_aload_n C dX6_spreadPiece_118 (kk := ?_)
    refine i_aload_n C dX6_spreadPiece_119 (kk := ?_)
    refine i_callV C lk_X6_284 (c_X2_need l hl D (hS := hS)) (hcl := rfl) (hst := rfl) dX6_spreadPiece_120 (hw := hS.2.2.2.2.2.2.1) (kk := fun v120 w120 g120 => ?_)
    obtain ⟨rfl, q120⟩ := g120
    have q120 := q120.symm
    subst q120
    refine i_iload C dX6_spreadPiece_123 (kk := ?_)
    refine i_aload_n C dX6_spreadPiece_125 (kk := ?_)
    refine i_iload_n C dX6_spreadPiece_126 (kk := ?_)
    refine i_callV C lk_X6_287 (c_X3_itemOf l hl D (hT := hT) (i := i)) (hcl := rfl) (hst := rfl) dX6_spreadPiece_127 (hw := hT.2.2.2.2.1) (kk := fun v127 w127 g127 => ?_)
    obtain ⟨rfl, q127⟩ := g127
    have q127 := q127.symm
    subst q127
    show G _ _ _ _ _ (.int (Z32 (pItem (pcs ps i))) :: _)
    refine i_iload C dX6_spreadPiece_130 (kk := ?_)
    refine i_callV C lk_X6_290 (c_X2_add l hl D (hS := hS) (x1 := ndo os) (x2 := (pcs ps i).1) (x3 := pItem (pcs ps i)) (x4 := (p : Int)) (by omega) (fun z => by unfold PV at hv; unfold ItV pItem; dsimp only; split <;> omega) (by omega)) (hcl := rfl) (hst := rfl) dX6_spreadPiece_132 (hw := hS.2.2.2.2.2.2.1) (kk := fun v132 w132 g132 => ?_)
    obtain ⟨rfl, a1, a2⟩ := g132
    refine i_goto C dX6_spreadPiece_135 (tgt := 138) (kk := ?_)
    exact i_vret C (d := dX6_spreadPiece_138) (h := by first | exact ⟨rfl, by unfold spStep; simp [hs]; exact hS, offR.rf⟩ | exact ⟨rfl, by unfold spStep; simp [hs]; exact a1, a2⟩ | exact ⟨rfl, by unfold spStep; simp [hs]; rw [hs] at a1; exact a1, a2⟩ | exact ⟨rfl, by unfold spStep; simp [hs, hqe]; exact a1, a2⟩)
  · rw [hs]
    refine i_tableIn C dX6_spreadPiece_9 (tgt := 75) (ha := by decide) (h1 := by decide) (h2 := by decide) (ho := rfl) (ht := by decide) (kk := ?_)
    refine i_aload_n C dX6_spreadPiece_75 (kk := ?_)
    refine i_aload_n C dX6_spreadPiece_76 (kk := ?_)
    refine i_aload_n C dX6_spreadPiece_77 (kk := ?_)
    refine i_iload_n C dX6_spreadPiece_78 (kk := ?_)
    refine i_callV C lk_X6_273 (c_X3_pageOf l hl D (hT := hT) (i := i)) (hcl := rfl) (hst := rfl) dX6_spreadPiece_79 (hw := hT.2.2.2.2.1) (kk := fun v79 w79 g79 => ?_)
    obtain ⟨rfl, q79⟩ := g79
    have q79 := q79.symm
    subst q79
    obtain ⟨q, hq12, hqe, hqp, os2, hM2⟩ := hQ (by omega)
    rw [hqe]
    refine i_callV C lk_X6_67 (c1_X6_pageAt l hl D (hX := hX) (hA := hA) (p := q)) (hcl := rfl) (hst := rfl) dX6_spreadPiece_82 (hw := hX) (kk := fun v82 w82 g82 => ?_)
    obtain ⟨rfl, q82⟩ := g82
    have q82 := q82.symm
    subst q82
    refine i_getf C f_X6_129 dX6_spreadPiece_85 (hw := (hP q hq12).2) (kk := ?_)
    refine i_aload_n C dX6_spreadPiece_88 (kk := ?_)
    refine i_iload_n C dX6_spreadPiece_89 (kk := ?_)
    refine i_callV C lk_X6_264 (c_X3_signOf l hl D (hT := hT) (i := i)) (hcl := rfl) (hst := rfl) dX6_spreadPiece_90 (hw := hT.2.2.2.2.1) (kk := fun v90 w90 g90 => ?_)
    obtain ⟨rfl, q90⟩ := g90
    have q90 := q90.symm
    subst q90
    refine i_callV C lk_X6_276 (c_X2_takeCalled l hl D (hS := hS) (hM := hM2) (g := (pcs ps i).2.2) (by omega) (by unfold PV at hv; omega)) (hcl := rfl) (hst := rfl) dX6_spreadPiece_93 (hw := hS.2.2.2.2.2.2.1) (kk := fun v93 w93 g93 => ?_)
    obtain ⟨rfl, a1, a2⟩ := g93
    refine i_goto C dX6_spreadPiece_96 (tgt := 138) (kk := ?_)
    exact i_vret C (d := dX6_spreadPiece_138) (h := by first | exact ⟨rfl, by unfold spStep; simp [hs]; exact hS, offR.rf⟩ | exact ⟨rfl, by unfold spStep; simp [hs]; exact a1, a2⟩ | exact ⟨rfl, by unfold spStep; simp [hs]; rw [hs] at a1; exact a1, a2⟩ | exact ⟨rfl, by unfold spStep; simp [hs, hqe]; exact a1, a2⟩)
  · rw [hs]
    refine i_tableIn C dX6_spreadPiece_9 (tgt := 99) (ha := by decide) (h1 := by decide) (h2 := by decide) (ho := rfl) (ht := by decide) (kk := ?_)
    refine i_aload_n C dX6_spreadPiece_99 (kk := ?_)
    refine i_aload_n C dX6_spreadPiece_100 (kk := ?_)
    refine i_aload_n C dX6_spreadPiece_101 (kk := ?_)
    refine i_iload_n C dX6_spreadPiece_102 (kk := ?_)
    refine i_callV C lk_X6_273 (c_X3_pageOf l hl D (hT := hT) (i := i)) (hcl := rfl) (hst := rfl) dX6_spreadPiece_103 (hw := hT.2.2.2.2.1) (kk := fun v103 w103 g103 => ?_)
    obtain ⟨rfl, q103⟩ := g103
    have q103 := q103.symm
    subst q103
    obtain ⟨q, hq12, hqe, hqp, os2, hM2⟩ := hQ (by omega)
    rw [hqe]
    refine i_callV C lk_X6_67 (c1_X6_pageAt l hl D (hX := hX) (hA := hA) (p := q)) (hcl := rfl) (hst := rfl) dX6_spreadPiece_106 (hw := hX) (kk := fun v106 w106 g106 => ?_)
    obtain ⟨rfl, q106⟩ := g106
    have q106 := q106.symm
    subst q106
    refine i_getf C f_X6_129 dX6_spreadPiece_109 (hw := (hP q hq12).2) (kk := ?_)
    refine i_callV C lk_X6_280 (c_X2_takeCalledOn l hl D (hS := hS) (hM := hM2) (by omega)) (hcl := rfl) (hst := rfl) dX6_spreadPiece_112 (hw := hS.2.2.2.2.2.2.1) (kk := fun v112 w112 g112 => ?_)
    obtain ⟨rfl, a1, a2⟩ := g112
    refine i_goto C dX6_spreadPiece_115 (tgt := 138) (kk := ?_)
    exact i_vret C (d := dX6_spreadPiece_138) (h := by first | exact ⟨rfl, by unfold spStep; simp [hs]; exact hS, offR.rf⟩ | exact ⟨rfl, by unfold spStep; simp [hs]; exact a1, a2⟩ | exact ⟨rfl, by unfold spStep; simp [hs]; rw [hs] at a1; exact a1, a2⟩ | exact ⟨rfl, by unfold spStep; simp [hs, hqe]; exact a1, a2⟩)
  · rw [hs]
    refine i_tableIn C dX6_spreadPiece_9 (tgt := 56) (ha := by decide) (h1 := by decide) (h2 := by decide) (ho := rfl) (ht := by decide) (kk := ?_)
    refine i_aload_n C dX6_spreadPiece_56 (kk := ?_)
    refine i_aload_n C dX6_spreadPiece_57 (kk := ?_)
    refine i_iload_n C dX6_spreadPiece_58 (kk := ?_)
    refine i_callV C lk_X6_264 (c_X3_signOf l hl D (hT := hT) (i := i)) (hcl := rfl) (hst := rfl) dX6_spreadPiece_59 (hw := hT.2.2.2.2.1) (kk := fun v59 w59 g59 => ?_)
    obtain ⟨rfl, q59⟩ := g59
    have q59 := q59.symm
    subst q59
    refine i_callV C lk_X6_267 (c_X2_openWhen l hl D (hS := hS) (g := (pcs ps i).2.2) (by omega) (by unfold PV at hv; omega)) (hcl := rfl) (hst := rfl) dX6_spreadPiece_62 (hw := hS.2.2.2.2.2.2.1) (kk := fun v62 w62 g62 => ?_)
    obtain ⟨rfl, a1, a2⟩ := g62
    refine i_goto C dX6_spreadPiece_65 (tgt := 138) (kk := ?_)
    exact i_vret C (d := dX6_spreadPiece_138) (h := by first | exact ⟨rfl, by unfold spStep; simp [hs]; exact hS, offR.rf⟩ | exact ⟨rfl, by unfold spStep; simp [hs]; exact a1, a2⟩ | exact ⟨rfl, by unfold spStep; simp [hs]; rw [hs] at a1; exact a1, a2⟩ | exact ⟨rfl, by unfold spStep; simp [hs, hqe]; exact a1, a2⟩)
  · rw [hs]
    refine i_tableIn C dX6_spreadPiece_9 (tgt := 68) (ha := by decide) (h1 := by decide) (h2 := by decide) (ho := rfl) (ht := by decide) (kk := ?_)
    refine i_aload_n C dX6_spreadPiece_68 (kk := ?_)
    refine i_callV C lk_X6_270 (c_X2_closeWhen l hl D (hS := hS)) (hcl := rfl) (hst := rfl) dX6_spreadPiece_69 (hw := hS.2.2.2.2.2.2.1) (kk := fun v69 w69 g69 => ?_)
    obtain ⟨rfl, a1, a2⟩ := g69
    refine i_goto C dX6_spreadPiece_72 (tgt := 138) (kk := ?_)
    exact i_vret C (d := dX6_spreadPiece_138) (h := by first | exact ⟨rfl, by unfold spStep; simp [hs]; exact hS, offR.rf⟩ | exact ⟨rfl, by unfold spStep; simp [hs]; exact a1, a2⟩ | exact ⟨rfl, by unfold spStep; simp [hs]; rw [hs] at a1; exact a1, a2⟩ | exact ⟨rfl, by unfold spStep; simp [hs, hqe]; exact a1, a2⟩)
  · rw [hs]
    refine i_tableOut C dX6_spreadPiece_9 (tgt := 138) (ha := by decide) (h1 := by decide) (ht := by decide) (kk := ?_)
    exact i_vret C (d := dX6_spreadPiece_138) (h := by first | exact ⟨rfl, by unfold spStep; simp [hs]; exact hS, offR.rf⟩ | exact ⟨rfl, by unfold spStep; simp [hs]; exact a1, a2⟩ | exact ⟨rfl, by unfold spStep; simp [hs]; rw [hs] at a1; exact a1, a2⟩ | exact ⟨rfl, by unfold spStep; simp [hs, hqe]; exact a1, a2⟩)
