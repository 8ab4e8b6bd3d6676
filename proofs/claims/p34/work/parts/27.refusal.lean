set_option maxRecDepth 100000 in
set_option maxHeartbeats 4000000 in
theorem c_X6_hasRankBelow (l : Launch) (hl : l.stackTraces = false) (D : gD) {w : wW} {τ ad : Nat → Nat} {nb tb : Nat} {σ : Sg} {s : Nat} {f : Int} (hW : WkI D w τ ad nb tb σ := by assumption) (hs : s < 4096) (hf : inR f := by omega) : CTm l D yX6_hasRankBelow cX6_hasRankBelow 4 (some .boolean) (rmL 3 0 0) [.ref (ad 0), .int (Z32 (s : Int)), .int (Z32 f)] w (fun u w1 => u = some (.int (Z32 (if hrb σ s f 12 = true then 1 else 0))) ∧ w1 = w) := by
  refine CTm_of hl false rfl (by rfl) (Nat.le_of_ble_eq_true rfl) (fun h => nomatch h) ?_
  intro G C
  show G 0 0 w [some (.ref (ad 0)), some (.int (Z32 (s : Int))), some (.int (Z32 f)), none] 0 []
  refine i_iconst C dX6_hasRankBelow_0 (kk := ?_)
  refine i_istore_n C dX6_hasRankBelow_1 (kk := ?_)
  have lp : ∀ (m j : Nat), 12 + 1 ≤ m + j → j ≤ 12 → (∀ i, i < j → ¬ (s.testBit i = true ∧ sRk σ i (sNv σ i) < f)) → G 0 0 w [some (.ref (ad 0)), some (.int (Z32 (s : Int))), some (.int (Z32 f)), some (.int (Z32 (j : Int)))] 2 [] := by
    intro m
    induction m with
    | zero => intro j h1 h2; omega
    | succ m ih =>
    intro j h1 h2 hno
    refine i_iload_n C dX6_hasRankBelow_2 (kk := ?_)
    refine i_bipush C dX6_hasRankBelow_3 (kk := ?_)
    refine i_icmp_ge C dX6_hasRankBelow_5 (tgt := 39) (kt := fun hB5 => ?_) (kf := fun hB5 => ?_)
    · refine i_iconst C dX6_hasRankBelow_39 (kk := ?_)
      exact i_zret C (d := dX6_hasRankBelow_40) (ha := Or.inl rfl) (h := ⟨by rw [if_neg (fun q => by obtain ⟨i, hi, z⟩ := hrb_iff.mp q; exact hno i (by omega) z)], rfl⟩)
    · refine i_iload_n C dX6_hasRankBelow_8 (kk := ?_)
      refine i_iload_n C dX6_hasRankBelow_9 (kk := ?_)
      refine i_callS C lk_X6_226 (c_X6_contains l hl D (s := s) (p := j) (by omega) (by omega)) (hst := rfl) dX6_hasRankBelow_10 (kk := fun v10 w10 g10 => ?_)
      obtain ⟨rfl, q10⟩ := g10
      have q10 := q10.symm
      subst q10
      refine i_if_eq C dX6_hasRankBelow_13 (tgt := 33) (ha := by split <;> decide) (kt := fun hB13 => ?_) (kf := fun hB13 => ?_)
      · have e8 : ¬ s.testBit j = true := by intro q; rw [if_pos q] at hB13; cases hB13
        have e5 : ¬ (s.testBit j = true ∧ sRk σ j (sNv σ j) < f) := fun q => e8 q.1
        refine i_iinc C dX6_hasRankBelow_33 (kk := ?_)
        refine i_goto C dX6_hasRankBelow_36 (tgt := 2) (kk := ?_)
        exact ih (j + 1) (by omega) (by omega) (fun i hi => by by_cases q : i = j; (subst q; exact e5); exact hno i (by omega))
      · have e8 : s.testBit j = true := by apply Decidable.byContradiction; intro q; rw [if_neg q] at hB13; exact hB13 rfl
        refine i_aload_n C dX6_hasRankBelow_16 (kk := ?_)
        refine i_iload_n C dX6_hasRankBelow_17 (kk := ?_)
        refine i_callV C lk_X6_67 (c_X6_pageAt l hl D (hW := hW) (p := j)) (hcl := rfl) (hst := rfl) dX6_hasRankBelow_18 (hw := hW.obj) (kk := fun v18 w18 g18 => ?_)
        obtain ⟨rfl, q18⟩ := g18
        have q18 := q18.symm
        subst q18
        refine i_getf C f_X6_73 dX6_hasRankBelow_21 (hw := hW.page (p := j) (by omega)) (kk := ?_)
        refine i_getf C f_X6_110 dX6_hasRankBelow_24 (hw := hW.ver (p := j) (by omega)) (kk := ?_)
        refine i_iload_n C dX6_hasRankBelow_27 (kk := ?_)
        have hr1 := ((hW.1.2.1 j (by omega)).2.2.2.2.2 _ (Nat.le_refl _)).2.2
        refine i_icmp_ge C dX6_hasRankBelow_28 (tgt := 33) (kt := fun hB28 => ?_) (kf := fun hB28 => ?_)
        · have e5 : ¬ (s.testBit j = true ∧ sRk σ j (sNv σ j) < f) := fun q => by omega
          refine i_iinc C dX6_hasRankBelow_33 (kk := ?_)
          refine i_goto C dX6_hasRankBelow_36 (tgt := 2) (kk := ?_)
          exact ih (j + 1) (by omega) (by omega) (fun i hi => by by_cases q : i = j; (subst q; exact e5); exact hno i (by omega))
        · refine i_iconst C dX6_hasRankBelow_31 (kk := ?_)
          exact i_zret C (d := dX6_hasRankBelow_32) (ha := Or.inr rfl) (h := ⟨by rw [if_pos (hrb_iff.mpr ⟨j, by omega, e8, by omega⟩)], rfl⟩)
  exact lp 13 0 (by omega) (by omega) (fun i hi => absurd hi (Nat.not_lt_zero i))

set_option maxRecDepth 100000 in
set_option maxHeartbeats 4000000 in
theorem c_X6_refusalOf (l : Launch) (hl : l.stackTraces = false) (D : gD) {w : wW} {τ ad : Nat → Nat} {nb tb : Nat} {σ : Sg} {p r2 t ta te tc : Nat} {ps : List Pc3} (hW : WkI D w τ ad nb tb σ := by assumption) (hT : TxT D w τ r2 t ta te tc ps) (hr : r2 + 4 ≤ 10 ∨ 26 ≤ r2) (hp : p < 12 := by omega) : CTm l D yX6_refusalOf cX6_refusalOf 4 (some .int) (rmL 5 0 0) [.ref (ad 0), .int (Z32 (p : Int)), .ref t] w (fun u w1 => u = some (.int (Z32 (refS σ p ps))) ∧ WkI D w1 τ ad nb tb σ ∧ offR τ w w1 tb (tb + 6) ∧ (refS σ p ps = -1 → TrOK D w1 τ ad tb (upT (sT σ) p ps))) := by
  refine CTm_of hl false rfl (by rfl) (Nat.le_of_ble_eq_true rfl) (fun h => nomatch h) ?_
  intro G C
  show G 0 0 w [some (.ref (ad 0)), some (.int (Z32 (p : Int))), some (.ref t), none] 0 []
  obtain ⟨hb, -, ⟨fc, fo, fr, fd, fx, kN, kO⟩, gc, go, gr, gd, gx, kM⟩ := hW.2.1
  have hRs := rsT_lt (T := (upT (sT σ) p ps)) (p := p)
  refine i_aload_n C dX6_refusalOf_0 (kk := ?_)
  refine i_getf C f_X6_27 dX6_refusalOf_1 (hw := hW.obj) (kk := ?_)
  refine i_aload_n C dX6_refusalOf_4 (kk := ?_)
  refine i_getf C f_X6_23 dX6_refusalOf_5 (hw := hW.obj) (kk := ?_)
  refine i_callV C lk_X6_215 (c_X0_takeCalls l hl D (hN := kM) (hM := kN) (by omega)) (hcl := rfl) (hst := rfl) dX6_refusalOf_8 (hw := kM.2.2.2.2.2.2.1) (kk := fun v8 w8 g8 => ?_)
  obtain ⟨rfl, ⟨f1, g1, kM1, e1, e2⟩, o1⟩ := g8
  have hW1 := hW.trial kM1 o1
  have kN1 := kN.off o1 (by omega)
  have hT1 := hT.off o1 (by omega)
  refine i_aload_n C dX6_refusalOf_11 (kk := ?_)
  refine i_getf C f_X6_27 dX6_refusalOf_12 (hw := hW1.obj) (kk := ?_)
  refine i_iload_n C dX6_refusalOf_15 (kk := ?_)
  refine i_aload_n C dX6_refusalOf_16 (kk := ?_)
  refine i_callV C lk_X6_219 (c_X0_setCalls l hl D (hN := kM1) (hT := hT1) (by omega)) (hcl := rfl) (hst := rfl) dX6_refusalOf_17 (hw := kM1.2.2.2.2.2.2.1) (kk := fun v17 w17 g17 => ?_)
  obtain ⟨rfl, ⟨f2, g2, kM2, e3, e4⟩, o2⟩ := g17
  have hW2 := hW1.trial kM2 o2
  have kN2 := kN1.off o2 (by omega)
  have o2 := o1.trans o2
  have hf := net_fc (ps := ps) kO e1 e3
  have hg := net_fo (ps := ps) kO e2 e4
  refine i_aload_n C dX6_refusalOf_20 (kk := ?_)
  refine i_getf C f_X6_27 dX6_refusalOf_21 (hw := hW2.obj) (kk := ?_)
  refine i_callV C lk_X6_223 (c_X0_findReached l hl D (hN := kM2)) (hcl := rfl) (hst := rfl) dX6_refusalOf_24 (hw := kM2.2.2.2.2.2.2.1) (kk := fun v24 w24 g24 => ?_)
  obtain ⟨rfl, ⟨f3, kM3, e5⟩, o3⟩ := g24
  have hW3 := hW2.trial kM3 o3
  have kN3 := kN2.off o3 (by omega)
  have o3 := o2.trans o3
  have hfr := net_fr hf e5 kM3.2.2.2.2.2.2.2.2.2.2.2.2.2.2.1
  have hfp := hfr p hp
  refine i_aload_n C dX6_refusalOf_27 (kk := ?_)
  refine i_getf C f_X6_27 dX6_refusalOf_28 (hw := hW3.obj) (kk := ?_)
  refine i_iload_n C dX6_refusalOf_31 (kk := ?_)
  refine i_callV C lk_X6_123 (c_X0_reachedFrom l hl D (hN := kM3) (p := p)) (hcl := rfl) (hst := rfl) dX6_refusalOf_32 (hw := kM3.2.2.2.2.2.2.1) (kk := fun v32 w32 g32 => ?_)
  obtain ⟨rfl, q32⟩ := g32
  have q32 := q32.symm
  subst q32
  rw [hfp]
  refine i_iload_n C dX6_refusalOf_35 (kk := ?_)
  refine i_callS C lk_X6_226 (c_X6_contains l hl D (s := rsT (upT (sT σ) p ps) p) (p := p) (by omega) (by omega)) (hst := rfl) dX6_refusalOf_36 (kk := fun v36 w36 g36 => ?_)
  obtain ⟨rfl, q36⟩ := g36
  have q36 := q36.symm
  subst q36
  refine i_if_eq C dX6_refusalOf_39 (tgt := 45) (ha := by split <;> decide) (kt := fun hB39 => ?_) (kf := fun hB39 => ?_)
  · have e8 : ¬ (rsT (upT (sT σ) p ps) p).testBit p = true := by intro q; rw [if_pos q] at hB39; cases hB39
    have hac := gAcy_upT hW.1 hp e8
    refine i_aload_n C dX6_refusalOf_45 (kk := ?_)
    refine i_getf C f_X6_27 dX6_refusalOf_46 (hw := hW3.obj) (kk := ?_)
    refine i_callV C lk_X6_229 (c_X0_findDepths l hl D (hN := kM3)) (hcl := rfl) (hst := rfl) dX6_refusalOf_49 (hw := kM3.2.2.2.2.2.2.1) (kk := fun v49 w49 g49 => ?_)
    obtain ⟨rfl, ⟨f4, kM4, e6⟩, o4⟩ := g49
    have hW4 := hW3.trial kM4 o4
    have kN4 := kN3.off o4 (by omega)
    have o4 := o3.trans o4
    have hfd := net_fd hf hac e6
    refine i_aload_n C dX6_refusalOf_52 (kk := ?_)
    refine i_getf C f_X6_27 dX6_refusalOf_53 (hw := hW4.obj) (kk := ?_)
    refine i_callV C lk_X6_232 (c_X0_greatestDepth l hl D (hN := kM4)) (hcl := rfl) (hst := rfl) dX6_refusalOf_56 (hw := kM4.2.2.2.2.2.2.1) (kk := fun v56 w56 g56 => ?_)
    obtain ⟨rfl, q56⟩ := g56
    have q56 := q56.symm
    subst q56
    have e9 : gtz (cz f4) 12 = gtz (cz (depT (upT (sT σ) p ps))) 12 := gtz_congF (fun j hj => by unfold cz; rw [hfd j hj])
    have hgR : inR (gtz (cz f4) 12) := gtz_R (fun j hj => by have := (e6 j hj).2; unfold cz; omega)
    rw [e9] at hgR ⊢
    refine i_iconst C dX6_refusalOf_59 (kk := ?_)
    refine i_icmp_le C dX6_refusalOf_60 (tgt := 66) (kt := fun hB60 => ?_) (kf := fun hB60 => ?_)
    · have h5 : ¬ 5 < gtz (cz (depT (upT (sT σ) p ps))) 12 := by omega
      refine i_aload_n C dX6_refusalOf_66 (kk := ?_)
      refine i_getf C f_X6_27 dX6_refusalOf_67 (hw := hW4.obj) (kk := ?_)
      refine i_callV C lk_X6_236 (c_X0_findExtents l hl D (hN := kM4)) (hcl := rfl) (hst := rfl) dX6_refusalOf_70 (hw := kM4.2.2.2.2.2.2.1) (kk := fun v70 w70 g70 => ?_)
      obtain ⟨rfl, ⟨f5, kM5, e7⟩, o5⟩ := g70
      have hW5 := hW4.trial kM5 o5
      have kN5 := kN4.off o5 (by omega)
      have o5 := o4.trans o5
      have hfx := net_fx hf hg hac hfd (by omega) e7
      refine i_aload_n C dX6_refusalOf_73 (kk := ?_)
      refine i_getf C f_X6_27 dX6_refusalOf_74 (hw := hW5.obj) (kk := ?_)
      refine i_callV C lk_X6_239 (c_X0_greatestExtent l hl D (hN := kM5)) (hcl := rfl) (hst := rfl) dX6_refusalOf_77 (hw := kM5.2.2.2.2.2.2.1) (kk := fun v77 w77 g77 => ?_)
      obtain ⟨rfl, q77⟩ := g77
      have q77 := q77.symm
      subst q77
      have e9 : gtz (cz f5) 12 = min (gtz (cz (extT (upT (sT σ) p ps))) 12) 101 := by rw [show gtz (cz f5) 12 = gtz (cz (fun j => min (extT (upT (sT σ) p ps) j) 101)) 12 from gtz_congF (fun j hj => by unfold cz; rw [hfx j hj]), gtz_min]; rfl
      have hg0 := gtz_0 (cz (extT (upT (sT σ) p ps))) 12
      rw [e9]
      refine i_bipush C dX6_refusalOf_80 (kk := ?_)
      refine i_icmp_le C dX6_refusalOf_82 (tgt := 88) (kt := fun hB82 => ?_) (kf := fun hB82 => ?_)
      · have h6 : ¬ 100 < gtz (cz (extT (upT (sT σ) p ps))) 12 := by omega
        refine i_aload_n C dX6_refusalOf_88 (kk := ?_)
        refine i_getf C f_X6_27 dX6_refusalOf_89 (hw := hW5.obj) (kk := ?_)
        refine i_iload_n C dX6_refusalOf_92 (kk := ?_)
        refine i_callV C lk_X6_123 (c_X0_reachedFrom l hl D (hN := kM5) (p := p)) (hcl := rfl) (hst := rfl) dX6_refusalOf_93 (hw := kM5.2.2.2.2.2.2.1) (kk := fun v93 w93 g93 => ?_)
        obtain ⟨rfl, q93⟩ := g93
        have q93 := q93.symm
        subst q93
        rw [hfp]
        refine i_aload_n C dX6_refusalOf_96 (kk := ?_)
        refine i_getf C f_X6_23 dX6_refusalOf_97 (hw := hW5.obj) (kk := ?_)
        refine i_iload_n C dX6_refusalOf_100 (kk := ?_)
        refine i_callV C lk_X6_123 (c_X0_reachedFrom l hl D (hN := kN5) (p := p)) (hcl := rfl) (hst := rfl) dX6_refusalOf_101 (hw := kN5.2.2.2.2.2.2.1) (kk := fun v101 w101 g101 => ?_)
        obtain ⟨rfl, q101⟩ := g101
        have q101 := q101.symm
        subst q101
        rw [kO.fr kN.2.2.2.2.2.2.2.2.2.2.2.2.2.2.1 p hp]
        refine i_iconst C dX6_refusalOf_104 (kk := ?_)
        refine i_ixor C dX6_refusalOf_105 (hz := rfl) (kk := ?_)
        refine i_iand C dX6_refusalOf_106 (hz := Z32_andnot hRs) (kk := ?_)
        refine i_istore_n C dX6_refusalOf_107 (kk := ?_)
        refine i_aload_n C dX6_refusalOf_108 (kk := ?_)
        refine i_iload_n C dX6_refusalOf_109 (kk := ?_)
        refine i_aload_n C dX6_refusalOf_110 (kk := ?_)
        refine i_iload_n C dX6_refusalOf_111 (kk := ?_)
        refine i_callV C lk_X6_85 (c_X6_forceOn l hl D (hW := hW5) (kN := kN5) (p := p)) (hcl := rfl) (hst := rfl) dX6_refusalOf_112 (hw := hW5.obj) (kk := fun v112 w112 g112 => ?_)
        obtain ⟨rfl, q112⟩ := g112
        have q112 := q112.symm
        subst q112
        rw [frcN_cong (kO.fr kN.2.2.2.2.2.2.2.2.2.2.2.2.2.2.1) 12 (Nat.le_refl _)]
        show G _ _ _ _ _ (.int (Z32 (frcS σ p)) :: _)
        have hfR := frcS_R hW.1 hp
        refine i_callV C lk_X6_242 (c_X6_hasRankBelow l hl D (hW := hW5) (andnot_lt hRs)) (hcl := rfl) (hst := rfl) dX6_refusalOf_115 (hw := hW5.obj) (kk := fun v115 w115 g115 => ?_)
        obtain ⟨rfl, q115⟩ := g115
        have q115 := q115.symm
        subst q115
        refine i_if_eq C dX6_refusalOf_118 (tgt := 126) (ha := by split <;> decide) (kt := fun hB118 => ?_) (kf := fun hB118 => ?_)
        · have e7 : ¬ hrb σ (rsT (upT (sT σ) p ps) p &&& (rsT (sT σ) p ^^^ 4095)) (frcS σ p) 12 = true := by intro q; rw [if_pos q] at hB118; cases hB118
          have er : refS σ p ps = -1 := by unfold refS; rw [if_neg e8, if_neg h5, if_neg h6, if_neg e7]
          have h7 : ∀ q, q < 12 → depT (upT (sT σ) p ps) q ≤ 5 ∧ extT (upT (sT σ) p ps) q ≤ 100 ∧ ¬ rchT (upT (sT σ) p ps) q q := fun q hq => ⟨by have h : ((depT (upT (sT σ) p ps) q : Nat) : Int) ≤ gtz (cz (depT (upT (sT σ) p ps))) 12 := gtz_ge (f := cz (depT (upT (sT σ) p ps))) hq; omega, by have h : ((extT (upT (sT σ) p ps) q : Nat) : Int) ≤ gtz (cz (extT (upT (sT σ) p ps))) 12 := gtz_ge (f := cz (extT (upT (sT σ) p ps))) hq; omega, hac q⟩
          have h8 : TrOK D w70 τ ad tb (upT (sT σ) p ps) := ⟨⟨_, _, _, _, _, kM5, fun q hq => ⟨fun x hx => ⟨by rw [hf _ (by omega), fcT_at _ hx], by rw [hfr q hq]; exact rsT_bit hq hx⟩, hg q hq, hfd q hq, by rw [hfx q hq]; have := (h7 q hq).2.1; omega⟩⟩, h7⟩
          refine i_iconst C dX6_refusalOf_126 (kk := ?_)
          exact i_iret C (d := dX6_refusalOf_127) (h := ⟨by rw [er], hW5, o5, fun z => by first | exact h8 | (rw [er] at z; cases z)⟩)
        · have e7 : hrb σ (rsT (upT (sT σ) p ps) p &&& (rsT (sT σ) p ^^^ 4095)) (frcS σ p) 12 = true := by apply Decidable.byContradiction; intro q; rw [if_neg q] at hB118; exact hB118 rfl
          have er : refS σ p ps = -6 := by unfold refS; rw [if_neg e8, if_neg h5, if_neg h6, if_pos e7]
          refine i_bipush C dX6_refusalOf_121 (kk := ?_)
          refine i_goto C dX6_refusalOf_123 (tgt := 127) (kk := ?_)
          exact i_iret C (d := dX6_refusalOf_127) (h := ⟨by rw [er], hW5, o5, fun z => by first | exact h8 | (rw [er] at z; cases z)⟩)
      · have h6 : 100 < gtz (cz (extT (upT (sT σ) p ps))) 12 := by omega
        have er : refS σ p ps = -5 := by unfold refS; rw [if_neg e8, if_neg h5, if_pos h6]
        refine i_bipush C dX6_refusalOf_85 (kk := ?_)
        exact i_iret C (d := dX6_refusalOf_87) (h := ⟨by rw [er], hW5, o5, fun z => by rw [er] at z; cases z⟩)
    · have er : refS σ p ps = -4 := by unfold refS; rw [if_neg e8, if_pos (by omega)]
      refine i_bipush C dX6_refusalOf_63 (kk := ?_)
      exact i_iret C (d := dX6_refusalOf_65) (h := ⟨by rw [er], hW4, o4, fun z => by rw [er] at z; cases z⟩)
  · have e8 : (rsT (upT (sT σ) p ps) p).testBit p = true := by apply Decidable.byContradiction; intro q; rw [if_neg q] at hB39; exact hB39 rfl
    have er : refS σ p ps = -3 := if_pos e8
    refine i_bipush C dX6_refusalOf_42 (kk := ?_)
    exact i_iret C (d := dX6_refusalOf_44) (h := ⟨by rw [er], hW3, o3, fun z => by rw [er] at z; cases z⟩)
