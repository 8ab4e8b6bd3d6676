/-- the reference's rows alone, without what holds of the state -/
def MdJ (D : gD) (w0 w : wW) (τ ad : Nat → Nat) (σ : Sg) (la : Int) : Prop := ∃ F dn op sh, MdR D w0 w τ ad F dn op sh la ∧ MdV σ F dn op
theorem MdI.of {D : gD} {w0 w : wW} {τ ad : Nat → Nat} {σ : Sg} {la : Int} (hS : SgOK σ) (h : MdJ D w0 w τ ad σ la) : MdI D w0 w τ ad σ la := ⟨hS, h⟩
theorem dep_le {T : Nat → List Pc3} (ha : gAcy (fcT T)) {p : Nat} (hp : p < 12) : depT T p ≤ 11 := dpN_top ha 11 p hp
theorem lt_hrb {σ : Sg} {s : Nat} {f : Int} (h : ∀ q, q < 12 → ¬ (s.testBit q = true ∧ sRk σ q (sNv σ q) < f)) : ¬ hrb σ s f 12 = true := fun z => by
  obtain ⟨q, h1, h2, h3⟩ := hrb_iff.mp z
  exact h q h1 ⟨h2, h3⟩
def rz (r : Int) : Int := if r = -1 then 0 else r
set_option maxRecDepth 100000 in
set_option maxHeartbeats 4000000 in
theorem c_X7_refusal (l : Launch) (hl : l.stackTraces = false) (D : gD) {w0 w : wW} {τ ad : Nat → Nat} {F : Nat → Nat → Int} {dn op sh la : Int} {σ : Sg} {k p : Nat} {ver rv : Int} {ps : List Pc3} (hM : MdR D w0 w τ ad F dn op sh la := by assumption) (hS : SgOK σ) (hV : MdV σ F dn op) (hSrc : Src F dn ver ps) (hk : k < 6) (hp : p < 12) (hvr : inR ver) (hrv : ∀ v : Nat, ver = (v : Int) → F 5 v = rv) (hrR : inR rv) : CTm l D yX7_refusal cX7_refusal 7 (some .int) (rmL 4 0 0) [.ref (ad 5000), .int (Z32 (k : Int)), .int (Z32 (p : Int)), .int (Z32 ver)] w (fun u w1 => u = some (.int (Z32 (if (sUr σ k < frcS σ p ∨ (ver ≠ -1 ∧ rv < frcS σ p)) then -2 else rz (refS σ p ps)))) ∧ ∃ F1, MdR D w0 w1 τ ad F1 dn op sh la ∧ ∀ j, j ≤ 8 → F1 j = F j) := by
  refine CTm_of hl false rfl (by rfl) (Nat.le_of_ble_eq_true rfl) (fun h => nomatch h) ?_
  intro G C
  show G 0 0 w [some (.ref (ad 5000)), some (.int (Z32 (k : Int))), some (.int (Z32 (p : Int))), some (.int (Z32 ver)), none, none, none] 0 []
  refine i_aload_n C dX7_refusal_0 (kk := ?_)
  refine i_callV C lk_X7_112 (c_X7_laysNow l hl D (hM := hM) hS hV) (hcl := rfl) (hst := rfl) dX7_refusal_1 (hw := hM.obj) (kk := fun v1 w1 g1 => ?_)
  obtain ⟨rfl, F2, hM, er2, hcal, hrs⟩ := g1
  have hV2 := hV.congr (F' := F2) (fun j hj => er2 j (by omega) (by omega) (by omega))
  have hSrc2 := hSrc.congr (F' := F2) (fun j hj => er2 j (by omega) (by omega) (by omega))
  have hfR := frcS_R hS hp
  have huR := hS.2.2 k hk
  refine i_aload_n C dX7_refusal_4 (kk := ?_)
  refine i_iload_n C dX7_refusal_5 (kk := ?_)
  refine i_callV C lk_X7_115 (c_X7_forceOf l hl D (hM := hM) (p := p) (lk := sLk σ) (fr := rsT (sT σ)) hp (fun j hj => (hV2.2.2.2.1 j hj).2.1) hrs (fun j hj => (hS.2.1 j hj).2.1) (fun j hj => rsT_lt)) (hcl := rfl) (hst := rfl) dX7_refusal_6 (hw := hM.obj) (kk := fun v6 w6 g6 => ?_)
  obtain ⟨rfl, q6⟩ := g6
  have q6 := q6.symm
  subst q6
  show G _ _ _ _ _ (.int (Z32 (frcS σ p)) :: _)
  refine i_istore C dX7_refusal_9 (kk := ?_)
  refine i_aload_n C dX7_refusal_11 (kk := ?_)
  refine i_getf C f_X7_37 dX7_refusal_12 (hw := hM.obj) (kk := ?_)
  refine i_iload_n C dX7_refusal_15 (kk := ?_)
  refine m_ial C hM 11 (p) (N := 12) dX7_refusal_16 (kk := ?_)
  rw [hrs p hp]
  refine i_istore C dX7_refusal_17 (kk := ?_)
  refine i_aload_n C dX7_refusal_19 (kk := ?_)
  refine i_getf C f_X7_28 dX7_refusal_20 (hw := hM.obj) (kk := ?_)
  refine i_iload_n C dX7_refusal_23 (kk := ?_)
  refine m_ial C hM 8 (k) (N := 6) dX7_refusal_24 (kk := ?_)
  rw [hV2.2.2.2.2 k hk]
  refine i_iload C dX7_refusal_25 (kk := ?_)
  have jn : ¬ (sUr σ k < frcS σ p ∨ (ver ≠ -1 ∧ rv < frcS σ p)) → G 0 0 w1 [some (.ref (ad 5000)), some (.int (Z32 (k : Int))), some (.int (Z32 (p : Int))), some (.int (Z32 ver)), some (.int (Z32 (frcS σ p))), some (.int (Z32 (rsT (sT σ) p : Int))), none] 49 [] := by
    intro hl9
    refine i_aload_n C dX7_refusal_49 (kk := ?_)
    refine i_iload_n C dX7_refusal_50 (kk := ?_)
    refine i_iload_n C dX7_refusal_51 (kk := ?_)
    refine i_callV C lk_X7_101 (c_X7_laysCalls l hl D (hM := hM) (p := p) hSrc2 hp hvr) (hcl := rfl) (hst := rfl) dX7_refusal_52 (hw := hM.obj) (kk := fun v52 w52 g52 => ?_)
    obtain ⟨rfl, F3, hM, er3, e10, e9, ew⟩ := g52
    have hT30 : ∀ q, q < 12 → ((upT (sT σ) p ps) q).length ≤ 30 := fun q hq => by
      by_cases z : q = p
      · subst z; rw [upT_eq]; exact hSrc.2.1
      · rw [upT_ne z]; exact ((hS.2.1 q hq).2.2.2.2.2 _ (Nat.le_refl _)).1.2.2
    have hcal3 : cal (upT (sT σ) p ps) F3 := ⟨fun m hm => by
      rw [fcT_upT]
      by_cases z : m / 12 = p
      · rw [if_pos z, show m = 12 * p + m % 12 by omega, e9 (m % 12) (by omega), show (12 * p + m % 12) % 12 = m % 12 by omega]
      · rw [if_neg z, ew m (by omega)]; exact hcal.1 m hm, fun q hq => by
      rw [e10]
      unfold foT
      by_cases z : q = p
      · subst z; rw [upz_eq, upT_eq]
      · rw [upz_ne z, upT_ne z]; exact hcal.2 q hq⟩
    refine i_aload_n C dX7_refusal_55 (kk := ?_)
    refine i_callV C lk_X7_105 (c_X7_laysReached l hl D (hM := hM) (fc := fcT (upT (sT σ) p ps)) hcal3.1 (fun m hm => fcT_le hT30 hm)) (hcl := rfl) (hst := rfl) dX7_refusal_56 (hw := hM.obj) (kk := fun v56 w56 g56 => ?_)
    obtain ⟨rfl, F4, hM, er4, gg, eg, gb, hg⟩ := g56
    have hrp : F4 11 p = (rsT (upT (sT σ) p ps) p : Int) := by rw [eg p hp, eq_bits (gb p) rsT_lt (fun q hq => (hg p q hp).trans (rsT_bit hp hq).symm)]
    have hRs := rsT_lt (T := (upT (sT σ) p ps)) (p := p)
    have he8 : ∀ j, j ≤ 8 → F4 j = F j := fun j hj => by rw [er4 j (by omega), er3 j (by omega) (by omega), er2 j (by omega) (by omega) (by omega)]
    refine i_aload_n C dX7_refusal_59 (kk := ?_)
    refine i_getf C f_X7_37 dX7_refusal_60 (hw := hM.obj) (kk := ?_)
    refine i_iload_n C dX7_refusal_63 (kk := ?_)
    refine m_ial C hM 11 (p) (N := 12) dX7_refusal_64 (kk := ?_)
    rw [hrp]
    refine i_iload_n C dX7_refusal_65 (kk := ?_)
    refine i_callS C lk_X7_108 (c_X7_has l hl D (s := rsT (upT (sT σ) p ps) p) (p := p) (by omega) (by omega)) (hst := rfl) dX7_refusal_66 (kk := fun v66 w66 g66 => ?_)
    obtain ⟨rfl, q66⟩ := g66
    have q66 := q66.symm
    subst q66
    refine i_if_eq C dX7_refusal_69 (tgt := 75) (ha := by rcases bz_R ((rsT (upT (sT σ) p ps) p).testBit p = true) with h | h <;> omega) (kt := fun hB69 => ?_) (kf := fun hB69 => ?_)
    · have e8 := bz_z.mp hB69
      have hac := gAcy_upT hS hp e8
      refine i_aload_n C dX7_refusal_75 (kk := ?_)
      refine i_callV C lk_X7_118 (c_X7_measures l hl D (hM := hM) (T := (upT (sT σ) p ps)) hT30 ⟨fun m hm => by rw [er4 9 (by decide)]; exact hcal3.1 m hm, fun q hq => by rw [er4 10 (by decide)]; exact hcal3.2 q hq⟩ hac) (hcl := rfl) (hst := rfl) dX7_refusal_76 (hw := hM.obj) (kk := fun v76 w76 g76 => ?_)
      obtain ⟨rfl, F5, hM, er5, hme⟩ := g76
      have he8 : ∀ j, j ≤ 8 → F5 j = F j := fun j hj => by rw [er5 j (by omega) (by omega)]; exact he8 j hj
      have hV5 := hV.congr (F' := F5) he8
      have hrp5 : F5 11 p = (rsT (upT (sT σ) p ps) p : Int) := by rw [er5 11 (by decide) (by decide)]; exact hrp
      have hg1 : gtz (F5 12) 12 = gtz (cz (depT (upT (sT σ) p ps))) 12 := gtz_congF (fun j hj => (hme j hj).1)
      have hg2 : gtz (F5 13) 12 = min (gtz (cz (extT (upT (sT σ) p ps))) 12) 1000 := by
        have h := gtz_min (f := extT (upT (sT σ) p ps)) (M := 1000) 12
        rw [gtz_congF (g := cz (fun j => min (extT (upT (sT σ) p ps) j) 1000)) (fun j hj => (hme j hj).2), h]; rfl
      have hb1 : ∀ j, j < 12 → 0 ≤ F5 12 j ∧ F5 12 j ≤ 2000 := fun j hj => by rw [(hme j hj).1]; have := dep_le hac hj; omega
      have hb2 : ∀ j, j < 12 → 0 ≤ F5 13 j ∧ F5 13 j ≤ 2000 := fun j hj => by rw [(hme j hj).2]; omega
      have hgR1 := gtzR hb1 12 (Nat.le_refl _)
      have hgR2 := gtzR hb2 12 (Nat.le_refl _)
      refine i_aload_n C dX7_refusal_79 (kk := ?_)
      refine i_iconst C dX7_refusal_80 (kk := ?_)
      refine i_callV C lk_X7_121 (c1_X7_greatest l hl D (hM := hM) hb1) (hcl := rfl) (hst := rfl) dX7_refusal_81 (hw := hM.obj) (kk := fun v81 w81 g81 => ?_)
      obtain ⟨rfl, q81⟩ := g81
      have q81 := q81.symm
      subst q81
      refine i_iconst C dX7_refusal_84 (kk := ?_)
      refine i_icmp_le C dX7_refusal_85 (tgt := 91) (kt := fun hB85 => ?_) (kf := fun hB85 => ?_)
      · have h5 : ¬ 5 < gtz (cz (depT (upT (sT σ) p ps))) 12 := by omega
        refine i_aload_n C dX7_refusal_91 (kk := ?_)
        refine i_iconst C dX7_refusal_92 (kk := ?_)
        refine i_callV C lk_X7_121 (c0_X7_greatest l hl D (hM := hM) hb2) (hcl := rfl) (hst := rfl) dX7_refusal_93 (hw := hM.obj) (kk := fun v93 w93 g93 => ?_)
        obtain ⟨rfl, q93⟩ := g93
        have q93 := q93.symm
        subst q93
        refine i_bipush C dX7_refusal_96 (kk := ?_)
        refine i_icmp_le C dX7_refusal_98 (tgt := 104) (kt := fun hB98 => ?_) (kf := fun hB98 => ?_)
        · have h6 : ¬ 100 < gtz (cz (extT (upT (sT σ) p ps))) 12 := by omega
          refine i_iconst C dX7_refusal_104 (kk := ?_)
          refine i_istore C dX7_refusal_105 (kk := ?_)
          have lp : ∀ (m j : Nat), 12 + 1 ≤ m + j → j ≤ 12 → (∀ i, i < j → ¬ ((rsT (upT (sT σ) p ps) p &&& (rsT (sT σ) p ^^^ 4095)).testBit i = true ∧ sRk σ i (sNv σ i) < frcS σ p)) → G 0 0 w76 [some (.ref (ad 5000)), some (.int (Z32 (k : Int))), some (.int (Z32 (p : Int))), some (.int (Z32 ver)), some (.int (Z32 (frcS σ p))), some (.int (Z32 (rsT (sT σ) p : Int))), some (.int (Z32 (j : Int)))] 107 [] := by
            intro m
            induction m with
            | zero => intro j h1 h2; omega
            | succ m ih =>
            intro j h1 h2 hno
            refine i_iload C dX7_refusal_107 (kk := ?_)
            refine i_bipush C dX7_refusal_109 (kk := ?_)
            refine i_icmp_ge C dX7_refusal_111 (tgt := 158) (kt := fun hB111 => ?_) (kf := fun hB111 => ?_)
            · have er : refS σ p ps = -1 := by unfold refS; rw [if_neg e8, if_neg h5, if_neg h6, if_neg (lt_hrb (fun q hq => hno q (by omega)))]
              refine i_iconst C dX7_refusal_158 (kk := ?_)
              exact i_iret C (d := dX7_refusal_159) (h := ⟨by rw [if_neg hl9, er]; rfl, _, hM, he8⟩)
            · have hj12 : j < 12 := by omega
              have h20 := (hS.2.1 j hj12).1
              have hrk := ((hS.2.1 j hj12).2.2.2.2.2 _ (Nat.le_refl _)).2.2
              refine i_aload_n C dX7_refusal_114 (kk := ?_)
              refine i_getf C f_X7_37 dX7_refusal_115 (hw := hM.obj) (kk := ?_)
              refine i_iload_n C dX7_refusal_118 (kk := ?_)
              refine m_ial C hM 11 (p) (N := 12) dX7_refusal_119 (kk := ?_)
              rw [hrp5]
              refine i_iload C dX7_refusal_120 (kk := ?_)
              refine i_iconst C dX7_refusal_122 (kk := ?_)
              refine i_ixor C dX7_refusal_123 (hz := rfl) (kk := ?_)
              refine i_iand C dX7_refusal_124 (hz := Z32_andnot hRs) (kk := ?_)
              have hAn := andnot_lt (b := rsT (sT σ) p) hRs
              refine i_iload C dX7_refusal_125 (kk := ?_)
              refine i_callS C lk_X7_108 (c_X7_has l hl D (s := rsT (upT (sT σ) p ps) p &&& (rsT (sT σ) p ^^^ 4095)) (p := j) (by omega) (by omega)) (hst := rfl) dX7_refusal_127 (kk := fun v127 w127 g127 => ?_)
              obtain ⟨rfl, q127⟩ := g127
              have q127 := q127.symm
              subst q127
              refine i_if_eq C dX7_refusal_130 (tgt := 152) (ha := by rcases bz_R ((rsT (upT (sT σ) p ps) p &&& (rsT (sT σ) p ^^^ 4095)).testBit j = true) with h | h <;> omega) (kt := fun hB130 => ?_) (kf := fun hB130 => ?_)
              · have hq9 := bz_z.mp hB130
                have hq8 : ¬ ((rsT (upT (sT σ) p ps) p &&& (rsT (sT σ) p ^^^ 4095)).testBit j = true ∧ sRk σ j (sNv σ j) < frcS σ p) := fun z => hq9 z.1
                refine i_iinc C dX7_refusal_152 (kk := ?_)
                refine i_goto C dX7_refusal_155 (tgt := 107) (kk := ?_)
                exact ih (j + 1) (by omega) (by omega) (fun i hi => by by_cases z : i = j; (rw [z]; exact hq8); exact hno i (by omega))
              · have hq9 := bz_ne.mp hB130
                refine i_aload_n C dX7_refusal_133 (kk := ?_)
                refine i_getf C f_X7_19 dX7_refusal_134 (hw := hM.obj) (kk := ?_)
                refine i_aload_n C dX7_refusal_137 (kk := ?_)
                refine i_iload C dX7_refusal_138 (kk := ?_)
                refine i_callV C lk_X7_97 (c_X7_now l hl D (hM := hM) (p := j) (v := sNv σ j) hj12 (hV5.2.2.2.1 j hj12).1 h20) (hcl := rfl) (hst := rfl) dX7_refusal_140 (hw := hM.obj) (kk := fun v140 w140 g140 => ?_)
                obtain ⟨rfl, q140⟩ := g140
                have q140 := q140.symm
                subst q140
                refine m_ial C hM 5 (21 * j + sNv σ j) (N := 252) dX7_refusal_143 (kk := ?_)
                rw [((hV5.2.2.2.1 j hj12).2.2 _ (Nat.le_refl _)).2.1]
                refine i_iload C dX7_refusal_144 (kk := ?_)
                refine i_icmp_ge C dX7_refusal_146 (tgt := 152) (kt := fun hB146 => ?_) (kf := fun hB146 => ?_)
                · have hq8 : ¬ ((rsT (upT (sT σ) p ps) p &&& (rsT (sT σ) p ^^^ 4095)).testBit j = true ∧ sRk σ j (sNv σ j) < frcS σ p) := fun z => by omega
                  refine i_iinc C dX7_refusal_152 (kk := ?_)
                  refine i_goto C dX7_refusal_155 (tgt := 107) (kk := ?_)
                  exact ih (j + 1) (by omega) (by omega) (fun i hi => by by_cases z : i = j; (rw [z]; exact hq8); exact hno i (by omega))
                · have er : refS σ p ps = -6 := by unfold refS; rw [if_neg e8, if_neg h5, if_neg h6, if_pos (hrb_iff.mpr ⟨j, hj12, hq9, by omega⟩)]
                  refine i_bipush C dX7_refusal_149 (kk := ?_)
                  exact i_iret C (d := dX7_refusal_151) (h := ⟨by rw [if_neg hl9, er]; rfl, _, hM, he8⟩)
          exact lp 13 0 (by omega) (by omega) (fun i hi => absurd hi (Nat.not_lt_zero i))
        · have h6 : 100 < gtz (cz (extT (upT (sT σ) p ps))) 12 := by omega
          have er : refS σ p ps = -5 := by unfold refS; rw [if_neg e8, if_neg h5, if_pos h6]
          refine i_bipush C dX7_refusal_101 (kk := ?_)
          exact i_iret C (d := dX7_refusal_103) (h := ⟨by rw [if_neg hl9, er]; rfl, _, hM, he8⟩)
      · have er : refS σ p ps = -4 := by unfold refS; rw [if_neg e8, if_pos (by omega)]
        refine i_bipush C dX7_refusal_88 (kk := ?_)
        exact i_iret C (d := dX7_refusal_90) (h := ⟨by rw [if_neg hl9, er]; rfl, _, hM, he8⟩)
    · have e8 := bz_ne.mp hB69
      have er : refS σ p ps = -3 := if_pos e8
      refine i_bipush C dX7_refusal_72 (kk := ?_)
      exact i_iret C (d := dX7_refusal_74) (h := ⟨by rw [if_neg hl9, er]; rfl, _, hM, he8⟩)
  refine i_icmp_lt C dX7_refusal_27 (tgt := 46) (kt := fun hB27 => ?_) (kf := fun hB27 => ?_)
  · have hl9 : (sUr σ k < frcS σ p ∨ (ver ≠ -1 ∧ rv < frcS σ p)) := by omega
    refine i_bipush C dX7_refusal_46 (kk := ?_)
    exact i_iret C (d := dX7_refusal_48) (h := ⟨by rw [if_pos hl9], _, hM, fun j hj => er2 j (by omega) (by omega) (by omega)⟩)
  · refine i_iload_n C dX7_refusal_30 (kk := ?_)
    refine i_iconst C dX7_refusal_31 (kk := ?_)
    refine i_icmp_eq C dX7_refusal_32 (tgt := 49) (kt := fun hB32 => ?_) (kf := fun hB32 => ?_)
    · exact jn (by omega)
    · obtain ⟨v, hv, hv2, hv3, hv4⟩ := hSrc2.2.2.resolve_left (fun q => hB32 q.1)
      refine i_aload_n C dX7_refusal_35 (kk := ?_)
      refine i_getf C f_X7_19 dX7_refusal_36 (hw := hM.obj) (kk := ?_)
      refine i_iload_n C dX7_refusal_39 (kk := ?_)
      refine m_ial C hM 5 (v) (N := 252) dX7_refusal_40 (kk := ?_)
      rw [er2 5 (by decide) (by decide) (by decide), hrv v hv]
      refine i_iload C dX7_refusal_41 (kk := ?_)
      refine i_icmp_ge C dX7_refusal_43 (tgt := 49) (kt := fun hB43 => ?_) (kf := fun hB43 => ?_)
      · exact jn (by omega)
      · have hl9 : (sUr σ k < frcS σ p ∨ (ver ≠ -1 ∧ rv < frcS σ p)) := by omega
        refine i_bipush C dX7_refusal_46 (kk := ?_)
        exact i_iret C (d := dX7_refusal_48) (h := ⟨by rw [if_pos hl9], _, hM, fun j hj => er2 j (by omega) (by omega) (by omega)⟩)

def oVersion (σ : Sg) (i : Int) : Rs := op3 (isPg i) True True σ (0, (sNv σ i.toNat : Int), σ)
def oRankOf (σ : Sg) (i : Int) : Rs := op3 (isPg i) True True σ (0, sRk σ i.toNat (sNv σ i.toNat), σ)
def oForce (σ : Sg) (i : Int) : Rs := op3 (isPg i) True True σ (0, frcS σ i.toNat, σ)
def oReaches (σ : Sg) (i : Int) : Rs := op3 (isPg i) True True σ (0, (rsT (sT σ) i.toNat : Int), σ)
def oExtent (σ : Sg) (i : Int) : Rs := op3 (isPg i) True True σ (0, (extT (sT σ) i.toNat : Int), σ)
def oSetRank (σ : Sg) (i j : Int) : Rs := op3 (isUs i) (0 ≤ j ∧ j ≤ 3) True σ (0, sUr σ i.toNat, uUr σ i.toNat j)
def oLock (σ : Sg) (i0 i j : Int) : Rs := op3 (isUs i0 ∧ isPg i) (0 ≤ j ∧ j ≤ 3) True σ (if sUr σ i0.toNat < sLk σ i.toNat ∨ sUr σ i0.toNat < j then (0, -2, σ) else (0, sLk σ i.toNat, uLk σ i.toNat j))
def oApprove (σ : Sg) (i0 i : Int) : Rs := op3 (isUs i0 ∧ isPg i) True True σ (if frcS σ i.toNat ≤ sUr σ i0.toNat ∧ sRk σ i.toNat (sNv σ i.toNat) < sUr σ i0.toNat then (0, 1, uRk σ i.toNat (sNv σ i.toNat) (sUr σ i0.toNat)) else (0, 0, σ))
def oUndo (σ : Sg) (i0 i : Int) : Rs := op3 (isUs i0 ∧ isPg i) ((isUs i0 ∧ isPg i) ∧ 0 < sNv σ i.toNat) True σ (if unS σ i0.toNat i.toNat = -1 then (0, ((sNv σ i.toNat - 1 : Nat) : Int), uVn σ i.toNat (sNv σ i.toNat - 1)) else (0, unS σ i0.toNat i.toNat, σ))
def oEdit (σ : Sg) (i0 i : Int) : Rs := op3 (isUs i0 ∧ isPg i) ((isUs i0 ∧ isPg i) ∧ owc (sDr σ) = 0 ∧ sNv σ i.toNat < 20) True σ (if edS σ i0.toNat i.toNat = -1 then (0, ((sNv σ i.toNat + 1 : Nat) : Int), uEd σ i0.toNat i.toNat) else (0, edS σ i0.toNat i.toNat, uDr σ []))
set_option maxRecDepth 100000 in
set_option maxHeartbeats 4000000 in
theorem c_X7_version (l : Launch) (hl : l.stackTraces = false) (D : gD) {w0 w : wW} {τ ad : Nat → Nat} {σ : Sg} {la : Int} {i : Int} (hI : MdI D w0 w τ ad σ la := by assumption) (hi : inR i := by omega) : CTm l D yX7_version cX7_version 2 (some .int) (rmL 3 0 0) [.ref (ad 5000), .int (Z32 i)] w (fun u w1 => u = some (.int (Z32 (oVersion σ i).2.1)) ∧ MdJ D w0 w1 τ ad (oVersion σ i).2.2 (oVersion σ i).1) := by
  refine CTm_of hl false rfl (by rfl) (Nat.le_of_ble_eq_true rfl) (fun h => nomatch h) ?_
  intro G C
  show G 0 0 w [some (.ref (ad 5000)), some (.int (Z32 i))] 0 []
  obtain ⟨hS, F, dn, op, sh, hM, hV⟩ := hI
  refine i_aload_n C dX7_version_0 (kk := ?_)
  refine i_iload_n C dX7_version_1 (kk := ?_)
  refine i_callS C lk_X7_91 (c_X7_isPage l hl D (v := i)) (hst := rfl) dX7_version_2 (kk := fun v2 w2 g2 => ?_)
  obtain ⟨rfl, q2⟩ := g2
  have q2 := q2.symm
  subst q2
  refine i_iconst C dX7_version_5 (kk := ?_)
  refine i_iconst C dX7_version_6 (kk := ?_)
  refine i_callV C lk_X7_83 (c_X7_goes l hl D (hM := hM) (a := bz (isPg i)) (b := 1) (c := 1) (by rcases bz_R (isPg i) with h | h <;> omega) (by decide) (by decide)) (hcl := rfl) (hst := rfl) dX7_version_7 (hw := hM.obj) (kk := fun v7 w7 g7 => ?_)
  obtain ⟨rfl, hM⟩ := g7
  replace hM : MdR D w0 w7 τ ad F _ op sh (gol (bz (isPg i)) (bz (True)) (bz (True))) := hM
  show G _ _ _ _ _ (.int (Z32 (bz (gol (bz (isPg i)) (bz (True)) (bz (True)) = 0))) :: _)
  refine i_if_eq C dX7_version_10 (tgt := 22) (ha := by rcases bz_R (gol (bz (isPg i)) (bz (True)) (bz (True)) = 0) with h | h <;> omega) (kt := fun hB10 => ?_) (kf := fun hB10 => ?_)
  · have hz : gol (bz (isPg i)) (bz (True)) (bz (True)) ≠ 0 := bz_z.mp hB10
    have e0 : oVersion σ i = (gol (bz (isPg i)) (bz (True)) (bz (True)), 0, σ) := op3_no hz
    refine i_iconst C dX7_version_22 (kk := ?_)
    exact i_iret C (d := dX7_version_23) (h := by first | (rw [e0]; exact ⟨rfl, F, _, _, _, hM, hV⟩) | (rw [e0]; exact ⟨rfl, _, _, _, _, hM, hV⟩))
  · have hz : gol (bz (isPg i)) (bz (True)) (bz (True)) = 0 := bz_ne.mp hB10
    obtain ⟨e0, pa, pb, pc3⟩ := op3_yes (σ := σ) (X := (0, (sNv σ i.toNat : Int), σ)) hz
    have e0 : oVersion σ i = (0, (sNv σ i.toNat : Int), σ) := e0
    rw [hz] at hM
    obtain ⟨p, hp, rfl⟩ : ∃ p : Nat, p < 12 ∧ i = (p : Int) := ⟨i.toNat, by omega, by omega⟩
    simp only [Int.toNat_natCast] at e0
    refine i_aload_n C dX7_version_13 (kk := ?_)
    refine i_getf C f_X7_22 dX7_version_14 (hw := hM.obj) (kk := ?_)
    refine i_iload_n C dX7_version_17 (kk := ?_)
    refine m_ial C hM 6 (p) (N := 12) dX7_version_18 (kk := ?_)
    rw [(hV.2.2.2.1 p hp).1]
    refine i_goto C dX7_version_19 (tgt := 23) (kk := ?_)
    exact i_iret C (d := dX7_version_23) (h := by first | (rw [e0]; exact ⟨rfl, F, _, _, _, hM, hV⟩) | (rw [e0]; exact ⟨rfl, _, _, _, _, hM, hV⟩))

set_option maxRecDepth 100000 in
set_option maxHeartbeats 4000000 in
theorem c_X7_rankOf (l : Launch) (hl : l.stackTraces = false) (D : gD) {w0 w : wW} {τ ad : Nat → Nat} {σ : Sg} {la : Int} {i : Int} (hI : MdI D w0 w τ ad σ la := by assumption) (hi : inR i := by omega) : CTm l D yX7_rankOf cX7_rankOf 2 (some .int) (rmL 3 0 0) [.ref (ad 5000), .int (Z32 i)] w (fun u w1 => u = some (.int (Z32 (oRankOf σ i).2.1)) ∧ MdJ D w0 w1 τ ad (oRankOf σ i).2.2 (oRankOf σ i).1) := by
  refine CTm_of hl false rfl (by rfl) (Nat.le_of_ble_eq_true rfl) (fun h => nomatch h) ?_
  intro G C
  show G 0 0 w [some (.ref (ad 5000)), some (.int (Z32 i))] 0 []
  obtain ⟨hS, F, dn, op, sh, hM, hV⟩ := hI
  refine i_aload_n C dX7_rankOf_0 (kk := ?_)
  refine i_iload_n C dX7_rankOf_1 (kk := ?_)
  refine i_callS C lk_X7_91 (c_X7_isPage l hl D (v := i)) (hst := rfl) dX7_rankOf_2 (kk := fun v2 w2 g2 => ?_)
  obtain ⟨rfl, q2⟩ := g2
  have q2 := q2.symm
  subst q2
  refine i_iconst C dX7_rankOf_5 (kk := ?_)
  refine i_iconst C dX7_rankOf_6 (kk := ?_)
  refine i_callV C lk_X7_83 (c_X7_goes l hl D (hM := hM) (a := bz (isPg i)) (b := 1) (c := 1) (by rcases bz_R (isPg i) with h | h <;> omega) (by decide) (by decide)) (hcl := rfl) (hst := rfl) dX7_rankOf_7 (hw := hM.obj) (kk := fun v7 w7 g7 => ?_)
  obtain ⟨rfl, hM⟩ := g7
  replace hM : MdR D w0 w7 τ ad F _ op sh (gol (bz (isPg i)) (bz (True)) (bz (True))) := hM
  show G _ _ _ _ _ (.int (Z32 (bz (gol (bz (isPg i)) (bz (True)) (bz (True)) = 0))) :: _)
  refine i_if_eq C dX7_rankOf_10 (tgt := 26) (ha := by rcases bz_R (gol (bz (isPg i)) (bz (True)) (bz (True)) = 0) with h | h <;> omega) (kt := fun hB10 => ?_) (kf := fun hB10 => ?_)
  · have hz : gol (bz (isPg i)) (bz (True)) (bz (True)) ≠ 0 := bz_z.mp hB10
    have e0 : oRankOf σ i = (gol (bz (isPg i)) (bz (True)) (bz (True)), 0, σ) := op3_no hz
    refine i_iconst C dX7_rankOf_26 (kk := ?_)
    exact i_iret C (d := dX7_rankOf_27) (h := by first | (rw [e0]; exact ⟨rfl, F, _, _, _, hM, hV⟩) | (rw [e0]; exact ⟨rfl, _, _, _, _, hM, hV⟩))
  · have hz : gol (bz (isPg i)) (bz (True)) (bz (True)) = 0 := bz_ne.mp hB10
    obtain ⟨e0, pa, pb, pc3⟩ := op3_yes (σ := σ) (X := (0, sRk σ i.toNat (sNv σ i.toNat), σ)) hz
    have e0 : oRankOf σ i = (0, sRk σ i.toNat (sNv σ i.toNat), σ) := e0
    rw [hz] at hM
    obtain ⟨p, hp, rfl⟩ : ∃ p : Nat, p < 12 ∧ i = (p : Int) := ⟨i.toNat, by omega, by omega⟩
    simp only [Int.toNat_natCast] at e0
    refine i_aload_n C dX7_rankOf_13 (kk := ?_)
    refine i_getf C f_X7_19 dX7_rankOf_14 (hw := hM.obj) (kk := ?_)
    refine i_aload_n C dX7_rankOf_17 (kk := ?_)
    refine i_iload_n C dX7_rankOf_18 (kk := ?_)
    refine i_callV C lk_X7_97 (c_X7_now l hl D (hM := hM) (p := p) (v := sNv σ p) hp (hV.2.2.2.1 p hp).1 (hS.2.1 p hp).1) (hcl := rfl) (hst := rfl) dX7_rankOf_19 (hw := hM.obj) (kk := fun v19 w19 g19 => ?_)
    obtain ⟨rfl, q19⟩ := g19
    have q19 := q19.symm
    subst q19
    have h20 := (hS.2.1 p hp).1
    refine m_ial C hM 5 (21 * p + sNv σ p) (N := 252) dX7_rankOf_22 (kk := ?_)
    rw [((hV.2.2.2.1 p hp).2.2 _ (Nat.le_refl _)).2.1]
    refine i_goto C dX7_rankOf_23 (tgt := 27) (kk := ?_)
    exact i_iret C (d := dX7_rankOf_27) (h := by first | (rw [e0]; exact ⟨rfl, F, _, _, _, hM, hV⟩) | (rw [e0]; exact ⟨rfl, _, _, _, _, hM, hV⟩))

set_option maxRecDepth 100000 in
set_option maxHeartbeats 4000000 in
theorem c_X7_force (l : Launch) (hl : l.stackTraces = false) (D : gD) {w0 w : wW} {τ ad : Nat → Nat} {σ : Sg} {la : Int} {i : Int} (hI : MdI D w0 w τ ad σ la := by assumption) (hi : inR i := by omega) : CTm l D yX7_force cX7_force 2 (some .int) (rmL 4 0 0) [.ref (ad 5000), .int (Z32 i)] w (fun u w1 => u = some (.int (Z32 (oForce σ i).2.1)) ∧ MdJ D w0 w1 τ ad (oForce σ i).2.2 (oForce σ i).1) := by
  refine CTm_of hl false rfl (by rfl) (Nat.le_of_ble_eq_true rfl) (fun h => nomatch h) ?_
  intro G C
  show G 0 0 w [some (.ref (ad 5000)), some (.int (Z32 i))] 0 []
  obtain ⟨hS, F, dn, op, sh, hM, hV⟩ := hI
  refine i_aload_n C dX7_force_0 (kk := ?_)
  refine i_iload_n C dX7_force_1 (kk := ?_)
  refine i_callS C lk_X7_91 (c_X7_isPage l hl D (v := i)) (hst := rfl) dX7_force_2 (kk := fun v2 w2 g2 => ?_)
  obtain ⟨rfl, q2⟩ := g2
  have q2 := q2.symm
  subst q2
  refine i_iconst C dX7_force_5 (kk := ?_)
  refine i_iconst C dX7_force_6 (kk := ?_)
  refine i_callV C lk_X7_83 (c_X7_goes l hl D (hM := hM) (a := bz (isPg i)) (b := 1) (c := 1) (by rcases bz_R (isPg i) with h | h <;> omega) (by decide) (by decide)) (hcl := rfl) (hst := rfl) dX7_force_7 (hw := hM.obj) (kk := fun v7 w7 g7 => ?_)
  obtain ⟨rfl, hM⟩ := g7
  replace hM : MdR D w0 w7 τ ad F _ op sh (gol (bz (isPg i)) (bz (True)) (bz (True))) := hM
  show G _ _ _ _ _ (.int (Z32 (bz (gol (bz (isPg i)) (bz (True)) (bz (True)) = 0))) :: _)
  refine i_if_ne C dX7_force_10 (tgt := 15) (ha := by rcases bz_R (gol (bz (isPg i)) (bz (True)) (bz (True)) = 0) with h | h <;> omega) (kt := fun hB10 => ?_) (kf := fun hB10 => ?_)
  · have hz : gol (bz (isPg i)) (bz (True)) (bz (True)) = 0 := bz_ne.mp hB10
    obtain ⟨e0, pa, pb, pc3⟩ := op3_yes (σ := σ) (X := (0, frcS σ i.toNat, σ)) hz
    have e0 : oForce σ i = (0, frcS σ i.toNat, σ) := e0
    rw [hz] at hM
    obtain ⟨p, hp, rfl⟩ : ∃ p : Nat, p < 12 ∧ i = (p : Int) := ⟨i.toNat, by omega, by omega⟩
    simp only [Int.toNat_natCast] at e0
    refine i_aload_n C dX7_force_15 (kk := ?_)
    refine i_callV C lk_X7_112 (c_X7_laysNow l hl D (hM := hM) hS hV) (hcl := rfl) (hst := rfl) dX7_force_16 (hw := hM.obj) (kk := fun v16 w16 g16 => ?_)
    obtain ⟨rfl, F2, hM, er2, hcal, hrs⟩ := g16
    have hV2 := hV.congr (F' := F2) (fun j hj => er2 j (by omega) (by omega) (by omega))
    refine i_aload_n C dX7_force_19 (kk := ?_)
    refine i_iload_n C dX7_force_20 (kk := ?_)
    refine i_callV C lk_X7_115 (c_X7_forceOf l hl D (hM := hM) (p := p) (lk := sLk σ) (fr := rsT (sT σ)) hp (fun j hj => (hV2.2.2.2.1 j hj).2.1) hrs (fun j hj => (hS.2.1 j hj).2.1) (fun j hj => rsT_lt)) (hcl := rfl) (hst := rfl) dX7_force_21 (hw := hM.obj) (kk := fun v21 w21 g21 => ?_)
    obtain ⟨rfl, q21⟩ := g21
    have q21 := q21.symm
    subst q21
    show G _ _ _ _ _ (.int (Z32 (frcS σ p)) :: _)
    exact i_iret C (d := dX7_force_24) (h := by rw [e0]; exact ⟨rfl, _, _, _, _, hM, hV2⟩)
  · have hz : gol (bz (isPg i)) (bz (True)) (bz (True)) ≠ 0 := bz_z.mp hB10
    have e0 : oForce σ i = (gol (bz (isPg i)) (bz (True)) (bz (True)), 0, σ) := op3_no hz
    refine i_iconst C dX7_force_13 (kk := ?_)
    exact i_iret C (d := dX7_force_14) (h := by rw [e0]; exact ⟨rfl, F, _, _, _, hM, hV⟩)

set_option maxRecDepth 100000 in
set_option maxHeartbeats 4000000 in
theorem c_X7_reaches (l : Launch) (hl : l.stackTraces = false) (D : gD) {w0 w : wW} {τ ad : Nat → Nat} {σ : Sg} {la : Int} {i : Int} (hI : MdI D w0 w τ ad σ la := by assumption) (hi : inR i := by omega) : CTm l D yX7_reaches cX7_reaches 2 (some .int) (rmL 4 0 0) [.ref (ad 5000), .int (Z32 i)] w (fun u w1 => u = some (.int (Z32 (oReaches σ i).2.1)) ∧ MdJ D w0 w1 τ ad (oReaches σ i).2.2 (oReaches σ i).1) := by
  refine CTm_of hl false rfl (by rfl) (Nat.le_of_ble_eq_true rfl) (fun h => nomatch h) ?_
  intro G C
  show G 0 0 w [some (.ref (ad 5000)), some (.int (Z32 i))] 0 []
  obtain ⟨hS, F, dn, op, sh, hM, hV⟩ := hI
  refine i_aload_n C dX7_reaches_0 (kk := ?_)
  refine i_iload_n C dX7_reaches_1 (kk := ?_)
  refine i_callS C lk_X7_91 (c_X7_isPage l hl D (v := i)) (hst := rfl) dX7_reaches_2 (kk := fun v2 w2 g2 => ?_)
  obtain ⟨rfl, q2⟩ := g2
  have q2 := q2.symm
  subst q2
  refine i_iconst C dX7_reaches_5 (kk := ?_)
  refine i_iconst C dX7_reaches_6 (kk := ?_)
  refine i_callV C lk_X7_83 (c_X7_goes l hl D (hM := hM) (a := bz (isPg i)) (b := 1) (c := 1) (by rcases bz_R (isPg i) with h | h <;> omega) (by decide) (by decide)) (hcl := rfl) (hst := rfl) dX7_reaches_7 (hw := hM.obj) (kk := fun v7 w7 g7 => ?_)
  obtain ⟨rfl, hM⟩ := g7
  replace hM : MdR D w0 w7 τ ad F _ op sh (gol (bz (isPg i)) (bz (True)) (bz (True))) := hM
  show G _ _ _ _ _ (.int (Z32 (bz (gol (bz (isPg i)) (bz (True)) (bz (True)) = 0))) :: _)
  refine i_if_ne C dX7_reaches_10 (tgt := 15) (ha := by rcases bz_R (gol (bz (isPg i)) (bz (True)) (bz (True)) = 0) with h | h <;> omega) (kt := fun hB10 => ?_) (kf := fun hB10 => ?_)
  · have hz : gol (bz (isPg i)) (bz (True)) (bz (True)) = 0 := bz_ne.mp hB10
    obtain ⟨e0, pa, pb, pc3⟩ := op3_yes (σ := σ) (X := (0, (rsT (sT σ) i.toNat : Int), σ)) hz
    have e0 : oReaches σ i = (0, (rsT (sT σ) i.toNat : Int), σ) := e0
    rw [hz] at hM
    obtain ⟨p, hp, rfl⟩ : ∃ p : Nat, p < 12 ∧ i = (p : Int) := ⟨i.toNat, by omega, by omega⟩
    simp only [Int.toNat_natCast] at e0
    refine i_aload_n C dX7_reaches_15 (kk := ?_)
    refine i_callV C lk_X7_112 (c_X7_laysNow l hl D (hM := hM) hS hV) (hcl := rfl) (hst := rfl) dX7_reaches_16 (hw := hM.obj) (kk := fun v16 w16 g16 => ?_)
    obtain ⟨rfl, F2, hM, er2, hcal, hrs⟩ := g16
    have hV2 := hV.congr (F' := F2) (fun j hj => er2 j (by omega) (by omega) (by omega))
    refine i_aload_n C dX7_reaches_19 (kk := ?_)
    refine i_getf C f_X7_37 dX7_reaches_20 (hw := hM.obj) (kk := ?_)
    refine i_iload_n C dX7_reaches_23 (kk := ?_)
    refine m_ial C hM 11 (p) (N := 12) dX7_reaches_24 (kk := ?_)
    rw [hrs p hp]
    exact i_iret C (d := dX7_reaches_25) (h := by rw [e0]; exact ⟨rfl, _, _, _, _, hM, hV2⟩)
  · have hz : gol (bz (isPg i)) (bz (True)) (bz (True)) ≠ 0 := bz_z.mp hB10
    have e0 : oReaches σ i = (gol (bz (isPg i)) (bz (True)) (bz (True)), 0, σ) := op3_no hz
    refine i_iconst C dX7_reaches_13 (kk := ?_)
    exact i_iret C (d := dX7_reaches_14) (h := by rw [e0]; exact ⟨rfl, F, _, _, _, hM, hV⟩)

set_option maxRecDepth 100000 in
set_option maxHeartbeats 4000000 in
theorem c_X7_extent (l : Launch) (hl : l.stackTraces = false) (D : gD) {w0 w : wW} {τ ad : Nat → Nat} {σ : Sg} {la : Int} {i : Int} (hI : MdI D w0 w τ ad σ la := by assumption) (hi : inR i := by omega) : CTm l D yX7_extent cX7_extent 2 (some .int) (rmL 4 0 0) [.ref (ad 5000), .int (Z32 i)] w (fun u w1 => u = some (.int (Z32 (oExtent σ i).2.1)) ∧ MdJ D w0 w1 τ ad (oExtent σ i).2.2 (oExtent σ i).1) := by
  refine CTm_of hl false rfl (by rfl) (Nat.le_of_ble_eq_true rfl) (fun h => nomatch h) ?_
  intro G C
  show G 0 0 w [some (.ref (ad 5000)), some (.int (Z32 i))] 0 []
  obtain ⟨hS, F, dn, op, sh, hM, hV⟩ := hI
  refine i_aload_n C dX7_extent_0 (kk := ?_)
  refine i_iload_n C dX7_extent_1 (kk := ?_)
  refine i_callS C lk_X7_91 (c_X7_isPage l hl D (v := i)) (hst := rfl) dX7_extent_2 (kk := fun v2 w2 g2 => ?_)
  obtain ⟨rfl, q2⟩ := g2
  have q2 := q2.symm
  subst q2
  refine i_iconst C dX7_extent_5 (kk := ?_)
  refine i_iconst C dX7_extent_6 (kk := ?_)
  refine i_callV C lk_X7_83 (c_X7_goes l hl D (hM := hM) (a := bz (isPg i)) (b := 1) (c := 1) (by rcases bz_R (isPg i) with h | h <;> omega) (by decide) (by decide)) (hcl := rfl) (hst := rfl) dX7_extent_7 (hw := hM.obj) (kk := fun v7 w7 g7 => ?_)
  obtain ⟨rfl, hM⟩ := g7
  replace hM : MdR D w0 w7 τ ad F _ op sh (gol (bz (isPg i)) (bz (True)) (bz (True))) := hM
  show G _ _ _ _ _ (.int (Z32 (bz (gol (bz (isPg i)) (bz (True)) (bz (True)) = 0))) :: _)
  refine i_if_ne C dX7_extent_10 (tgt := 15) (ha := by rcases bz_R (gol (bz (isPg i)) (bz (True)) (bz (True)) = 0) with h | h <;> omega) (kt := fun hB10 => ?_) (kf := fun hB10 => ?_)
  · have hz : gol (bz (isPg i)) (bz (True)) (bz (True)) = 0 := bz_ne.mp hB10
    obtain ⟨e0, pa, pb, pc3⟩ := op3_yes (σ := σ) (X := (0, (extT (sT σ) i.toNat : Int), σ)) hz
    have e0 : oExtent σ i = (0, (extT (sT σ) i.toNat : Int), σ) := e0
    rw [hz] at hM
    obtain ⟨p, hp, rfl⟩ : ∃ p : Nat, p < 12 ∧ i = (p : Int) := ⟨i.toNat, by omega, by omega⟩
    simp only [Int.toNat_natCast] at e0
    refine i_aload_n C dX7_extent_15 (kk := ?_)
    refine i_callV C lk_X7_112 (c_X7_laysNow l hl D (hM := hM) hS hV) (hcl := rfl) (hst := rfl) dX7_extent_16 (hw := hM.obj) (kk := fun v16 w16 g16 => ?_)
    obtain ⟨rfl, F2, hM, er2, hcal, hrs⟩ := g16
    have hV2 := hV.congr (F' := F2) (fun j hj => er2 j (by omega) (by omega) (by omega))
    refine i_aload_n C dX7_extent_19 (kk := ?_)
    refine i_callV C lk_X7_118 (c_X7_measures l hl D (hM := hM) (T := sT σ) (fun q hq => ((hS.2.1 q hq).2.2.2.2.2 _ (Nat.le_refl _)).1.2.2) hcal hS.acy) (hcl := rfl) (hst := rfl) dX7_extent_20 (hw := hM.obj) (kk := fun v20 w20 g20 => ?_)
    obtain ⟨rfl, F3, hM, er3, hme⟩ := g20
    have hV3 := hV2.congr (F' := F3) (fun j hj => er3 j (by omega) (by omega))
    have hx := (hS.2.1 p hp).2.2.2.1
    refine i_aload_n C dX7_extent_23 (kk := ?_)
    refine i_getf C f_X7_43 dX7_extent_24 (hw := hM.obj) (kk := ?_)
    refine i_iload_n C dX7_extent_27 (kk := ?_)
    refine m_ial C hM 13 (p) (N := 12) dX7_extent_28 (kk := ?_)
    rw [(hme p hp).2, Nat.min_eq_left (by omega)]
    exact i_iret C (d := dX7_extent_29) (h := by rw [e0]; exact ⟨rfl, _, _, _, _, hM, hV3⟩)
  · have hz : gol (bz (isPg i)) (bz (True)) (bz (True)) ≠ 0 := bz_z.mp hB10
    have e0 : oExtent σ i = (gol (bz (isPg i)) (bz (True)) (bz (True)), 0, σ) := op3_no hz
    refine i_iconst C dX7_extent_13 (kk := ?_)
    exact i_iret C (d := dX7_extent_14) (h := by rw [e0]; exact ⟨rfl, F, _, _, _, hM, hV⟩)
